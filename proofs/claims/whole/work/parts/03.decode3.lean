theorem dX5_goOver_49 : decode cX5_goOver 49 = .ok (.aload_n 0, 1) := by decide +kernel
theorem dX5_goOver_50 : decode cX5_goOver 50 = .ok (.lload 7, 2) := by decide +kernel
theorem dX5_goOver_52 : decode cX5_goOver 52 = .ok (.ldc2_w 121, 3) := by decide +kernel
theorem dX5_goOver_55 : decode cX5_goOver 55 = .ok (.invokevirtual 131, 3) := by decide +kernel
theorem dX5_goOver_58 : decode cX5_goOver 58 = .ok (.lstore 9, 2) := by decide +kernel
theorem dX5_goOver_60 : decode cX5_goOver 60 = .ok (.lload 9, 2) := by decide +kernel
theorem dX5_goOver_62 : decode cX5_goOver 62 = .ok (.ldc2_w 99, 3) := by decide +kernel
theorem dX5_goOver_65 : decode cX5_goOver 65 = .ok (.lcmp, 1) := by decide +kernel
theorem dX5_goOver_66 : decode cX5_goOver 66 = .ok (.ifCond .ge 63, 3) := by decide +kernel
theorem dX5_goOver_69 : decode cX5_goOver 69 = .ok (.aload_n 0, 1) := by decide +kernel
theorem dX5_goOver_70 : decode cX5_goOver 70 = .ok (.dup, 1) := by decide +kernel
theorem dX5_goOver_71 : decode cX5_goOver 71 = .ok (.getfield 118, 3) := by decide +kernel
theorem dX5_goOver_74 : decode cX5_goOver 74 = .ok (.iconst 1, 1) := by decide +kernel
theorem dX5_goOver_75 : decode cX5_goOver 75 = .ok (.iadd, 1) := by decide +kernel
theorem dX5_goOver_76 : decode cX5_goOver 76 = .ok (.putfield 118, 3) := by decide +kernel
theorem dX5_goOver_79 : decode cX5_goOver 79 = .ok (.iload 5, 2) := by decide +kernel
theorem dX5_goOver_81 : decode cX5_goOver 81 = .ok (.ifCond .eq 35, 3) := by decide +kernel
theorem dX5_goOver_84 : decode cX5_goOver 84 = .ok (.aload_n 0, 1) := by decide +kernel
theorem dX5_goOver_85 : decode cX5_goOver 85 = .ok (.lload 7, 2) := by decide +kernel
theorem dX5_goOver_87 : decode cX5_goOver 87 = .ok (.lload 9, 2) := by decide +kernel
theorem dX5_goOver_89 : decode cX5_goOver 89 = .ok (.l2i, 1) := by decide +kernel
theorem dX5_goOver_90 : decode cX5_goOver 90 = .ok (.invokevirtual 135, 3) := by decide +kernel
theorem dX5_goOver_93 : decode cX5_goOver 93 = .ok (.aload_n 0, 1) := by decide +kernel
theorem dX5_goOver_94 : decode cX5_goOver 94 = .ok (.iconst 1, 1) := by decide +kernel
theorem dX5_goOver_95 : decode cX5_goOver 95 = .ok (.lload 7, 2) := by decide +kernel
theorem dX5_goOver_97 : decode cX5_goOver 97 = .ok (.l2i, 1) := by decide +kernel
theorem dX5_goOver_98 : decode cX5_goOver 98 = .ok (.lload 9, 2) := by decide +kernel
theorem dX5_goOver_100 : decode cX5_goOver 100 = .ok (.l2i, 1) := by decide +kernel
theorem dX5_goOver_101 : decode cX5_goOver 101 = .ok (.aload_n 0, 1) := by decide +kernel
theorem dX5_goOver_102 : decode cX5_goOver 102 = .ok (.getfield 109, 3) := by decide +kernel
theorem dX5_goOver_105 : decode cX5_goOver 105 = .ok (.aload_n 0, 1) := by decide +kernel
theorem dX5_goOver_106 : decode cX5_goOver 106 = .ok (.getfield 112, 3) := by decide +kernel
theorem dX5_goOver_109 : decode cX5_goOver 109 = .ok (.aload_n 0, 1) := by decide +kernel
theorem dX5_goOver_110 : decode cX5_goOver 110 = .ok (.getfield 115, 3) := by decide +kernel
theorem dX5_goOver_113 : decode cX5_goOver 113 = .ok (.invokevirtual 79, 3) := by decide +kernel
theorem dX5_goOver_116 : decode cX5_goOver 116 = .ok (.aload_n 0, 1) := by decide +kernel
theorem dX5_goOver_117 : decode cX5_goOver 117 = .ok (.lload 7, 2) := by decide +kernel
theorem dX5_goOver_119 : decode cX5_goOver 119 = .ok (.lload 9, 2) := by decide +kernel
theorem dX5_goOver_121 : decode cX5_goOver 121 = .ok (.invokevirtual 131, 3) := by decide +kernel
theorem dX5_goOver_124 : decode cX5_goOver 124 = .ok (.lstore 9, 2) := by decide +kernel
theorem dX5_goOver_126 : decode cX5_goOver 126 = .ok (.goto (-66), 3) := by decide +kernel
theorem dX5_goOver_129 : decode cX5_goOver 129 = .ok (.aload_n 0, 1) := by decide +kernel
theorem dX5_goOver_130 : decode cX5_goOver 130 = .ok (.lload 7, 2) := by decide +kernel
theorem dX5_goOver_132 : decode cX5_goOver 132 = .ok (.invokevirtual 123, 3) := by decide +kernel
theorem dX5_goOver_135 : decode cX5_goOver 135 = .ok (.lstore 7, 2) := by decide +kernel
theorem dX5_goOver_137 : decode cX5_goOver 137 = .ok (.goto (-120), 3) := by decide +kernel
theorem dX5_goOver_140 : decode cX5_goOver 140 = .ok (.iload 6, 2) := by decide +kernel
theorem dX5_goOver_142 : decode cX5_goOver 142 = .ok (.ireturn, 1) := by decide +kernel
set_option maxRecDepth 20000 in
theorem ggX5_isKept_X5_mark : GoodIn wsX5_isKept wsX5_mark := goodIn_r _ [8, 9, 20, 21, 22, 23, 24, 25, 26, 27, 28, 29, 30, 31, 32, 33, 34, 35, 36, 37, 38, 39, 40] (by decide +kernel) (by decide +kernel)
set_option maxRecDepth 20000 in
theorem gX5_isKept_X5_mark : GoodIn wsX5_isKept (wsV RX5 87 RX5 yX5_mark wsX5_mark) := goodIn_app (goodIn_of _ (by decide +kernel)) ggX5_isKept_X5_mark
set_option maxRecDepth 20000 in
theorem ggX5_isKept_X5_lastEnd : GoodIn wsX5_isKept wsX5_lastEnd := goodIn_r _ [13, 1, 14, 15, 20, 21, 22, 23, 24, 25, 26, 27, 28, 29, 30, 31, 32, 33, 34, 35, 36, 37, 38, 39, 40] (by decide +kernel) (by decide +kernel)
set_option maxRecDepth 20000 in
theorem gX5_isKept_X5_lastEnd : GoodIn wsX5_isKept (wsV RX5 101 RX5 yX5_lastEnd wsX5_lastEnd) := goodIn_app (goodIn_of _ (by decide +kernel)) ggX5_isKept_X5_lastEnd
set_option maxRecDepth 20000 in
theorem ggX5_isKept_X5_isOver : GoodIn wsX5_isKept wsX5_isOver := goodIn_r _ [19, 3, 20, 21, 22, 23, 24, 25, 26, 27, 28, 29, 30, 31, 32, 33, 34, 35, 36, 37, 38, 39, 40] (by decide +kernel) (by decide +kernel)
set_option maxRecDepth 20000 in
theorem gX5_isKept_X5_isOver : GoodIn wsX5_isKept (wsV RX5 127 RX5 yX5_isOver wsX5_isOver) := goodIn_app (goodIn_of _ (by decide +kernel)) ggX5_isKept_X5_isOver
theorem dX5_isKept_0 : decode cX5_isKept 0 = .ok (.aload_n 0, 1) := by decide +kernel
theorem dX5_isKept_1 : decode cX5_isKept 1 = .ok (.getfield 22, 3) := by decide +kernel
theorem dX5_isKept_4 : decode cX5_isKept 4 = .ok (.iload_n 2, 1) := by decide +kernel
theorem dX5_isKept_5 : decode cX5_isKept 5 = .ok (.iaload, 1) := by decide +kernel
theorem dX5_isKept_6 : decode cX5_isKept 6 = .ok (.i2l, 1) := by decide +kernel
theorem dX5_isKept_7 : decode cX5_isKept 7 = .ok (.aload_n 0, 1) := by decide +kernel
theorem dX5_isKept_8 : decode cX5_isKept 8 = .ok (.getfield 70, 3) := by decide +kernel
theorem dX5_isKept_11 : decode cX5_isKept 11 = .ok (.i2l, 1) := by decide +kernel
theorem dX5_isKept_12 : decode cX5_isKept 12 = .ok (.ladd, 1) := by decide +kernel
theorem dX5_isKept_13 : decode cX5_isKept 13 = .ok (.aload_n 0, 1) := by decide +kernel
theorem dX5_isKept_14 : decode cX5_isKept 14 = .ok (.invokevirtual 87, 3) := by decide +kernel
theorem dX5_isKept_17 : decode cX5_isKept 17 = .ok (.i2l, 1) := by decide +kernel
theorem dX5_isKept_18 : decode cX5_isKept 18 = .ok (.aload_n 0, 1) := by decide +kernel
theorem dX5_isKept_19 : decode cX5_isKept 19 = .ok (.getfield 67, 3) := by decide +kernel
theorem dX5_isKept_22 : decode cX5_isKept 22 = .ok (.i2l, 1) := by decide +kernel
theorem dX5_isKept_23 : decode cX5_isKept 23 = .ok (.lsub, 1) := by decide +kernel
theorem dX5_isKept_24 : decode cX5_isKept 24 = .ok (.lcmp, 1) := by decide +kernel
theorem dX5_isKept_25 : decode cX5_isKept 25 = .ok (.ifCond .ge 24, 3) := by decide +kernel
theorem dX5_isKept_28 : decode cX5_isKept 28 = .ok (.iload_n 1, 1) := by decide +kernel
theorem dX5_isKept_29 : decode cX5_isKept 29 = .ok (.ifCond .ne 24, 3) := by decide +kernel
theorem dX5_isKept_32 : decode cX5_isKept 32 = .ok (.aload_n 0, 1) := by decide +kernel
theorem dX5_isKept_33 : decode cX5_isKept 33 = .ok (.aload_n 0, 1) := by decide +kernel
theorem dX5_isKept_34 : decode cX5_isKept 34 = .ok (.iload_n 2, 1) := by decide +kernel
theorem dX5_isKept_35 : decode cX5_isKept 35 = .ok (.invokevirtual 101, 3) := by decide +kernel
theorem dX5_isKept_38 : decode cX5_isKept 38 = .ok (.aload_n 0, 1) := by decide +kernel
theorem dX5_isKept_39 : decode cX5_isKept 39 = .ok (.invokevirtual 87, 3) := by decide +kernel
theorem dX5_isKept_42 : decode cX5_isKept 42 = .ok (.i2l, 1) := by decide +kernel
theorem dX5_isKept_43 : decode cX5_isKept 43 = .ok (.invokevirtual 127, 3) := by decide +kernel
theorem dX5_isKept_46 : decode cX5_isKept 46 = .ok (.ifCond .ne 7, 3) := by decide +kernel
theorem dX5_isKept_49 : decode cX5_isKept 49 = .ok (.iconst 1, 1) := by decide +kernel
theorem dX5_isKept_50 : decode cX5_isKept 50 = .ok (.goto 4, 3) := by decide +kernel
theorem dX5_isKept_53 : decode cX5_isKept 53 = .ok (.iconst 0, 1) := by decide +kernel
theorem dX5_isKept_54 : decode cX5_isKept 54 = .ok (.ireturn, 1) := by decide +kernel
set_option maxRecDepth 20000 in
theorem ggX5_sweep_X5_isKept : GoodIn wsX5_sweep wsX5_isKept := goodIn_r _ [9, 2, 10, 11, 12, 13, 14, 8, 15, 16, 17, 18, 19, 20, 21, 22, 23, 24, 25, 26, 27, 28, 29, 30, 31, 32, 33, 34, 35, 36, 37, 38, 39, 40, 41, 42, 43, 44, 45, 46, 47] (by decide +kernel) (by decide +kernel)
set_option maxRecDepth 20000 in
theorem gX5_sweep_X5_isKept : GoodIn wsX5_sweep (wsV RX5 139 RX5 yX5_isKept wsX5_isKept) := goodIn_app (goodIn_of _ (by decide +kernel)) ggX5_sweep_X5_isKept
theorem dX5_sweep_0 : decode cX5_sweep 0 = .ok (.sipush 200, 3) := by decide +kernel
theorem dX5_sweep_3 : decode cX5_sweep 3 = .ok (.iload_n 1, 1) := by decide +kernel
theorem dX5_sweep_4 : decode cX5_sweep 4 = .ok (.imul, 1) := by decide +kernel
theorem dX5_sweep_5 : decode cX5_sweep 5 = .ok (.istore_n 2, 1) := by decide +kernel
theorem dX5_sweep_6 : decode cX5_sweep 6 = .ok (.iconst 0, 1) := by decide +kernel
theorem dX5_sweep_7 : decode cX5_sweep 7 = .ok (.istore_n 3, 1) := by decide +kernel
theorem dX5_sweep_8 : decode cX5_sweep 8 = .ok (.iload_n 2, 1) := by decide +kernel
theorem dX5_sweep_9 : decode cX5_sweep 9 = .ok (.istore 4, 2) := by decide +kernel
theorem dX5_sweep_11 : decode cX5_sweep 11 = .ok (.iload 4, 2) := by decide +kernel
theorem dX5_sweep_13 : decode cX5_sweep 13 = .ok (.iload_n 2, 1) := by decide +kernel
theorem dX5_sweep_14 : decode cX5_sweep 14 = .ok (.aload_n 0, 1) := by decide +kernel
theorem dX5_sweep_15 : decode cX5_sweep 15 = .ok (.getfield 32, 3) := by decide +kernel
theorem dX5_sweep_18 : decode cX5_sweep 18 = .ok (.iload_n 1, 1) := by decide +kernel
theorem dX5_sweep_19 : decode cX5_sweep 19 = .ok (.iaload, 1) := by decide +kernel
theorem dX5_sweep_20 : decode cX5_sweep 20 = .ok (.iadd, 1) := by decide +kernel
theorem dX5_sweep_21 : decode cX5_sweep 21 = .ok (.if_icmp .ge 67, 3) := by decide +kernel
theorem dX5_sweep_24 : decode cX5_sweep 24 = .ok (.aload_n 0, 1) := by decide +kernel
theorem dX5_sweep_25 : decode cX5_sweep 25 = .ok (.iload_n 1, 1) := by decide +kernel
theorem dX5_sweep_26 : decode cX5_sweep 26 = .ok (.iload 4, 2) := by decide +kernel
theorem dX5_sweep_28 : decode cX5_sweep 28 = .ok (.invokevirtual 139, 3) := by decide +kernel
theorem dX5_sweep_31 : decode cX5_sweep 31 = .ok (.ifCond .eq 51, 3) := by decide +kernel
theorem dX5_sweep_34 : decode cX5_sweep 34 = .ok (.aload_n 0, 1) := by decide +kernel
theorem dX5_sweep_35 : decode cX5_sweep 35 = .ok (.getfield 22, 3) := by decide +kernel
theorem dX5_sweep_38 : decode cX5_sweep 38 = .ok (.iload_n 2, 1) := by decide +kernel
theorem dX5_sweep_39 : decode cX5_sweep 39 = .ok (.iload_n 3, 1) := by decide +kernel
theorem dX5_sweep_40 : decode cX5_sweep 40 = .ok (.iadd, 1) := by decide +kernel
theorem dX5_sweep_41 : decode cX5_sweep 41 = .ok (.aload_n 0, 1) := by decide +kernel
theorem dX5_sweep_42 : decode cX5_sweep 42 = .ok (.getfield 22, 3) := by decide +kernel
theorem dX5_sweep_45 : decode cX5_sweep 45 = .ok (.iload 4, 2) := by decide +kernel
theorem dX5_sweep_47 : decode cX5_sweep 47 = .ok (.iaload, 1) := by decide +kernel
theorem dX5_sweep_48 : decode cX5_sweep 48 = .ok (.iastore, 1) := by decide +kernel
theorem dX5_sweep_49 : decode cX5_sweep 49 = .ok (.aload_n 0, 1) := by decide +kernel
theorem dX5_sweep_50 : decode cX5_sweep 50 = .ok (.getfield 26, 3) := by decide +kernel
theorem dX5_sweep_53 : decode cX5_sweep 53 = .ok (.iload_n 2, 1) := by decide +kernel
theorem dX5_sweep_54 : decode cX5_sweep 54 = .ok (.iload_n 3, 1) := by decide +kernel
theorem dX5_sweep_55 : decode cX5_sweep 55 = .ok (.iadd, 1) := by decide +kernel
theorem dX5_sweep_56 : decode cX5_sweep 56 = .ok (.aload_n 0, 1) := by decide +kernel
theorem dX5_sweep_57 : decode cX5_sweep 57 = .ok (.getfield 26, 3) := by decide +kernel
theorem dX5_sweep_60 : decode cX5_sweep 60 = .ok (.iload 4, 2) := by decide +kernel
theorem dX5_sweep_62 : decode cX5_sweep 62 = .ok (.iaload, 1) := by decide +kernel
theorem dX5_sweep_63 : decode cX5_sweep 63 = .ok (.iastore, 1) := by decide +kernel
theorem dX5_sweep_64 : decode cX5_sweep 64 = .ok (.aload_n 0, 1) := by decide +kernel
theorem dX5_sweep_65 : decode cX5_sweep 65 = .ok (.getfield 29, 3) := by decide +kernel
theorem dX5_sweep_68 : decode cX5_sweep 68 = .ok (.iload_n 2, 1) := by decide +kernel
theorem dX5_sweep_69 : decode cX5_sweep 69 = .ok (.iload_n 3, 1) := by decide +kernel
theorem dX5_sweep_70 : decode cX5_sweep 70 = .ok (.iadd, 1) := by decide +kernel
theorem dX5_sweep_71 : decode cX5_sweep 71 = .ok (.aload_n 0, 1) := by decide +kernel
theorem dX5_sweep_72 : decode cX5_sweep 72 = .ok (.getfield 29, 3) := by decide +kernel
theorem dX5_sweep_75 : decode cX5_sweep 75 = .ok (.iload 4, 2) := by decide +kernel
theorem dX5_sweep_77 : decode cX5_sweep 77 = .ok (.iaload, 1) := by decide +kernel
theorem dX5_sweep_78 : decode cX5_sweep 78 = .ok (.iastore, 1) := by decide +kernel
theorem dX5_sweep_79 : decode cX5_sweep 79 = .ok (.iinc 3 1, 3) := by decide +kernel
theorem dX5_sweep_82 : decode cX5_sweep 82 = .ok (.iinc 4 1, 3) := by decide +kernel
theorem dX5_sweep_85 : decode cX5_sweep 85 = .ok (.goto (-74), 3) := by decide +kernel
theorem dX5_sweep_88 : decode cX5_sweep 88 = .ok (.aload_n 0, 1) := by decide +kernel
theorem dX5_sweep_89 : decode cX5_sweep 89 = .ok (.getfield 32, 3) := by decide +kernel
theorem dX5_sweep_92 : decode cX5_sweep 92 = .ok (.iload_n 1, 1) := by decide +kernel
theorem dX5_sweep_93 : decode cX5_sweep 93 = .ok (.iload_n 3, 1) := by decide +kernel
theorem dX5_sweep_94 : decode cX5_sweep 94 = .ok (.iastore, 1) := by decide +kernel
theorem dX5_sweep_95 : decode cX5_sweep 95 = .ok (.return_, 1) := by decide +kernel
set_option maxRecDepth 20000 in
theorem ggX5_pass_X5_isTime : GoodIn wsX5_pass wsX5_isTime := goodIn_r _ [9, 10, 11, 12, 13, 8, 14] (by decide +kernel) (by decide +kernel)
set_option maxRecDepth 20000 in
theorem gX5_pass_X5_isTime : GoodIn wsX5_pass (va_wsS RX5 83 yX5_isTime wsX5_isTime) := goodIn_app (goodIn_of _ (by decide +kernel)) ggX5_pass_X5_isTime
set_option maxRecDepth 20000 in
theorem ggX5_pass_X5_mark : GoodIn wsX5_pass wsX5_mark := goodIn_r _ [18, 1, 73, 74, 75, 76, 77, 78, 79, 80, 81, 82, 83, 84, 85, 86, 87, 88, 89, 90, 91, 92, 93] (by decide +kernel) (by decide +kernel)
set_option maxRecDepth 20000 in
theorem gX5_pass_X5_mark : GoodIn wsX5_pass (wsV RX5 87 RX5 yX5_mark wsX5_mark) := goodIn_app (goodIn_of _ (by decide +kernel)) ggX5_pass_X5_mark
set_option maxRecDepth 20000 in
theorem ggX5_pass_X5_goOver : GoodIn wsX5_pass wsX5_goOver := goodIn_r _ [22, 3, 23, 24, 25, 26, 27, 28, 29, 30, 8, 31, 32, 33, 34, 35, 36, 37, 38, 39, 40, 41, 42, 43, 44, 45, 46, 47, 48, 49, 50, 51, 52, 53, 54, 55, 56, 57, 58, 59, 60, 61, 62, 2, 63, 73, 74, 75, 76, 77, 78, 79, 80, 81, 82, 83, 84, 85, 86, 87, 88, 89, 90, 91, 92, 93] (by decide +kernel) (by decide +kernel)
set_option maxRecDepth 20000 in
theorem gX5_pass_X5_goOver : GoodIn wsX5_pass (wsV RX5 142 RX5 yX5_goOver wsX5_goOver) := goodIn_app (goodIn_of _ (by decide +kernel)) ggX5_pass_X5_goOver
set_option maxRecDepth 20000 in
theorem ggX5_pass_X5_sweep : GoodIn wsX5_pass wsX5_sweep := goodIn_r _ [67, 32, 38, 53, 58, 68, 69, 70, 8, 71, 72, 48, 15, 16, 17, 18, 1, 34, 35, 36, 37, 33, 39, 44, 45, 46, 47, 73, 74, 75, 76, 77, 78, 79, 80, 81, 82, 83, 84, 85, 86, 87, 88, 89, 90, 91, 92, 93] (by decide +kernel) (by decide +kernel)
set_option maxRecDepth 20000 in
theorem gX5_pass_X5_sweep : GoodIn wsX5_pass (wsV RX5 146 RX5 yX5_sweep wsX5_sweep) := goodIn_app (goodIn_of _ (by decide +kernel)) ggX5_pass_X5_sweep
theorem dX5_pass_0 : decode cX5_pass 0 = .ok (.iload_n 2, 1) := by decide +kernel
theorem dX5_pass_1 : decode cX5_pass 1 = .ok (.invokestatic 83, 3) := by decide +kernel
theorem dX5_pass_4 : decode cX5_pass 4 = .ok (.ifCond .ne 6, 3) := by decide +kernel
theorem dX5_pass_7 : decode cX5_pass 7 = .ok (.bipush (-2), 2) := by decide +kernel
theorem dX5_pass_9 : decode cX5_pass 9 = .ok (.ireturn, 1) := by decide +kernel
theorem dX5_pass_10 : decode cX5_pass 10 = .ok (.iload_n 2, 1) := by decide +kernel
theorem dX5_pass_11 : decode cX5_pass 11 = .ok (.aload_n 0, 1) := by decide +kernel
theorem dX5_pass_12 : decode cX5_pass 12 = .ok (.getfield 35, 3) := by decide +kernel
theorem dX5_pass_15 : decode cX5_pass 15 = .ok (.iload_n 1, 1) := by decide +kernel
theorem dX5_pass_16 : decode cX5_pass 16 = .ok (.iaload, 1) := by decide +kernel
theorem dX5_pass_17 : decode cX5_pass 17 = .ok (.if_icmp .gt 6, 3) := by decide +kernel
theorem dX5_pass_20 : decode cX5_pass 20 = .ok (.bipush (-5), 2) := by decide +kernel
theorem dX5_pass_22 : decode cX5_pass 22 = .ok (.ireturn, 1) := by decide +kernel
theorem dX5_pass_23 : decode cX5_pass 23 = .ok (.aload_n 0, 1) := by decide +kernel
theorem dX5_pass_24 : decode cX5_pass 24 = .ok (.invokevirtual 87, 3) := by decide +kernel
theorem dX5_pass_27 : decode cX5_pass 27 = .ok (.istore_n 3, 1) := by decide +kernel
theorem dX5_pass_28 : decode cX5_pass 28 = .ok (.aload_n 0, 1) := by decide +kernel
theorem dX5_pass_29 : decode cX5_pass 29 = .ok (.getfield 35, 3) := by decide +kernel
theorem dX5_pass_32 : decode cX5_pass 32 = .ok (.iload_n 1, 1) := by decide +kernel
theorem dX5_pass_33 : decode cX5_pass 33 = .ok (.iaload, 1) := by decide +kernel
theorem dX5_pass_34 : decode cX5_pass 34 = .ok (.istore 4, 2) := by decide +kernel
theorem dX5_pass_36 : decode cX5_pass 36 = .ok (.aload_n 0, 1) := by decide +kernel
theorem dX5_pass_37 : decode cX5_pass 37 = .ok (.getfield 35, 3) := by decide +kernel
theorem dX5_pass_40 : decode cX5_pass 40 = .ok (.iload_n 1, 1) := by decide +kernel
theorem dX5_pass_41 : decode cX5_pass 41 = .ok (.iload_n 2, 1) := by decide +kernel
theorem dX5_pass_42 : decode cX5_pass 42 = .ok (.iastore, 1) := by decide +kernel
theorem dX5_pass_43 : decode cX5_pass 43 = .ok (.aload_n 0, 1) := by decide +kernel
theorem dX5_pass_44 : decode cX5_pass 44 = .ok (.iload_n 3, 1) := by decide +kernel
theorem dX5_pass_45 : decode cX5_pass 45 = .ok (.i2l, 1) := by decide +kernel
theorem dX5_pass_46 : decode cX5_pass 46 = .ok (.aload_n 0, 1) := by decide +kernel
theorem dX5_pass_47 : decode cX5_pass 47 = .ok (.invokevirtual 87, 3) := by decide +kernel
theorem dX5_pass_50 : decode cX5_pass 50 = .ok (.i2l, 1) := by decide +kernel
theorem dX5_pass_51 : decode cX5_pass 51 = .ok (.iconst 0, 1) := by decide +kernel
theorem dX5_pass_52 : decode cX5_pass 52 = .ok (.invokevirtual 142, 3) := by decide +kernel
theorem dX5_pass_55 : decode cX5_pass 55 = .ok (.istore 5, 2) := by decide +kernel
theorem dX5_pass_57 : decode cX5_pass 57 = .ok (.aload_n 0, 1) := by decide +kernel
theorem dX5_pass_58 : decode cX5_pass 58 = .ok (.getfield 45, 3) := by decide +kernel
theorem dX5_pass_61 : decode cX5_pass 61 = .ok (.aload_n 0, 1) := by decide +kernel
theorem dX5_pass_62 : decode cX5_pass 62 = .ok (.getfield 118, 3) := by decide +kernel
theorem dX5_pass_65 : decode cX5_pass 65 = .ok (.iadd, 1) := by decide +kernel
theorem dX5_pass_66 : decode cX5_pass 66 = .ok (.aload_n 0, 1) := by decide +kernel
theorem dX5_pass_67 : decode cX5_pass 67 = .ok (.getfield 19, 3) := by decide +kernel
theorem dX5_pass_70 : decode cX5_pass 70 = .ok (.if_icmp .le 14, 3) := by decide +kernel
theorem dX5_pass_73 : decode cX5_pass 73 = .ok (.aload_n 0, 1) := by decide +kernel
theorem dX5_pass_74 : decode cX5_pass 74 = .ok (.getfield 35, 3) := by decide +kernel
theorem dX5_pass_77 : decode cX5_pass 77 = .ok (.iload_n 1, 1) := by decide +kernel
theorem dX5_pass_78 : decode cX5_pass 78 = .ok (.iload 4, 2) := by decide +kernel
theorem dX5_pass_80 : decode cX5_pass 80 = .ok (.iastore, 1) := by decide +kernel
theorem dX5_pass_81 : decode cX5_pass 81 = .ok (.bipush (-3), 2) := by decide +kernel
theorem dX5_pass_83 : decode cX5_pass 83 = .ok (.ireturn, 1) := by decide +kernel
theorem dX5_pass_84 : decode cX5_pass 84 = .ok (.aload_n 0, 1) := by decide +kernel
theorem dX5_pass_85 : decode cX5_pass 85 = .ok (.iload_n 3, 1) := by decide +kernel
theorem dX5_pass_86 : decode cX5_pass 86 = .ok (.i2l, 1) := by decide +kernel
theorem dX5_pass_87 : decode cX5_pass 87 = .ok (.aload_n 0, 1) := by decide +kernel
theorem dX5_pass_88 : decode cX5_pass 88 = .ok (.invokevirtual 87, 3) := by decide +kernel
theorem dX5_pass_91 : decode cX5_pass 91 = .ok (.i2l, 1) := by decide +kernel
theorem dX5_pass_92 : decode cX5_pass 92 = .ok (.iconst 1, 1) := by decide +kernel
theorem dX5_pass_93 : decode cX5_pass 93 = .ok (.invokevirtual 142, 3) := by decide +kernel
theorem dX5_pass_96 : decode cX5_pass 96 = .ok (.istore 5, 2) := by decide +kernel
theorem dX5_pass_98 : decode cX5_pass 98 = .ok (.aload_n 0, 1) := by decide +kernel
theorem dX5_pass_99 : decode cX5_pass 99 = .ok (.dup, 1) := by decide +kernel
theorem dX5_pass_100 : decode cX5_pass 100 = .ok (.getfield 54, 3) := by decide +kernel
theorem dX5_pass_103 : decode cX5_pass 103 = .ok (.aload_n 0, 1) := by decide +kernel
theorem dX5_pass_104 : decode cX5_pass 104 = .ok (.getfield 118, 3) := by decide +kernel
theorem dX5_pass_107 : decode cX5_pass 107 = .ok (.iadd, 1) := by decide +kernel
theorem dX5_pass_108 : decode cX5_pass 108 = .ok (.putfield 54, 3) := by decide +kernel
theorem dX5_pass_111 : decode cX5_pass 111 = .ok (.aload_n 0, 1) := by decide +kernel
theorem dX5_pass_112 : decode cX5_pass 112 = .ok (.iconst 0, 1) := by decide +kernel
theorem dX5_pass_113 : decode cX5_pass 113 = .ok (.invokevirtual 146, 3) := by decide +kernel
theorem dX5_pass_116 : decode cX5_pass 116 = .ok (.aload_n 0, 1) := by decide +kernel
theorem dX5_pass_117 : decode cX5_pass 117 = .ok (.iconst 1, 1) := by decide +kernel
theorem dX5_pass_118 : decode cX5_pass 118 = .ok (.invokevirtual 146, 3) := by decide +kernel
theorem dX5_pass_121 : decode cX5_pass 121 = .ok (.iload 5, 2) := by decide +kernel
theorem dX5_pass_123 : decode cX5_pass 123 = .ok (.ireturn, 1) := by decide +kernel
set_option maxRecDepth 20000 in
theorem ggX5_markA_X5_pass : GoodIn wsX5_markA wsX5_pass := goodIn_r _ [5, 6, 7, 8, 9, 10, 11, 12, 4, 13, 14, 15, 16, 17, 18, 19, 20, 21, 22, 23, 24, 25, 26, 27, 28, 29, 30, 31, 32, 33, 34, 35, 36, 37, 38, 39, 40, 41, 42, 43, 44, 45, 46, 47, 48, 49, 50, 51, 52, 53, 54, 55, 56, 57, 58, 59, 60, 61, 62, 63, 64, 65, 66, 67, 68, 69, 70, 71, 72, 73, 74, 75, 76, 77, 78, 79, 80, 81, 82, 83, 84, 85, 86, 87, 88, 89, 90, 91, 92, 93, 94, 95, 96, 97] (by decide +kernel) (by decide +kernel)
set_option maxRecDepth 20000 in
theorem gX5_markA_X5_pass : GoodIn wsX5_markA (wsV RX5 150 RX5 yX5_pass wsX5_pass) := goodIn_app (goodIn_of _ (by decide +kernel)) ggX5_markA_X5_pass
theorem dX5_markA_0 : decode cX5_markA 0 = .ok (.aload_n 0, 1) := by decide +kernel
theorem dX5_markA_1 : decode cX5_markA 1 = .ok (.iconst 0, 1) := by decide +kernel
theorem dX5_markA_2 : decode cX5_markA 2 = .ok (.iload_n 1, 1) := by decide +kernel
theorem dX5_markA_3 : decode cX5_markA 3 = .ok (.invokevirtual 150, 3) := by decide +kernel
theorem dX5_markA_6 : decode cX5_markA 6 = .ok (.ireturn, 1) := by decide +kernel
set_option maxRecDepth 20000 in
theorem ggX5_markB_X5_pass : GoodIn wsX5_markB wsX5_pass := goodIn_r _ [5, 6, 7, 8, 9, 10, 11, 12, 4, 13, 14, 15, 16, 17, 18, 19, 20, 21, 22, 23, 24, 25, 26, 27, 28, 29, 30, 31, 32, 33, 34, 35, 36, 37, 38, 39, 40, 41, 42, 43, 44, 45, 46, 47, 48, 49, 50, 51, 52, 53, 54, 55, 56, 57, 58, 59, 60, 61, 62, 63, 64, 65, 66, 67, 68, 69, 70, 71, 72, 73, 74, 75, 76, 77, 78, 79, 80, 81, 82, 83, 84, 85, 86, 87, 88, 89, 90, 91, 92, 93, 94, 95, 96, 97] (by decide +kernel) (by decide +kernel)
set_option maxRecDepth 20000 in
theorem gX5_markB_X5_pass : GoodIn wsX5_markB (wsV RX5 150 RX5 yX5_pass wsX5_pass) := goodIn_app (goodIn_of _ (by decide +kernel)) ggX5_markB_X5_pass
theorem dX5_markB_0 : decode cX5_markB 0 = .ok (.aload_n 0, 1) := by decide +kernel
theorem dX5_markB_1 : decode cX5_markB 1 = .ok (.iconst 1, 1) := by decide +kernel
theorem dX5_markB_2 : decode cX5_markB 2 = .ok (.iload_n 1, 1) := by decide +kernel
theorem dX5_markB_3 : decode cX5_markB 3 = .ok (.invokevirtual 150, 3) := by decide +kernel
theorem dX5_markB_6 : decode cX5_markB 6 = .ok (.ireturn, 1) := by decide +kernel
theorem dX5_available_0 : decode cX5_available 0 = .ok (.aload_n 0, 1) := by decide +kernel
theorem dX5_available_1 : decode cX5_available 1 = .ok (.getfield 45, 3) := by decide +kernel
theorem dX5_available_4 : decode cX5_available 4 = .ok (.ireturn, 1) := by decide +kernel
set_option maxRecDepth 20000 in
theorem ggX5_kind_X5_in : GoodIn wsX5_kind wsX5_in := goodIn_r _ [6] (by decide +kernel) (by decide +kernel)
set_option maxRecDepth 20000 in
theorem gX5_kind_X5_in : GoodIn wsX5_kind (va_wsS RX5 61 yX5_in wsX5_in) := goodIn_app (goodIn_of _ (by decide +kernel)) ggX5_kind_X5_in
theorem dX5_kind_0 : decode cX5_kind 0 = .ok (.iload_n 1, 1) := by decide +kernel
theorem dX5_kind_1 : decode cX5_kind 1 = .ok (.iconst 0, 1) := by decide +kernel
theorem dX5_kind_2 : decode cX5_kind 2 = .ok (.aload_n 0, 1) := by decide +kernel
theorem dX5_kind_3 : decode cX5_kind 3 = .ok (.getfield 45, 3) := by decide +kernel
theorem dX5_kind_6 : decode cX5_kind 6 = .ok (.iconst 1, 1) := by decide +kernel
theorem dX5_kind_7 : decode cX5_kind 7 = .ok (.isub, 1) := by decide +kernel
theorem dX5_kind_8 : decode cX5_kind 8 = .ok (.invokestatic 61, 3) := by decide +kernel
theorem dX5_kind_11 : decode cX5_kind 11 = .ok (.ifCond .eq 15, 3) := by decide +kernel
theorem dX5_kind_14 : decode cX5_kind 14 = .ok (.aload_n 0, 1) := by decide +kernel
theorem dX5_kind_15 : decode cX5_kind 15 = .ok (.getfield 38, 3) := by decide +kernel
theorem dX5_kind_18 : decode cX5_kind 18 = .ok (.bipush 6, 2) := by decide +kernel
theorem dX5_kind_20 : decode cX5_kind 20 = .ok (.iload_n 1, 1) := by decide +kernel
theorem dX5_kind_21 : decode cX5_kind 21 = .ok (.imul, 1) := by decide +kernel
theorem dX5_kind_22 : decode cX5_kind 22 = .ok (.iaload, 1) := by decide +kernel
theorem dX5_kind_23 : decode cX5_kind 23 = .ok (.goto 4, 3) := by decide +kernel
theorem dX5_kind_26 : decode cX5_kind 26 = .ok (.iconst 0, 1) := by decide +kernel
theorem dX5_kind_27 : decode cX5_kind 27 = .ok (.ireturn, 1) := by decide +kernel
set_option maxRecDepth 20000 in
theorem ggX5_field_X5_in : GoodIn wsX5_field wsX5_in := goodIn_r _ [6] (by decide +kernel) (by decide +kernel)
set_option maxRecDepth 20000 in
theorem gX5_field_X5_in : GoodIn wsX5_field (va_wsS RX5 61 yX5_in wsX5_in) := goodIn_app (goodIn_of _ (by decide +kernel)) ggX5_field_X5_in
theorem dX5_field_0 : decode cX5_field 0 = .ok (.iload_n 1, 1) := by decide +kernel
theorem dX5_field_1 : decode cX5_field 1 = .ok (.iconst 0, 1) := by decide +kernel
theorem dX5_field_2 : decode cX5_field 2 = .ok (.aload_n 0, 1) := by decide +kernel
theorem dX5_field_3 : decode cX5_field 3 = .ok (.getfield 45, 3) := by decide +kernel
theorem dX5_field_6 : decode cX5_field 6 = .ok (.iconst 1, 1) := by decide +kernel
theorem dX5_field_7 : decode cX5_field 7 = .ok (.isub, 1) := by decide +kernel
theorem dX5_field_8 : decode cX5_field 8 = .ok (.invokestatic 61, 3) := by decide +kernel
theorem dX5_field_11 : decode cX5_field 11 = .ok (.ifCond .eq 28, 3) := by decide +kernel
theorem dX5_field_14 : decode cX5_field 14 = .ok (.iload_n 2, 1) := by decide +kernel
theorem dX5_field_15 : decode cX5_field 15 = .ok (.iconst 0, 1) := by decide +kernel
theorem dX5_field_16 : decode cX5_field 16 = .ok (.iconst 4, 1) := by decide +kernel
theorem dX5_field_17 : decode cX5_field 17 = .ok (.invokestatic 61, 3) := by decide +kernel
theorem dX5_field_20 : decode cX5_field 20 = .ok (.ifCond .eq 19, 3) := by decide +kernel
theorem dX5_field_23 : decode cX5_field 23 = .ok (.aload_n 0, 1) := by decide +kernel
theorem dX5_field_24 : decode cX5_field 24 = .ok (.getfield 38, 3) := by decide +kernel
theorem dX5_field_27 : decode cX5_field 27 = .ok (.bipush 6, 2) := by decide +kernel
theorem dX5_field_29 : decode cX5_field 29 = .ok (.iload_n 1, 1) := by decide +kernel
theorem dX5_field_30 : decode cX5_field 30 = .ok (.imul, 1) := by decide +kernel
theorem dX5_field_31 : decode cX5_field 31 = .ok (.iconst 1, 1) := by decide +kernel
theorem dX5_field_32 : decode cX5_field 32 = .ok (.iadd, 1) := by decide +kernel
theorem dX5_field_33 : decode cX5_field 33 = .ok (.iload_n 2, 1) := by decide +kernel
theorem dX5_field_34 : decode cX5_field 34 = .ok (.iadd, 1) := by decide +kernel
theorem dX5_field_35 : decode cX5_field 35 = .ok (.iaload, 1) := by decide +kernel
theorem dX5_field_36 : decode cX5_field 36 = .ok (.goto 4, 3) := by decide +kernel
theorem dX5_field_39 : decode cX5_field 39 = .ok (.iconst 0, 1) := by decide +kernel
theorem dX5_field_40 : decode cX5_field 40 = .ok (.ireturn, 1) := by decide +kernel
theorem dX5_pop_0 : decode cX5_pop 0 = .ok (.aload_n 0, 1) := by decide +kernel
theorem dX5_pop_1 : decode cX5_pop 1 = .ok (.getfield 45, 3) := by decide +kernel
theorem dX5_pop_4 : decode cX5_pop 4 = .ok (.ifCond .ne 5, 3) := by decide +kernel
theorem dX5_pop_7 : decode cX5_pop 7 = .ok (.iconst 0, 1) := by decide +kernel
theorem dX5_pop_8 : decode cX5_pop 8 = .ok (.ireturn, 1) := by decide +kernel
theorem dX5_pop_9 : decode cX5_pop 9 = .ok (.aload_n 0, 1) := by decide +kernel
theorem dX5_pop_10 : decode cX5_pop 10 = .ok (.dup, 1) := by decide +kernel
theorem dX5_pop_11 : decode cX5_pop 11 = .ok (.getfield 45, 3) := by decide +kernel
theorem dX5_pop_14 : decode cX5_pop 14 = .ok (.iconst 1, 1) := by decide +kernel
theorem dX5_pop_15 : decode cX5_pop 15 = .ok (.isub, 1) := by decide +kernel
theorem dX5_pop_16 : decode cX5_pop 16 = .ok (.putfield 45, 3) := by decide +kernel
theorem dX5_pop_19 : decode cX5_pop 19 = .ok (.iconst 0, 1) := by decide +kernel
theorem dX5_pop_20 : decode cX5_pop 20 = .ok (.istore_n 1, 1) := by decide +kernel
theorem dX5_pop_21 : decode cX5_pop 21 = .ok (.iload_n 1, 1) := by decide +kernel
theorem dX5_pop_22 : decode cX5_pop 22 = .ok (.bipush 6, 2) := by decide +kernel
theorem dX5_pop_24 : decode cX5_pop 24 = .ok (.aload_n 0, 1) := by decide +kernel
theorem dX5_pop_25 : decode cX5_pop 25 = .ok (.getfield 45, 3) := by decide +kernel
theorem dX5_pop_28 : decode cX5_pop 28 = .ok (.imul, 1) := by decide +kernel
theorem dX5_pop_29 : decode cX5_pop 29 = .ok (.if_icmp .ge 24, 3) := by decide +kernel
theorem dX5_pop_32 : decode cX5_pop 32 = .ok (.aload_n 0, 1) := by decide +kernel
theorem dX5_pop_33 : decode cX5_pop 33 = .ok (.getfield 38, 3) := by decide +kernel
theorem dX5_pop_36 : decode cX5_pop 36 = .ok (.iload_n 1, 1) := by decide +kernel
theorem dX5_pop_37 : decode cX5_pop 37 = .ok (.aload_n 0, 1) := by decide +kernel
theorem dX5_pop_38 : decode cX5_pop 38 = .ok (.getfield 38, 3) := by decide +kernel
theorem dX5_pop_41 : decode cX5_pop 41 = .ok (.iload_n 1, 1) := by decide +kernel
theorem dX5_pop_42 : decode cX5_pop 42 = .ok (.bipush 6, 2) := by decide +kernel
theorem dX5_pop_44 : decode cX5_pop 44 = .ok (.iadd, 1) := by decide +kernel
theorem dX5_pop_45 : decode cX5_pop 45 = .ok (.iaload, 1) := by decide +kernel
theorem dX5_pop_46 : decode cX5_pop 46 = .ok (.iastore, 1) := by decide +kernel
theorem dX5_pop_47 : decode cX5_pop 47 = .ok (.iinc 1 1, 3) := by decide +kernel
theorem dX5_pop_50 : decode cX5_pop 50 = .ok (.goto (-29), 3) := by decide +kernel
theorem dX5_pop_53 : decode cX5_pop 53 = .ok (.iconst 1, 1) := by decide +kernel
theorem dX5_pop_54 : decode cX5_pop 54 = .ok (.ireturn, 1) := by decide +kernel
set_option maxRecDepth 20000 in
theorem ggX5_look_X5_mark : GoodIn wsX5_look wsX5_mark := goodIn_r _ [10, 11, 32, 33, 34, 35, 36, 37, 38, 39, 40, 41, 42, 43, 44, 45, 46, 47, 48, 49, 50, 51, 52] (by decide +kernel) (by decide +kernel)
set_option maxRecDepth 20000 in
theorem gX5_look_X5_mark : GoodIn wsX5_look (wsV RX5 87 RX5 yX5_mark wsX5_mark) := goodIn_app (goodIn_of _ (by decide +kernel)) ggX5_look_X5_mark
set_option maxRecDepth 20000 in
theorem ggX5_look_X5_isOver : GoodIn wsX5_look wsX5_isOver := goodIn_r _ [15, 16, 32, 33, 34, 35, 36, 37, 38, 39, 40, 41, 42, 43, 44, 45, 46, 47, 48, 49, 50, 51, 52] (by decide +kernel) (by decide +kernel)
set_option maxRecDepth 20000 in
theorem gX5_look_X5_isOver : GoodIn wsX5_look (wsV RX5 127 RX5 yX5_isOver wsX5_isOver) := goodIn_app (goodIn_of _ (by decide +kernel)) ggX5_look_X5_isOver
set_option maxRecDepth 20000 in
theorem ggX5_look_X5_in : GoodIn wsX5_look wsX5_in := goodIn_r _ [19] (by decide +kernel) (by decide +kernel)
set_option maxRecDepth 20000 in
theorem gX5_look_X5_in : GoodIn wsX5_look (va_wsS RX5 61 yX5_in wsX5_in) := goodIn_app (goodIn_of _ (by decide +kernel)) ggX5_look_X5_in
set_option maxRecDepth 20000 in
theorem ggX5_look_X5_gather : GoodIn wsX5_look wsX5_gather := goodIn_r _ [23, 3, 4, 5, 24, 25, 26, 27, 28, 29, 9, 30, 31, 1, 32, 33, 34, 35, 36, 37, 38, 39, 40, 41, 42, 43, 44, 45, 46, 47, 48, 49, 50, 51, 52] (by decide +kernel) (by decide +kernel)
set_option maxRecDepth 20000 in
theorem gX5_look_X5_gather : GoodIn wsX5_look (wsV RX5 135 RX5 yX5_gather wsX5_gather) := goodIn_app (goodIn_of _ (by decide +kernel)) ggX5_look_X5_gather
theorem dX5_look_0 : decode cX5_look 0 = .ok (.iload_n 1, 1) := by decide +kernel
theorem dX5_look_1 : decode cX5_look 1 = .ok (.i2l, 1) := by decide +kernel
theorem dX5_look_2 : decode cX5_look 2 = .ok (.aload_n 0, 1) := by decide +kernel
theorem dX5_look_3 : decode cX5_look 3 = .ok (.getfield 7, 3) := by decide +kernel
theorem dX5_look_6 : decode cX5_look 6 = .ok (.i2l, 1) := by decide +kernel
theorem dX5_look_7 : decode cX5_look 7 = .ok (.lsub, 1) := by decide +kernel
theorem dX5_look_8 : decode cX5_look 8 = .ok (.lstore 4, 2) := by decide +kernel
theorem dX5_look_10 : decode cX5_look 10 = .ok (.lload 4, 2) := by decide +kernel
theorem dX5_look_12 : decode cX5_look 12 = .ok (.aload_n 0, 1) := by decide +kernel
theorem dX5_look_13 : decode cX5_look 13 = .ok (.getfield 13, 3) := by decide +kernel
theorem dX5_look_16 : decode cX5_look 16 = .ok (.i2l, 1) := by decide +kernel
theorem dX5_look_17 : decode cX5_look 17 = .ok (.lrem, 1) := by decide +kernel
theorem dX5_look_18 : decode cX5_look 18 = .ok (.lconst 0, 1) := by decide +kernel
theorem dX5_look_19 : decode cX5_look 19 = .ok (.lcmp, 1) := by decide +kernel
theorem dX5_look_20 : decode cX5_look 20 = .ok (.ifCond .ne 26, 3) := by decide +kernel
theorem dX5_look_23 : decode cX5_look 23 = .ok (.aload_n 0, 1) := by decide +kernel
theorem dX5_look_24 : decode cX5_look 24 = .ok (.iload_n 1, 1) := by decide +kernel
theorem dX5_look_25 : decode cX5_look 25 = .ok (.i2l, 1) := by decide +kernel
theorem dX5_look_26 : decode cX5_look 26 = .ok (.aload_n 0, 1) := by decide +kernel
theorem dX5_look_27 : decode cX5_look 27 = .ok (.invokevirtual 87, 3) := by decide +kernel
theorem dX5_look_30 : decode cX5_look 30 = .ok (.i2l, 1) := by decide +kernel
theorem dX5_look_31 : decode cX5_look 31 = .ok (.invokevirtual 127, 3) := by decide +kernel
theorem dX5_look_34 : decode cX5_look 34 = .ok (.ifCond .ne 12, 3) := by decide +kernel
theorem dX5_look_37 : decode cX5_look 37 = .ok (.iload_n 3, 1) := by decide +kernel
theorem dX5_look_38 : decode cX5_look 38 = .ok (.iconst 0, 1) := by decide +kernel
theorem dX5_look_39 : decode cX5_look 39 = .ok (.iconst 2, 1) := by decide +kernel
theorem dX5_look_40 : decode cX5_look 40 = .ok (.invokestatic 61, 3) := by decide +kernel
theorem dX5_look_43 : decode cX5_look 43 = .ok (.ifCond .ne 5, 3) := by decide +kernel
theorem dX5_look_46 : decode cX5_look 46 = .ok (.iconst 0, 1) := by decide +kernel
theorem dX5_look_47 : decode cX5_look 47 = .ok (.ireturn, 1) := by decide +kernel
theorem dX5_look_48 : decode cX5_look 48 = .ok (.aload_n 0, 1) := by decide +kernel
theorem dX5_look_49 : decode cX5_look 49 = .ok (.iload_n 1, 1) := by decide +kernel
theorem dX5_look_50 : decode cX5_look 50 = .ok (.i2l, 1) := by decide +kernel
theorem dX5_look_51 : decode cX5_look 51 = .ok (.iload_n 2, 1) := by decide +kernel
theorem dX5_look_52 : decode cX5_look 52 = .ok (.invokevirtual 135, 3) := by decide +kernel
theorem dX5_look_55 : decode cX5_look 55 = .ok (.iload_n 3, 1) := by decide +kernel
theorem dX5_look_56 : decode cX5_look 56 = .ok (.ifCond .ne 10, 3) := by decide +kernel
theorem dX5_look_59 : decode cX5_look 59 = .ok (.aload_n 0, 1) := by decide +kernel
theorem dX5_look_60 : decode cX5_look 60 = .ok (.getfield 109, 3) := by decide +kernel
theorem dX5_look_63 : decode cX5_look 63 = .ok (.goto 19, 3) := by decide +kernel
theorem dX5_look_66 : decode cX5_look 66 = .ok (.iload_n 3, 1) := by decide +kernel
theorem dX5_look_67 : decode cX5_look 67 = .ok (.iconst 1, 1) := by decide +kernel
theorem dX5_look_68 : decode cX5_look 68 = .ok (.if_icmp .ne 10, 3) := by decide +kernel
theorem dX5_look_71 : decode cX5_look 71 = .ok (.aload_n 0, 1) := by decide +kernel
theorem dX5_look_72 : decode cX5_look 72 = .ok (.getfield 112, 3) := by decide +kernel
theorem dX5_look_75 : decode cX5_look 75 = .ok (.goto 7, 3) := by decide +kernel
theorem dX5_look_78 : decode cX5_look 78 = .ok (.aload_n 0, 1) := by decide +kernel
theorem dX5_look_79 : decode cX5_look 79 = .ok (.getfield 115, 3) := by decide +kernel
theorem dX5_look_82 : decode cX5_look 82 = .ok (.ireturn, 1) := by decide +kernel
set_option maxRecDepth 20000 in
theorem ggX5_event__X5_in : GoodIn wsX5_event_ wsX5_in := goodIn_r _ [8] (by decide +kernel) (by decide +kernel)
set_option maxRecDepth 20000 in
theorem gX5_event__X5_in : GoodIn wsX5_event_ (va_wsS RX5 61 yX5_in wsX5_in) := goodIn_app (goodIn_of _ (by decide +kernel)) ggX5_event__X5_in
theorem dX5_event__0 : decode cX5_event_ 0 = .ok (.iload_n 1, 1) := by decide +kernel
theorem dX5_event__1 : decode cX5_event_ 1 = .ok (.iconst 0, 1) := by decide +kernel
theorem dX5_event__2 : decode cX5_event_ 2 = .ok (.iconst 1, 1) := by decide +kernel
theorem dX5_event__3 : decode cX5_event_ 3 = .ok (.invokestatic 61, 3) := by decide +kernel
theorem dX5_event__6 : decode cX5_event_ 6 = .ok (.ifCond .eq 19, 3) := by decide +kernel
theorem dX5_event__9 : decode cX5_event_ 9 = .ok (.iload_n 2, 1) := by decide +kernel
theorem dX5_event__10 : decode cX5_event_ 10 = .ok (.iconst 0, 1) := by decide +kernel
theorem dX5_event__11 : decode cX5_event_ 11 = .ok (.aload_n 0, 1) := by decide +kernel
theorem dX5_event__12 : decode cX5_event_ 12 = .ok (.getfield 32, 3) := by decide +kernel
theorem dX5_event__15 : decode cX5_event_ 15 = .ok (.iload_n 1, 1) := by decide +kernel
theorem dX5_event__16 : decode cX5_event_ 16 = .ok (.iaload, 1) := by decide +kernel
theorem dX5_event__17 : decode cX5_event_ 17 = .ok (.iconst 1, 1) := by decide +kernel
theorem dX5_event__18 : decode cX5_event_ 18 = .ok (.isub, 1) := by decide +kernel
theorem dX5_event__19 : decode cX5_event_ 19 = .ok (.invokestatic 61, 3) := by decide +kernel
theorem dX5_event__22 : decode cX5_event_ 22 = .ok (.ifCond .ne 5, 3) := by decide +kernel
theorem dX5_event__25 : decode cX5_event_ 25 = .ok (.iconst 0, 1) := by decide +kernel
theorem dX5_event__26 : decode cX5_event_ 26 = .ok (.ireturn, 1) := by decide +kernel
theorem dX5_event__27 : decode cX5_event_ 27 = .ok (.sipush 200, 3) := by decide +kernel
theorem dX5_event__30 : decode cX5_event_ 30 = .ok (.iload_n 1, 1) := by decide +kernel
theorem dX5_event__31 : decode cX5_event_ 31 = .ok (.imul, 1) := by decide +kernel
theorem dX5_event__32 : decode cX5_event_ 32 = .ok (.iload_n 2, 1) := by decide +kernel
theorem dX5_event__33 : decode cX5_event_ 33 = .ok (.iadd, 1) := by decide +kernel
theorem dX5_event__34 : decode cX5_event_ 34 = .ok (.istore 4, 2) := by decide +kernel
theorem dX5_event__36 : decode cX5_event_ 36 = .ok (.iload_n 3, 1) := by decide +kernel
theorem dX5_event__37 : decode cX5_event_ 37 = .ok (.tableswitch 51 0 2 #[27, 35, 43], 27) := by decide +kernel
theorem dX5_event__64 : decode cX5_event_ 64 = .ok (.aload_n 0, 1) := by decide +kernel
theorem dX5_event__65 : decode cX5_event_ 65 = .ok (.getfield 22, 3) := by decide +kernel
theorem dX5_event__68 : decode cX5_event_ 68 = .ok (.iload 4, 2) := by decide +kernel
theorem dX5_event__70 : decode cX5_event_ 70 = .ok (.iaload, 1) := by decide +kernel
theorem dX5_event__71 : decode cX5_event_ 71 = .ok (.ireturn, 1) := by decide +kernel
theorem dX5_event__72 : decode cX5_event_ 72 = .ok (.aload_n 0, 1) := by decide +kernel
theorem dX5_event__73 : decode cX5_event_ 73 = .ok (.getfield 26, 3) := by decide +kernel
theorem dX5_event__76 : decode cX5_event_ 76 = .ok (.iload 4, 2) := by decide +kernel
theorem dX5_event__78 : decode cX5_event_ 78 = .ok (.iaload, 1) := by decide +kernel
theorem dX5_event__79 : decode cX5_event_ 79 = .ok (.ireturn, 1) := by decide +kernel
theorem dX5_event__80 : decode cX5_event_ 80 = .ok (.aload_n 0, 1) := by decide +kernel
theorem dX5_event__81 : decode cX5_event_ 81 = .ok (.getfield 29, 3) := by decide +kernel
theorem dX5_event__84 : decode cX5_event_ 84 = .ok (.iload 4, 2) := by decide +kernel
theorem dX5_event__86 : decode cX5_event_ 86 = .ok (.iaload, 1) := by decide +kernel
theorem dX5_event__87 : decode cX5_event_ 87 = .ok (.ireturn, 1) := by decide +kernel
theorem dX5_event__88 : decode cX5_event_ 88 = .ok (.iconst 0, 1) := by decide +kernel
theorem dX5_event__89 : decode cX5_event_ 89 = .ok (.ireturn, 1) := by decide +kernel
set_option maxRecDepth 20000 in
theorem ggX5_windows_X5_nextEnd : GoodIn wsX5_windows wsX5_nextEnd := goodIn_r _ [7, 2, 8, 9, 10, 11, 12, 6, 13, 14, 15, 16, 17, 18, 19, 30, 31, 32, 33, 34, 35, 36, 37, 38, 39, 40, 41, 42, 43, 44, 45, 46, 47, 48, 49, 50] (by decide +kernel) (by decide +kernel)
set_option maxRecDepth 20000 in
theorem gX5_windows_X5_nextEnd : GoodIn wsX5_windows (wsV RX5 123 RX5 yX5_nextEnd wsX5_nextEnd) := goodIn_app (goodIn_of _ (by decide +kernel)) ggX5_windows_X5_nextEnd
set_option maxRecDepth 20000 in
theorem ggX5_windows_X5_mark : GoodIn wsX5_windows wsX5_mark := goodIn_r _ [23, 24, 30, 31, 32, 33, 34, 35, 36, 37, 38, 39, 40, 41, 42, 43, 44, 45, 46, 47, 48, 49, 50] (by decide +kernel) (by decide +kernel)
set_option maxRecDepth 20000 in
theorem gX5_windows_X5_mark : GoodIn wsX5_windows (wsV RX5 87 RX5 yX5_mark wsX5_mark) := goodIn_app (goodIn_of _ (by decide +kernel)) ggX5_windows_X5_mark
set_option maxRecDepth 20000 in
theorem ggX5_windows_X5_isOver : GoodIn wsX5_windows wsX5_isOver := goodIn_r _ [28, 29, 30, 31, 32, 33, 34, 35, 36, 37, 38, 39, 40, 41, 42, 43, 44, 45, 46, 47, 48, 49, 50] (by decide +kernel) (by decide +kernel)
set_option maxRecDepth 20000 in
theorem gX5_windows_X5_isOver : GoodIn wsX5_windows (wsV RX5 127 RX5 yX5_isOver wsX5_isOver) := goodIn_app (goodIn_of _ (by decide +kernel)) ggX5_windows_X5_isOver
theorem dX5_windows_0 : decode cX5_windows 0 = .ok (.iconst 0, 1) := by decide +kernel
theorem dX5_windows_1 : decode cX5_windows 1 = .ok (.istore_n 1, 1) := by decide +kernel
theorem dX5_windows_2 : decode cX5_windows 2 = .ok (.aload_n 0, 1) := by decide +kernel
theorem dX5_windows_3 : decode cX5_windows 3 = .ok (.ldc2_w 121, 3) := by decide +kernel
theorem dX5_windows_6 : decode cX5_windows 6 = .ok (.invokevirtual 123, 3) := by decide +kernel
theorem dX5_windows_9 : decode cX5_windows 9 = .ok (.lstore_n 2, 1) := by decide +kernel
theorem dX5_windows_10 : decode cX5_windows 10 = .ok (.lload_n 2, 1) := by decide +kernel
theorem dX5_windows_11 : decode cX5_windows 11 = .ok (.ldc2_w 99, 3) := by decide +kernel
theorem dX5_windows_14 : decode cX5_windows 14 = .ok (.lcmp, 1) := by decide +kernel
theorem dX5_windows_15 : decode cX5_windows 15 = .ok (.ifCond .ge 33, 3) := by decide +kernel
theorem dX5_windows_18 : decode cX5_windows 18 = .ok (.aload_n 0, 1) := by decide +kernel
theorem dX5_windows_19 : decode cX5_windows 19 = .ok (.lload_n 2, 1) := by decide +kernel
theorem dX5_windows_20 : decode cX5_windows 20 = .ok (.aload_n 0, 1) := by decide +kernel
theorem dX5_windows_21 : decode cX5_windows 21 = .ok (.invokevirtual 87, 3) := by decide +kernel
theorem dX5_windows_24 : decode cX5_windows 24 = .ok (.i2l, 1) := by decide +kernel
theorem dX5_windows_25 : decode cX5_windows 25 = .ok (.invokevirtual 127, 3) := by decide +kernel
theorem dX5_windows_28 : decode cX5_windows 28 = .ok (.ifCond .eq 7, 3) := by decide +kernel
theorem dX5_windows_31 : decode cX5_windows 31 = .ok (.iload_n 1, 1) := by decide +kernel
theorem dX5_windows_32 : decode cX5_windows 32 = .ok (.goto 6, 3) := by decide +kernel
theorem dX5_windows_35 : decode cX5_windows 35 = .ok (.iload_n 1, 1) := by decide +kernel
theorem dX5_windows_36 : decode cX5_windows 36 = .ok (.iconst 1, 1) := by decide +kernel
theorem dX5_windows_37 : decode cX5_windows 37 = .ok (.iadd, 1) := by decide +kernel
theorem dX5_windows_38 : decode cX5_windows 38 = .ok (.istore_n 1, 1) := by decide +kernel
theorem dX5_windows_39 : decode cX5_windows 39 = .ok (.aload_n 0, 1) := by decide +kernel
theorem dX5_windows_40 : decode cX5_windows 40 = .ok (.lload_n 2, 1) := by decide +kernel
theorem dX5_windows_41 : decode cX5_windows 41 = .ok (.invokevirtual 123, 3) := by decide +kernel
theorem dX5_windows_44 : decode cX5_windows 44 = .ok (.lstore_n 2, 1) := by decide +kernel
theorem dX5_windows_45 : decode cX5_windows 45 = .ok (.goto (-35), 3) := by decide +kernel
theorem dX5_windows_48 : decode cX5_windows 48 = .ok (.iload_n 1, 1) := by decide +kernel
theorem dX5_windows_49 : decode cX5_windows 49 = .ok (.ireturn, 1) := by decide +kernel
set_option maxRecDepth 20000 in
theorem ggX5_count_X5_windows : GoodIn wsX5_count wsX5_windows := goodIn_r _ [11, 12, 13, 14, 15, 16, 10, 17, 1, 18, 19, 20, 21, 22, 23, 24, 25, 26, 27, 28, 29, 30, 31, 32, 3, 33, 34, 35, 36, 37, 38, 39, 40, 41, 42, 43, 44, 45, 46, 47, 48, 49, 50, 51, 52, 53, 54, 55, 56, 57, 58] (by decide +kernel) (by decide +kernel)
set_option maxRecDepth 20000 in
theorem gX5_count_X5_windows : GoodIn wsX5_count (wsV RX5 154 RX5 yX5_windows wsX5_windows) := goodIn_app (goodIn_of _ (by decide +kernel)) ggX5_count_X5_windows
theorem dX5_count_0 : decode cX5_count 0 = .ok (.iload_n 1, 1) := by decide +kernel
theorem dX5_count_1 : decode cX5_count 1 = .ok (.tableswitch 92 0 8 #[51, 51, 58, 63, 63, 72, 77, 82, 87], 51) := by decide +kernel
theorem dX5_count_52 : decode cX5_count 52 = .ok (.aload_n 0, 1) := by decide +kernel
theorem dX5_count_53 : decode cX5_count 53 = .ok (.getfield 32, 3) := by decide +kernel
theorem dX5_count_56 : decode cX5_count 56 = .ok (.iload_n 1, 1) := by decide +kernel
theorem dX5_count_57 : decode cX5_count 57 = .ok (.iaload, 1) := by decide +kernel
theorem dX5_count_58 : decode cX5_count 58 = .ok (.ireturn, 1) := by decide +kernel
theorem dX5_count_59 : decode cX5_count 59 = .ok (.aload_n 0, 1) := by decide +kernel
theorem dX5_count_60 : decode cX5_count 60 = .ok (.getfield 48, 3) := by decide +kernel
theorem dX5_count_63 : decode cX5_count 63 = .ok (.ireturn, 1) := by decide +kernel
theorem dX5_count_64 : decode cX5_count 64 = .ok (.aload_n 0, 1) := by decide +kernel
theorem dX5_count_65 : decode cX5_count 65 = .ok (.getfield 35, 3) := by decide +kernel
theorem dX5_count_68 : decode cX5_count 68 = .ok (.iload_n 1, 1) := by decide +kernel
theorem dX5_count_69 : decode cX5_count 69 = .ok (.iconst 3, 1) := by decide +kernel
theorem dX5_count_70 : decode cX5_count 70 = .ok (.isub, 1) := by decide +kernel
theorem dX5_count_71 : decode cX5_count 71 = .ok (.iaload, 1) := by decide +kernel
theorem dX5_count_72 : decode cX5_count 72 = .ok (.ireturn, 1) := by decide +kernel
theorem dX5_count_73 : decode cX5_count 73 = .ok (.aload_n 0, 1) := by decide +kernel
theorem dX5_count_74 : decode cX5_count 74 = .ok (.invokevirtual 154, 3) := by decide +kernel
theorem dX5_count_77 : decode cX5_count 77 = .ok (.ireturn, 1) := by decide +kernel
theorem dX5_count_78 : decode cX5_count 78 = .ok (.aload_n 0, 1) := by decide +kernel
theorem dX5_count_79 : decode cX5_count 79 = .ok (.getfield 51, 3) := by decide +kernel
theorem dX5_count_82 : decode cX5_count 82 = .ok (.ireturn, 1) := by decide +kernel
theorem dX5_count_83 : decode cX5_count 83 = .ok (.aload_n 0, 1) := by decide +kernel
theorem dX5_count_84 : decode cX5_count 84 = .ok (.getfield 54, 3) := by decide +kernel
theorem dX5_count_87 : decode cX5_count 87 = .ok (.ireturn, 1) := by decide +kernel
theorem dX5_count_88 : decode cX5_count 88 = .ok (.aload_n 0, 1) := by decide +kernel
theorem dX5_count_89 : decode cX5_count 89 = .ok (.getfield 57, 3) := by decide +kernel
theorem dX5_count_92 : decode cX5_count 92 = .ok (.ireturn, 1) := by decide +kernel
theorem dX5_count_93 : decode cX5_count 93 = .ok (.bipush (-2), 2) := by decide +kernel
theorem dX5_count_95 : decode cX5_count 95 = .ok (.ireturn, 1) := by decide +kernel
theorem dJ9_floorDiv_7cf53_0 : decode cJ9_floorDiv_7cf53 0 = .ok (.iload_n 0, 1) := by decide +kernel
theorem dJ9_floorDiv_7cf53_1 : decode cJ9_floorDiv_7cf53 1 = .ok (.iload_n 1, 1) := by decide +kernel
theorem dJ9_floorDiv_7cf53_2 : decode cJ9_floorDiv_7cf53 2 = .ok (.idiv, 1) := by decide +kernel
theorem dJ9_floorDiv_7cf53_3 : decode cJ9_floorDiv_7cf53 3 = .ok (.istore_n 2, 1) := by decide +kernel
theorem dJ9_floorDiv_7cf53_4 : decode cJ9_floorDiv_7cf53 4 = .ok (.iload_n 0, 1) := by decide +kernel
theorem dJ9_floorDiv_7cf53_5 : decode cJ9_floorDiv_7cf53 5 = .ok (.iload_n 1, 1) := by decide +kernel
theorem dJ9_floorDiv_7cf53_6 : decode cJ9_floorDiv_7cf53 6 = .ok (.ixor, 1) := by decide +kernel
theorem dJ9_floorDiv_7cf53_7 : decode cJ9_floorDiv_7cf53 7 = .ok (.ifCond .ge 14, 3) := by decide +kernel
theorem dJ9_floorDiv_7cf53_10 : decode cJ9_floorDiv_7cf53 10 = .ok (.iload_n 2, 1) := by decide +kernel
theorem dJ9_floorDiv_7cf53_11 : decode cJ9_floorDiv_7cf53 11 = .ok (.iload_n 1, 1) := by decide +kernel
theorem dJ9_floorDiv_7cf53_12 : decode cJ9_floorDiv_7cf53 12 = .ok (.imul, 1) := by decide +kernel
theorem dJ9_floorDiv_7cf53_13 : decode cJ9_floorDiv_7cf53 13 = .ok (.iload_n 0, 1) := by decide +kernel
theorem dJ9_floorDiv_7cf53_14 : decode cJ9_floorDiv_7cf53 14 = .ok (.if_icmp .eq 7, 3) := by decide +kernel
theorem dJ9_floorDiv_7cf53_17 : decode cJ9_floorDiv_7cf53 17 = .ok (.iload_n 2, 1) := by decide +kernel
theorem dJ9_floorDiv_7cf53_18 : decode cJ9_floorDiv_7cf53 18 = .ok (.iconst 1, 1) := by decide +kernel
theorem dJ9_floorDiv_7cf53_19 : decode cJ9_floorDiv_7cf53 19 = .ok (.isub, 1) := by decide +kernel
theorem dJ9_floorDiv_7cf53_20 : decode cJ9_floorDiv_7cf53 20 = .ok (.ireturn, 1) := by decide +kernel
theorem dJ9_floorDiv_7cf53_21 : decode cJ9_floorDiv_7cf53 21 = .ok (.iload_n 2, 1) := by decide +kernel
theorem dJ9_floorDiv_7cf53_22 : decode cJ9_floorDiv_7cf53 22 = .ok (.ireturn, 1) := by decide +kernel
theorem dJ9_abs_0f7a4_0 : decode cJ9_abs_0f7a4 0 = .ok (.iload_n 0, 1) := by decide +kernel
theorem dJ9_abs_0f7a4_1 : decode cJ9_abs_0f7a4 1 = .ok (.ifCond .ge 8, 3) := by decide +kernel
theorem dJ9_abs_0f7a4_4 : decode cJ9_abs_0f7a4 4 = .ok (.iload_n 0, 1) := by decide +kernel
theorem dJ9_abs_0f7a4_5 : decode cJ9_abs_0f7a4 5 = .ok (.ineg, 1) := by decide +kernel
theorem dJ9_abs_0f7a4_6 : decode cJ9_abs_0f7a4 6 = .ok (.goto 4, 3) := by decide +kernel
theorem dJ9_abs_0f7a4_9 : decode cJ9_abs_0f7a4 9 = .ok (.iload_n 0, 1) := by decide +kernel
theorem dJ9_abs_0f7a4_10 : decode cJ9_abs_0f7a4 10 = .ok (.ireturn, 1) := by decide +kernel
theorem dJ9_max_7cf53_0 : decode cJ9_max_7cf53 0 = .ok (.iload_n 0, 1) := by decide +kernel
theorem dJ9_max_7cf53_1 : decode cJ9_max_7cf53 1 = .ok (.iload_n 1, 1) := by decide +kernel
theorem dJ9_max_7cf53_2 : decode cJ9_max_7cf53 2 = .ok (.if_icmp .lt 7, 3) := by decide +kernel
theorem dJ9_max_7cf53_5 : decode cJ9_max_7cf53 5 = .ok (.iload_n 0, 1) := by decide +kernel
theorem dJ9_max_7cf53_6 : decode cJ9_max_7cf53 6 = .ok (.goto 4, 3) := by decide +kernel
theorem dJ9_max_7cf53_9 : decode cJ9_max_7cf53 9 = .ok (.iload_n 1, 1) := by decide +kernel
theorem dJ9_max_7cf53_10 : decode cJ9_max_7cf53 10 = .ok (.ireturn, 1) := by decide +kernel
theorem dJ9_min_7cf53_0 : decode cJ9_min_7cf53 0 = .ok (.iload_n 0, 1) := by decide +kernel
theorem dJ9_min_7cf53_1 : decode cJ9_min_7cf53 1 = .ok (.iload_n 1, 1) := by decide +kernel
theorem dJ9_min_7cf53_2 : decode cJ9_min_7cf53 2 = .ok (.if_icmp .gt 7, 3) := by decide +kernel
theorem dJ9_min_7cf53_5 : decode cJ9_min_7cf53 5 = .ok (.iload_n 0, 1) := by decide +kernel
theorem dJ9_min_7cf53_6 : decode cJ9_min_7cf53 6 = .ok (.goto 4, 3) := by decide +kernel
theorem dJ9_min_7cf53_9 : decode cJ9_min_7cf53 9 = .ok (.iload_n 1, 1) := by decide +kernel
theorem dJ9_min_7cf53_10 : decode cJ9_min_7cf53 10 = .ok (.ireturn, 1) := by decide +kernel
set_option maxRecDepth 20000 in
theorem ggL_law_X4_init : GoodIn wsL_law wsX4_init := goodIn_r _ [8, 9, 10, 11, 12, 13, 14, 15, 16, 17, 18, 19, 20, 21, 22, 23, 24, 25, 26, 27, 28, 29, 30, 31, 32, 33, 34, 35, 36, 37, 38, 39, 40, 41, 42, 43, 44, 45, 46, 47, 48, 49, 50, 51, 52, 53, 54, 55, 56, 57, 58, 59, 60, 61, 62, 63, 64, 65, 66, 2, 67, 68, 69, 70, 71, 72, 73, 74, 75, 76, 77, 78, 79, 80, 81, 82, 83, 84, 85, 86, 483, 484, 485, 486, 446, 447, 448, 449, 450, 451, 452, 453, 454, 455, 456, 457, 458, 459, 460, 461, 487, 488, 489, 490, 491, 492, 493, 494, 495, 496] (by decide +kernel) (by decide +kernel)
set_option maxRecDepth 20000 in
theorem gL_law_X4_init : GoodIn wsL_law (wsX4_init) := ggL_law_X4_init
set_option maxRecDepth 20000 in
theorem ggL_law_X5_init : GoodIn wsL_law wsX5_init := goodIn_r _ [89, 90, 10, 11, 91, 92, 93, 94, 34, 95, 96, 97, 98, 99, 100, 101, 102, 103, 5, 104, 105, 106, 107, 108, 109, 110, 462, 463, 464, 465, 466, 467, 468, 469, 470, 471, 472, 473, 474, 475, 476, 477, 478, 479, 480, 481, 482] (by decide +kernel) (by decide +kernel)
set_option maxRecDepth 20000 in
theorem gL_law_X5_init : GoodIn wsL_law (wsX5_init) := ggL_law_X5_init
set_option maxRecDepth 20000 in
theorem ggL_law_X4_set : GoodIn wsL_law wsX4_set := goodIn_r _ [114, 115, 25, 26, 27, 28, 29, 30, 116, 117, 2, 118, 119, 120, 121, 64, 65, 66, 67, 15, 16, 20, 24, 68, 69, 70, 71, 72, 73, 74, 75, 76, 77, 14, 78, 38, 79, 80, 81, 19, 82, 46, 83, 84, 85, 23, 86, 62, 63, 446, 447, 448, 449, 450, 451, 452, 453, 454, 455, 456, 457, 458, 459, 460, 461, 483, 484, 485, 486, 487, 491, 492, 493, 494, 495, 496, 488, 489, 490] (by decide +kernel) (by decide +kernel)
set_option maxRecDepth 20000 in
theorem gL_law_X4_set : GoodIn wsL_law (wsV RL 13 RX4 yX4_set wsX4_set) := goodIn_app (goodIn_of _ (by decide +kernel)) ggL_law_X4_set
set_option maxRecDepth 20000 in
theorem ggL_law_X5_set : GoodIn wsL_law wsX5_set := goodIn_r _ [125, 126, 127, 91, 92, 128, 129, 93, 94, 130, 131, 5, 132, 101, 102, 103, 104, 98, 99, 105, 106, 107, 108, 109, 110, 462, 463, 464, 465, 466, 467, 468, 469, 470, 471, 472, 473, 474, 475, 476, 477, 478, 479, 480, 481, 482] (by decide +kernel) (by decide +kernel)
set_option maxRecDepth 20000 in
theorem gL_law_X5_set : GoodIn wsL_law (wsV RL 17 RX5 yX5_set wsX5_set) := goodIn_app (goodIn_of _ (by decide +kernel)) ggL_law_X5_set
set_option maxRecDepth 20000 in
theorem ggL_law_X4_eventA : GoodIn wsL_law wsX4_eventA := goodIn_r _ [136, 16, 28, 24, 15, 137, 138, 139, 2, 140, 27, 71, 29, 30, 141, 142, 143, 144, 145, 119, 120, 121, 146, 147, 148, 149, 69, 70, 150, 151, 152, 153, 154, 155, 156, 14, 157, 38, 158, 159, 160, 161, 162, 163, 164, 165, 36, 35, 166, 167, 168, 169, 170, 171, 172, 173, 174, 175, 23, 176, 63, 177, 178, 179, 180, 181, 182, 183, 184, 185, 37, 186, 187, 188, 189, 61, 190, 191, 192, 193, 62, 194, 195, 196, 197, 198, 199, 200, 201, 20, 25, 26, 202, 203, 204, 19, 205, 46, 206, 207, 208, 209, 210, 211, 212, 213, 214, 215, 216, 217, 42, 43, 44, 218, 219, 220, 221, 222, 223, 224, 55, 56, 225, 226, 227, 228, 47, 48, 49, 50, 10, 11, 51, 52, 53, 54, 57, 229, 230, 231, 232, 233, 234, 235, 236, 237, 238, 239, 72, 74, 446, 447, 448, 449, 450, 451, 452, 453, 454, 455, 456, 457, 458, 459, 460, 461, 483, 484, 485, 486, 488, 489, 490, 487, 491, 492, 493, 494, 495, 496] (by decide +kernel) (by decide +kernel)
set_option maxRecDepth 20000 in
theorem gL_law_X4_eventA : GoodIn wsL_law (wsV RL 18 RX4 yX4_eventA wsX4_eventA) := goodIn_app (goodIn_of _ (by decide +kernel)) ggL_law_X4_eventA
set_option maxRecDepth 20000 in
theorem ggL_law_X5_eventA : GoodIn wsL_law wsX5_eventA := goodIn_r _ [243, 244, 245, 246, 5, 247, 128, 107, 98, 93, 106, 94, 108, 110, 248, 249, 250, 251, 252, 130, 131, 132, 253, 254, 255, 256, 99, 257, 258, 259, 260, 95, 96, 97, 261, 262, 263, 264, 129, 265, 266, 267, 268, 100, 462, 463, 464, 465, 466, 467, 468, 469, 470, 471, 472, 473, 474, 475, 476, 477, 478, 479, 480, 481, 482] (by decide +kernel) (by decide +kernel)
set_option maxRecDepth 20000 in
theorem gL_law_X5_eventA : GoodIn wsL_law (wsV RL 22 RX5 yX5_eventA wsX5_eventA) := goodIn_app (goodIn_of _ (by decide +kernel)) ggL_law_X5_eventA
set_option maxRecDepth 20000 in
theorem ggL_law_X4_eventB : GoodIn wsL_law wsX4_eventB := goodIn_r _ [272, 15, 28, 24, 16, 137, 138, 139, 2, 140, 27, 71, 29, 30, 141, 142, 143, 144, 145, 119, 120, 121, 146, 147, 148, 149, 69, 70, 150, 151, 152, 153, 154, 155, 156, 14, 157, 38, 158, 159, 160, 161, 162, 163, 164, 165, 36, 35, 166, 167, 168, 169, 170, 171, 172, 173, 174, 175, 23, 176, 63, 177, 178, 179, 180, 181, 182, 183, 184, 185, 37, 186, 187, 188, 189, 61, 190, 191, 192, 193, 62, 194, 195, 196, 197, 236, 237, 238, 239, 72, 74, 446, 447, 448, 449, 450, 451, 452, 453, 454, 455, 456, 457, 458, 459, 460, 461, 483, 484, 485, 486, 488, 489, 490] (by decide +kernel) (by decide +kernel)
set_option maxRecDepth 20000 in
theorem gL_law_X4_eventB : GoodIn wsL_law (wsV RL 23 RX4 yX4_eventB wsX4_eventB) := goodIn_app (goodIn_of _ (by decide +kernel)) ggL_law_X4_eventB
set_option maxRecDepth 20000 in
theorem ggL_law_X5_eventB : GoodIn wsL_law wsX5_eventB := goodIn_r _ [276, 244, 245, 246, 5, 247, 128, 107, 98, 93, 106, 94, 108, 110, 248, 249, 250, 251, 252, 130, 131, 132, 253, 254, 255, 256, 99, 257, 258, 259, 260, 95, 96, 97, 261, 262, 263, 264, 129, 265, 266, 267, 268, 100, 462, 463, 464, 465, 466, 467, 468, 469, 470, 471, 472, 473, 474, 475, 476, 477, 478, 479, 480, 481, 482] (by decide +kernel) (by decide +kernel)
set_option maxRecDepth 20000 in
theorem gL_law_X5_eventB : GoodIn wsL_law (wsV RL 26 RX5 yX5_eventB wsX5_eventB) := goodIn_app (goodIn_of _ (by decide +kernel)) ggL_law_X5_eventB
set_option maxRecDepth 20000 in
theorem ggL_law_X4_markA : GoodIn wsL_law wsX4_markA := goodIn_r _ [280, 69, 70, 150, 151, 152, 153, 281, 282, 2, 283, 141, 142, 143, 144, 145, 119, 120, 121, 284, 285, 286, 287, 27, 20, 24, 30, 73, 288, 289, 290, 19, 291, 46, 173, 174, 175, 23, 176, 63, 292, 293, 294, 295, 296, 297, 298, 299, 186, 187, 188, 189, 61, 190, 191, 192, 193, 62, 300, 301, 302, 303, 15, 28, 25, 16, 146, 147, 148, 149, 206, 207, 208, 209, 26, 210, 211, 212, 213, 304, 305, 306, 14, 307, 38, 35, 36, 37, 308, 195, 196, 197, 446, 447, 448, 449, 450, 451, 452, 453, 454, 455, 456, 457, 458, 459, 460, 461, 491, 492, 493, 494, 495, 496, 487, 488, 489, 490, 483, 484, 485, 486] (by decide +kernel) (by decide +kernel)
set_option maxRecDepth 20000 in
theorem gL_law_X4_markA : GoodIn wsL_law (wsV RL 27 RX4 yX4_markA wsX4_markA) := goodIn_app (goodIn_of _ (by decide +kernel)) ggL_law_X4_markA
set_option maxRecDepth 20000 in
theorem ggL_law_X5_markA : GoodIn wsL_law wsX5_markA := goodIn_r _ [312, 313, 314, 315, 5, 316, 99, 106, 317, 94, 109, 248, 249, 250, 251, 252, 130, 131, 132, 253, 254, 255, 256, 318, 319, 320, 321, 322, 323, 324, 325, 326, 327, 328, 329, 330, 98, 92, 331, 332, 333, 334, 95, 91, 335, 336, 337, 338, 339, 340, 341, 342, 128, 343, 344, 345, 346, 96, 347, 348, 349, 350, 97, 265, 266, 267, 268, 100, 351, 352, 353, 354, 355, 356, 357, 358, 129, 462, 463, 464, 465, 466, 467, 468, 469, 470, 471, 472, 473, 474, 475, 476, 477, 478, 479, 480, 481, 482] (by decide +kernel) (by decide +kernel)
set_option maxRecDepth 20000 in
theorem gL_law_X5_markA : GoodIn wsL_law (wsV RL 31 RX5 yX5_markA wsX5_markA) := goodIn_app (goodIn_of _ (by decide +kernel)) ggL_law_X5_markA
set_option maxRecDepth 20000 in
theorem ggL_law_X4_markB : GoodIn wsL_law wsX4_markB := goodIn_r _ [362, 70, 69, 150, 151, 152, 153, 281, 282, 2, 283, 141, 142, 143, 144, 145, 119, 120, 121, 284, 285, 286, 287, 27, 20, 24, 30, 73, 288, 289, 290, 19, 291, 46, 173, 174, 175, 23, 176, 63, 292, 293, 294, 295, 296, 297, 298, 299, 186, 187, 188, 189, 61, 190, 191, 192, 193, 62, 300, 301, 302, 303, 15, 28, 25, 16, 146, 147, 148, 149, 206, 207, 208, 209, 26, 210, 211, 212, 213, 304, 305, 306, 14, 307, 38, 35, 36, 37, 308, 195, 196, 197, 446, 447, 448, 449, 450, 451, 452, 453, 454, 455, 456, 457, 458, 459, 460, 461, 491, 492, 493, 494, 495, 496, 487, 488, 489, 490, 483, 484, 485, 486] (by decide +kernel) (by decide +kernel)
set_option maxRecDepth 20000 in
theorem gL_law_X4_markB : GoodIn wsL_law (wsV RL 32 RX4 yX4_markB wsX4_markB) := goodIn_app (goodIn_of _ (by decide +kernel)) ggL_law_X4_markB
set_option maxRecDepth 20000 in
theorem ggL_law_X5_markB : GoodIn wsL_law wsX5_markB := goodIn_r _ [366, 313, 314, 315, 5, 316, 99, 106, 317, 94, 109, 248, 249, 250, 251, 252, 130, 131, 132, 253, 254, 255, 256, 318, 319, 320, 321, 322, 323, 324, 325, 326, 327, 328, 329, 330, 98, 92, 331, 332, 333, 334, 95, 91, 335, 336, 337, 338, 339, 340, 341, 342, 128, 343, 344, 345, 346, 96, 347, 348, 349, 350, 97, 265, 266, 267, 268, 100, 351, 352, 353, 354, 355, 356, 357, 358, 129, 462, 463, 464, 465, 466, 467, 468, 469, 470, 471, 472, 473, 474, 475, 476, 477, 478, 479, 480, 481, 482] (by decide +kernel) (by decide +kernel)
set_option maxRecDepth 20000 in
theorem gL_law_X5_markB : GoodIn wsL_law (wsV RL 35 RX5 yX5_markB wsX5_markB) := goodIn_app (goodIn_of _ (by decide +kernel)) ggL_law_X5_markB
set_option maxRecDepth 20000 in
theorem ggL_law_X4_mark : GoodIn wsL_law wsX4_mark := goodIn_r _ [149, 69, 70, 150, 151, 152, 153, 446, 447, 448, 449, 450, 451, 452, 453, 454, 455, 456, 457, 458, 459, 460, 461] (by decide +kernel) (by decide +kernel)
set_option maxRecDepth 20000 in
theorem gL_law_X4_mark : GoodIn wsL_law (wsV RL 36 RX4 yX4_mark wsX4_mark) := goodIn_app (goodIn_of _ (by decide +kernel)) ggL_law_X4_mark
set_option maxRecDepth 20000 in
theorem ggL_law_X5_mark : GoodIn wsL_law wsX5_mark := goodIn_r _ [256, 99, 462, 463, 464, 465, 466, 467, 468, 469, 470, 471, 472, 473, 474, 475, 476, 477, 478, 479, 480, 481, 482] (by decide +kernel) (by decide +kernel)
set_option maxRecDepth 20000 in
theorem gL_law_X5_mark : GoodIn wsL_law (wsV RL 40 RX5 yX5_mark wsX5_mark) := goodIn_app (goodIn_of _ (by decide +kernel)) ggL_law_X5_mark
set_option maxRecDepth 20000 in
theorem ggL_law_X4_available : GoodIn wsL_law wsX4_available := goodIn_r _ [372, 24, 173, 174, 175, 23, 176, 63, 446, 447, 448, 449, 450, 451, 452, 453, 454, 455, 456, 457, 458, 459, 460, 461, 488, 489, 490] (by decide +kernel) (by decide +kernel)
set_option maxRecDepth 20000 in
theorem gL_law_X4_available : GoodIn wsL_law (wsV RL 41 RX4 yX4_available wsX4_available) := goodIn_app (goodIn_of _ (by decide +kernel)) ggL_law_X4_available
set_option maxRecDepth 20000 in
theorem ggL_law_X5_available : GoodIn wsL_law wsX5_available := goodIn_r _ [376, 106, 462, 463, 464, 465, 466, 467, 468, 469, 470, 471, 472, 473, 474, 475, 476, 477, 478, 479, 480, 481, 482] (by decide +kernel) (by decide +kernel)
set_option maxRecDepth 20000 in
theorem gL_law_X5_available : GoodIn wsL_law (wsV RL 44 RX5 yX5_available wsX5_available) := goodIn_app (goodIn_of _ (by decide +kernel)) ggL_law_X5_available
set_option maxRecDepth 20000 in
theorem ggL_law_X4_kind : GoodIn wsL_law wsX4_kind := goodIn_r _ [380, 24, 381, 382, 383, 23, 384, 63, 61, 120, 2, 121, 190, 191, 192, 193, 62, 446, 447, 448, 449, 450, 451, 452, 453, 454, 455, 456, 457, 458, 459, 460, 461, 488, 489, 490] (by decide +kernel) (by decide +kernel)
set_option maxRecDepth 20000 in
theorem gL_law_X4_kind : GoodIn wsL_law (wsV RL 45 RX4 yX4_kind wsX4_kind) := goodIn_app (goodIn_of _ (by decide +kernel)) ggL_law_X4_kind
set_option maxRecDepth 20000 in
theorem ggL_law_X5_kind : GoodIn wsL_law wsX5_kind := goodIn_r _ [388, 106, 100, 130, 131, 5, 132, 462, 463, 464, 465, 466, 467, 468, 469, 470, 471, 472, 473, 474, 475, 476, 477, 478, 479, 480, 481, 482] (by decide +kernel) (by decide +kernel)
set_option maxRecDepth 20000 in
theorem gL_law_X5_kind : GoodIn wsL_law (wsV RL 48 RX5 yX5_kind wsX5_kind) := goodIn_app (goodIn_of _ (by decide +kernel)) ggL_law_X5_kind
set_option maxRecDepth 20000 in
theorem ggL_law_X4_field : GoodIn wsL_law wsX4_field := goodIn_r _ [392, 24, 119, 120, 2, 121, 381, 382, 383, 23, 384, 63, 61, 190, 191, 192, 193, 62, 446, 447, 448, 449, 450, 451, 452, 453, 454, 455, 456, 457, 458, 459, 460, 461, 488, 489, 490] (by decide +kernel) (by decide +kernel)
set_option maxRecDepth 20000 in
theorem gL_law_X4_field : GoodIn wsL_law (wsV RL 49 RX4 yX4_field wsX4_field) := goodIn_app (goodIn_of _ (by decide +kernel)) ggL_law_X4_field
set_option maxRecDepth 20000 in
theorem ggL_law_X5_field : GoodIn wsL_law wsX5_field := goodIn_r _ [396, 106, 100, 130, 131, 5, 132, 462, 463, 464, 465, 466, 467, 468, 469, 470, 471, 472, 473, 474, 475, 476, 477, 478, 479, 480, 481, 482] (by decide +kernel) (by decide +kernel)
set_option maxRecDepth 20000 in
theorem gL_law_X5_field : GoodIn wsL_law (wsV RL 53 RX5 yX5_field wsX5_field) := goodIn_app (goodIn_of _ (by decide +kernel)) ggL_law_X5_field
set_option maxRecDepth 20000 in
theorem ggL_law_X4_pop : GoodIn wsL_law wsX4_pop := goodIn_r _ [400, 24, 401, 402, 403, 23, 404, 63, 62, 446, 447, 448, 449, 450, 451, 452, 453, 454, 455, 456, 457, 458, 459, 460, 461, 488, 489, 490] (by decide +kernel) (by decide +kernel)
set_option maxRecDepth 20000 in
theorem gL_law_X4_pop : GoodIn wsL_law (wsV RL 54 RX4 yX4_pop wsX4_pop) := goodIn_app (goodIn_of _ (by decide +kernel)) ggL_law_X4_pop
set_option maxRecDepth 20000 in
theorem ggL_law_X5_pop : GoodIn wsL_law wsX5_pop := goodIn_r _ [408, 106, 100, 462, 463, 464, 465, 466, 467, 468, 469, 470, 471, 472, 473, 474, 475, 476, 477, 478, 479, 480, 481, 482] (by decide +kernel) (by decide +kernel)
set_option maxRecDepth 20000 in
theorem gL_law_X5_pop : GoodIn wsL_law (wsV RL 58 RX5 yX5_pop wsX5_pop) := goodIn_app (goodIn_of _ (by decide +kernel)) ggL_law_X5_pop
set_option maxRecDepth 20000 in
theorem ggL_law_X4_look : GoodIn wsL_law wsX4_look := goodIn_r _ [412, 20, 413, 414, 415, 19, 416, 46, 218, 219, 220, 221, 222, 223, 44, 224, 55, 56, 225, 226, 227, 228, 446, 447, 448, 449, 450, 451, 452, 453, 454, 455, 456, 457, 458, 459, 460, 461, 491, 492, 493, 494, 495, 496, 487] (by decide +kernel) (by decide +kernel)
set_option maxRecDepth 20000 in
theorem gL_law_X4_look : GoodIn wsL_law (wsV RL 59 RX4 yX4_look wsX4_look) := goodIn_app (goodIn_of _ (by decide +kernel)) ggL_law_X4_look
set_option maxRecDepth 20000 in
theorem ggL_law_X5_look : GoodIn wsL_law wsX5_look := goodIn_r _ [420, 91, 92, 324, 325, 326, 253, 254, 255, 5, 256, 99, 339, 340, 341, 342, 128, 130, 131, 132, 347, 348, 349, 350, 98, 96, 97, 335, 336, 337, 338, 95, 462, 463, 464, 465, 466, 467, 468, 469, 470, 471, 472, 473, 474, 475, 476, 477, 478, 479, 480, 481, 482] (by decide +kernel) (by decide +kernel)
set_option maxRecDepth 20000 in
theorem gL_law_X5_look : GoodIn wsL_law (wsV RL 62 RX5 yX5_look wsX5_look) := goodIn_app (goodIn_of _ (by decide +kernel)) ggL_law_X5_look
set_option maxRecDepth 20000 in
theorem ggL_law_X4_event : GoodIn wsL_law wsX4_event := goodIn_r _ [424, 15, 16, 119, 120, 2, 121, 178, 179, 180, 14, 181, 35, 169, 170, 171, 172, 38, 425, 426, 427, 428, 36, 182, 183, 184, 185, 37, 446, 447, 448, 449, 450, 451, 452, 453, 454, 455, 456, 457, 458, 459, 460, 461, 483, 484, 485, 486] (by decide +kernel) (by decide +kernel)
set_option maxRecDepth 20000 in
theorem gL_law_X4_event : GoodIn wsL_law (wsV RL 63 RX4 yX4_event wsX4_event) := goodIn_app (goodIn_of _ (by decide +kernel)) ggL_law_X4_event
set_option maxRecDepth 20000 in
theorem ggL_law_X5_event_ : GoodIn wsL_law wsX5_event_ := goodIn_r _ [432, 98, 95, 96, 97, 130, 131, 5, 132, 462, 463, 464, 465, 466, 467, 468, 469, 470, 471, 472, 473, 474, 475, 476, 477, 478, 479, 480, 481, 482] (by decide +kernel) (by decide +kernel)
set_option maxRecDepth 20000 in
theorem gL_law_X5_event_ : GoodIn wsL_law (wsV RL 66 RX5 yX5_event_ wsX5_event_) := goodIn_app (goodIn_of _ (by decide +kernel)) ggL_law_X5_event_
set_option maxRecDepth 20000 in
theorem ggL_law_X4_count : GoodIn wsL_law wsX4_count := goodIn_r _ [436, 15, 16, 71, 69, 70, 20, 437, 72, 73, 74, 154, 155, 156, 14, 157, 38, 292, 293, 294, 19, 295, 46, 446, 447, 448, 449, 450, 451, 452, 453, 454, 455, 456, 457, 458, 459, 460, 461, 483, 484, 485, 486, 487, 491, 492, 493, 494, 495, 496] (by decide +kernel) (by decide +kernel)
set_option maxRecDepth 20000 in
theorem gL_law_X4_count : GoodIn wsL_law (wsV RL 67 RX4 yX4_count wsX4_count) := goodIn_app (goodIn_of _ (by decide +kernel)) ggL_law_X4_count
set_option maxRecDepth 20000 in
theorem ggL_law_X5_count : GoodIn wsL_law wsX5_count := goodIn_r _ [441, 98, 107, 99, 108, 109, 110, 442, 443, 444, 5, 445, 322, 323, 327, 328, 329, 330, 92, 331, 332, 333, 334, 95, 91, 335, 336, 337, 338, 253, 254, 255, 256, 339, 340, 341, 342, 128, 462, 463, 464, 465, 466, 467, 468, 469, 470, 471, 472, 473, 474, 475, 476, 477, 478, 479, 480, 481, 482] (by decide +kernel) (by decide +kernel)
set_option maxRecDepth 20000 in
theorem gL_law_X5_count : GoodIn wsL_law (wsV RL 70 RX5 yX5_count wsX5_count) := goodIn_app (goodIn_of _ (by decide +kernel)) ggL_law_X5_count
theorem dL_law_0 : decode cL_law 0 = .ok (.new 7, 3) := by decide +kernel
theorem dL_law_3 : decode cL_law 3 = .ok (.dup, 1) := by decide +kernel
theorem dL_law_4 : decode cL_law 4 = .ok (.invokespecial 9, 3) := by decide +kernel
theorem dL_law_7 : decode cL_law 7 = .ok (.astore_n 1, 1) := by decide +kernel
theorem dL_law_8 : decode cL_law 8 = .ok (.new 10, 3) := by decide +kernel
theorem dL_law_11 : decode cL_law 11 = .ok (.dup, 1) := by decide +kernel
theorem dL_law_12 : decode cL_law 12 = .ok (.invokespecial 12, 3) := by decide +kernel
theorem dL_law_15 : decode cL_law 15 = .ok (.astore_n 2, 1) := by decide +kernel
theorem dL_law_16 : decode cL_law 16 = .ok (.iconst 0, 1) := by decide +kernel
theorem dL_law_17 : decode cL_law 17 = .ok (.istore_n 3, 1) := by decide +kernel
theorem dL_law_18 : decode cL_law 18 = .ok (.iload_n 3, 1) := by decide +kernel
theorem dL_law_19 : decode cL_law 19 = .ok (.aload_n 0, 1) := by decide +kernel
theorem dL_law_20 : decode cL_law 20 = .ok (.arraylength, 1) := by decide +kernel
theorem dL_law_21 : decode cL_law 21 = .ok (.bipush 7, 2) := by decide +kernel
theorem dL_law_23 : decode cL_law 23 = .ok (.isub, 1) := by decide +kernel
theorem dL_law_24 : decode cL_law 24 = .ok (.if_icmp .gt 493, 3) := by decide +kernel
theorem dL_law_27 : decode cL_law 27 = .ok (.aload_n 0, 1) := by decide +kernel
theorem dL_law_28 : decode cL_law 28 = .ok (.iload_n 3, 1) := by decide +kernel
theorem dL_law_29 : decode cL_law 29 = .ok (.iaload, 1) := by decide +kernel
theorem dL_law_30 : decode cL_law 30 = .ok (.bipush 15, 2) := by decide +kernel
theorem dL_law_32 : decode cL_law 32 = .ok (.iand, 1) := by decide +kernel
theorem dL_law_33 : decode cL_law 33 = .ok (.tableswitch 478 0 12 #[67, 142, 185, 228, 251, 274, 287, 300, 323, 356, 369, 412, 455], 67) := by decide +kernel
theorem dL_law_100 : decode cL_law 100 = .ok (.aload_n 1, 1) := by decide +kernel
theorem dL_law_101 : decode cL_law 101 = .ok (.aload_n 0, 1) := by decide +kernel
theorem dL_law_102 : decode cL_law 102 = .ok (.iload_n 3, 1) := by decide +kernel
theorem dL_law_103 : decode cL_law 103 = .ok (.iconst 1, 1) := by decide +kernel
theorem dL_law_104 : decode cL_law 104 = .ok (.iadd, 1) := by decide +kernel
theorem dL_law_105 : decode cL_law 105 = .ok (.iaload, 1) := by decide +kernel
theorem dL_law_106 : decode cL_law 106 = .ok (.aload_n 0, 1) := by decide +kernel
theorem dL_law_107 : decode cL_law 107 = .ok (.iload_n 3, 1) := by decide +kernel
theorem dL_law_108 : decode cL_law 108 = .ok (.iconst 2, 1) := by decide +kernel
theorem dL_law_109 : decode cL_law 109 = .ok (.iadd, 1) := by decide +kernel
theorem dL_law_110 : decode cL_law 110 = .ok (.iaload, 1) := by decide +kernel
theorem dL_law_111 : decode cL_law 111 = .ok (.aload_n 0, 1) := by decide +kernel
theorem dL_law_112 : decode cL_law 112 = .ok (.iload_n 3, 1) := by decide +kernel
theorem dL_law_113 : decode cL_law 113 = .ok (.iconst 3, 1) := by decide +kernel
theorem dL_law_114 : decode cL_law 114 = .ok (.iadd, 1) := by decide +kernel
theorem dL_law_115 : decode cL_law 115 = .ok (.iaload, 1) := by decide +kernel
theorem dL_law_116 : decode cL_law 116 = .ok (.aload_n 0, 1) := by decide +kernel
theorem dL_law_117 : decode cL_law 117 = .ok (.iload_n 3, 1) := by decide +kernel
theorem dL_law_118 : decode cL_law 118 = .ok (.iconst 4, 1) := by decide +kernel
theorem dL_law_119 : decode cL_law 119 = .ok (.iadd, 1) := by decide +kernel
theorem dL_law_120 : decode cL_law 120 = .ok (.iaload, 1) := by decide +kernel
theorem dL_law_121 : decode cL_law 121 = .ok (.aload_n 0, 1) := by decide +kernel
theorem dL_law_122 : decode cL_law 122 = .ok (.iload_n 3, 1) := by decide +kernel
theorem dL_law_123 : decode cL_law 123 = .ok (.iconst 5, 1) := by decide +kernel
theorem dL_law_124 : decode cL_law 124 = .ok (.iadd, 1) := by decide +kernel
theorem dL_law_125 : decode cL_law 125 = .ok (.iaload, 1) := by decide +kernel
theorem dL_law_126 : decode cL_law 126 = .ok (.aload_n 0, 1) := by decide +kernel
theorem dL_law_127 : decode cL_law 127 = .ok (.iload_n 3, 1) := by decide +kernel
theorem dL_law_128 : decode cL_law 128 = .ok (.bipush 6, 2) := by decide +kernel
theorem dL_law_130 : decode cL_law 130 = .ok (.iadd, 1) := by decide +kernel
theorem dL_law_131 : decode cL_law 131 = .ok (.iaload, 1) := by decide +kernel
theorem dL_law_132 : decode cL_law 132 = .ok (.invokevirtual 13, 3) := by decide +kernel
theorem dL_law_135 : decode cL_law 135 = .ok (.aload_n 2, 1) := by decide +kernel
theorem dL_law_136 : decode cL_law 136 = .ok (.aload_n 0, 1) := by decide +kernel
theorem dL_law_137 : decode cL_law 137 = .ok (.iload_n 3, 1) := by decide +kernel
theorem dL_law_138 : decode cL_law 138 = .ok (.iconst 1, 1) := by decide +kernel
theorem dL_law_139 : decode cL_law 139 = .ok (.iadd, 1) := by decide +kernel
theorem dL_law_140 : decode cL_law 140 = .ok (.iaload, 1) := by decide +kernel
theorem dL_law_141 : decode cL_law 141 = .ok (.aload_n 0, 1) := by decide +kernel
theorem dL_law_142 : decode cL_law 142 = .ok (.iload_n 3, 1) := by decide +kernel
theorem dL_law_143 : decode cL_law 143 = .ok (.iconst 2, 1) := by decide +kernel
theorem dL_law_144 : decode cL_law 144 = .ok (.iadd, 1) := by decide +kernel
theorem dL_law_145 : decode cL_law 145 = .ok (.iaload, 1) := by decide +kernel
theorem dL_law_146 : decode cL_law 146 = .ok (.aload_n 0, 1) := by decide +kernel
theorem dL_law_147 : decode cL_law 147 = .ok (.iload_n 3, 1) := by decide +kernel
theorem dL_law_148 : decode cL_law 148 = .ok (.iconst 3, 1) := by decide +kernel
theorem dL_law_149 : decode cL_law 149 = .ok (.iadd, 1) := by decide +kernel
theorem dL_law_150 : decode cL_law 150 = .ok (.iaload, 1) := by decide +kernel
theorem dL_law_151 : decode cL_law 151 = .ok (.aload_n 0, 1) := by decide +kernel
theorem dL_law_152 : decode cL_law 152 = .ok (.iload_n 3, 1) := by decide +kernel
theorem dL_law_153 : decode cL_law 153 = .ok (.iconst 4, 1) := by decide +kernel
theorem dL_law_154 : decode cL_law 154 = .ok (.iadd, 1) := by decide +kernel
theorem dL_law_155 : decode cL_law 155 = .ok (.iaload, 1) := by decide +kernel
theorem dL_law_156 : decode cL_law 156 = .ok (.aload_n 0, 1) := by decide +kernel
theorem dL_law_157 : decode cL_law 157 = .ok (.iload_n 3, 1) := by decide +kernel
theorem dL_law_158 : decode cL_law 158 = .ok (.iconst 5, 1) := by decide +kernel
theorem dL_law_159 : decode cL_law 159 = .ok (.iadd, 1) := by decide +kernel
theorem dL_law_160 : decode cL_law 160 = .ok (.iaload, 1) := by decide +kernel
theorem dL_law_161 : decode cL_law 161 = .ok (.aload_n 0, 1) := by decide +kernel
theorem dL_law_162 : decode cL_law 162 = .ok (.iload_n 3, 1) := by decide +kernel
theorem dL_law_163 : decode cL_law 163 = .ok (.bipush 6, 2) := by decide +kernel
theorem dL_law_165 : decode cL_law 165 = .ok (.iadd, 1) := by decide +kernel
theorem dL_law_166 : decode cL_law 166 = .ok (.iaload, 1) := by decide +kernel
theorem dL_law_167 : decode cL_law 167 = .ok (.invokevirtual 17, 3) := by decide +kernel
theorem dL_law_170 : decode cL_law 170 = .ok (.if_icmp .eq 341, 3) := by decide +kernel
theorem dL_law_173 : decode cL_law 173 = .ok (.iconst 0, 1) := by decide +kernel
theorem dL_law_174 : decode cL_law 174 = .ok (.ireturn, 1) := by decide +kernel
theorem dL_law_175 : decode cL_law 175 = .ok (.aload_n 1, 1) := by decide +kernel
theorem dL_law_176 : decode cL_law 176 = .ok (.aload_n 0, 1) := by decide +kernel
theorem dL_law_177 : decode cL_law 177 = .ok (.iload_n 3, 1) := by decide +kernel
theorem dL_law_178 : decode cL_law 178 = .ok (.iconst 1, 1) := by decide +kernel
theorem dL_law_179 : decode cL_law 179 = .ok (.iadd, 1) := by decide +kernel
theorem dL_law_180 : decode cL_law 180 = .ok (.iaload, 1) := by decide +kernel
theorem dL_law_181 : decode cL_law 181 = .ok (.aload_n 0, 1) := by decide +kernel
theorem dL_law_182 : decode cL_law 182 = .ok (.iload_n 3, 1) := by decide +kernel
theorem dL_law_183 : decode cL_law 183 = .ok (.iconst 2, 1) := by decide +kernel
theorem dL_law_184 : decode cL_law 184 = .ok (.iadd, 1) := by decide +kernel
theorem dL_law_185 : decode cL_law 185 = .ok (.iaload, 1) := by decide +kernel
theorem dL_law_186 : decode cL_law 186 = .ok (.aload_n 0, 1) := by decide +kernel
theorem dL_law_187 : decode cL_law 187 = .ok (.iload_n 3, 1) := by decide +kernel
theorem dL_law_188 : decode cL_law 188 = .ok (.iconst 3, 1) := by decide +kernel
theorem dL_law_189 : decode cL_law 189 = .ok (.iadd, 1) := by decide +kernel
theorem dL_law_190 : decode cL_law 190 = .ok (.iaload, 1) := by decide +kernel
theorem dL_law_191 : decode cL_law 191 = .ok (.invokevirtual 18, 3) := by decide +kernel
theorem dL_law_194 : decode cL_law 194 = .ok (.aload_n 2, 1) := by decide +kernel
theorem dL_law_195 : decode cL_law 195 = .ok (.aload_n 0, 1) := by decide +kernel
theorem dL_law_196 : decode cL_law 196 = .ok (.iload_n 3, 1) := by decide +kernel
theorem dL_law_197 : decode cL_law 197 = .ok (.iconst 1, 1) := by decide +kernel
theorem dL_law_198 : decode cL_law 198 = .ok (.iadd, 1) := by decide +kernel
theorem dL_law_199 : decode cL_law 199 = .ok (.iaload, 1) := by decide +kernel
theorem dL_law_200 : decode cL_law 200 = .ok (.aload_n 0, 1) := by decide +kernel
theorem dL_law_201 : decode cL_law 201 = .ok (.iload_n 3, 1) := by decide +kernel
theorem dL_law_202 : decode cL_law 202 = .ok (.iconst 2, 1) := by decide +kernel
theorem dL_law_203 : decode cL_law 203 = .ok (.iadd, 1) := by decide +kernel
theorem dL_law_204 : decode cL_law 204 = .ok (.iaload, 1) := by decide +kernel
theorem dL_law_205 : decode cL_law 205 = .ok (.aload_n 0, 1) := by decide +kernel
theorem dL_law_206 : decode cL_law 206 = .ok (.iload_n 3, 1) := by decide +kernel
theorem dL_law_207 : decode cL_law 207 = .ok (.iconst 3, 1) := by decide +kernel
theorem dL_law_208 : decode cL_law 208 = .ok (.iadd, 1) := by decide +kernel
theorem dL_law_209 : decode cL_law 209 = .ok (.iaload, 1) := by decide +kernel
theorem dL_law_210 : decode cL_law 210 = .ok (.invokevirtual 22, 3) := by decide +kernel
theorem dL_law_213 : decode cL_law 213 = .ok (.if_icmp .eq 298, 3) := by decide +kernel
theorem dL_law_216 : decode cL_law 216 = .ok (.iconst 0, 1) := by decide +kernel
theorem dL_law_217 : decode cL_law 217 = .ok (.ireturn, 1) := by decide +kernel
theorem dL_law_218 : decode cL_law 218 = .ok (.aload_n 1, 1) := by decide +kernel
theorem dL_law_219 : decode cL_law 219 = .ok (.aload_n 0, 1) := by decide +kernel
theorem dL_law_220 : decode cL_law 220 = .ok (.iload_n 3, 1) := by decide +kernel
theorem dL_law_221 : decode cL_law 221 = .ok (.iconst 1, 1) := by decide +kernel
theorem dL_law_222 : decode cL_law 222 = .ok (.iadd, 1) := by decide +kernel
theorem dL_law_223 : decode cL_law 223 = .ok (.iaload, 1) := by decide +kernel
theorem dL_law_224 : decode cL_law 224 = .ok (.aload_n 0, 1) := by decide +kernel
theorem dL_law_225 : decode cL_law 225 = .ok (.iload_n 3, 1) := by decide +kernel
theorem dL_law_226 : decode cL_law 226 = .ok (.iconst 2, 1) := by decide +kernel
theorem dL_law_227 : decode cL_law 227 = .ok (.iadd, 1) := by decide +kernel
theorem dL_law_228 : decode cL_law 228 = .ok (.iaload, 1) := by decide +kernel
theorem dL_law_229 : decode cL_law 229 = .ok (.aload_n 0, 1) := by decide +kernel
theorem dL_law_230 : decode cL_law 230 = .ok (.iload_n 3, 1) := by decide +kernel
theorem dL_law_231 : decode cL_law 231 = .ok (.iconst 3, 1) := by decide +kernel
theorem dL_law_232 : decode cL_law 232 = .ok (.iadd, 1) := by decide +kernel
theorem dL_law_233 : decode cL_law 233 = .ok (.iaload, 1) := by decide +kernel
theorem dL_law_234 : decode cL_law 234 = .ok (.invokevirtual 23, 3) := by decide +kernel
theorem dL_law_237 : decode cL_law 237 = .ok (.aload_n 2, 1) := by decide +kernel
theorem dL_law_238 : decode cL_law 238 = .ok (.aload_n 0, 1) := by decide +kernel
theorem dL_law_239 : decode cL_law 239 = .ok (.iload_n 3, 1) := by decide +kernel
theorem dL_law_240 : decode cL_law 240 = .ok (.iconst 1, 1) := by decide +kernel
theorem dL_law_241 : decode cL_law 241 = .ok (.iadd, 1) := by decide +kernel
theorem dL_law_242 : decode cL_law 242 = .ok (.iaload, 1) := by decide +kernel
theorem dL_law_243 : decode cL_law 243 = .ok (.aload_n 0, 1) := by decide +kernel
theorem dL_law_244 : decode cL_law 244 = .ok (.iload_n 3, 1) := by decide +kernel
theorem dL_law_245 : decode cL_law 245 = .ok (.iconst 2, 1) := by decide +kernel
theorem dL_law_246 : decode cL_law 246 = .ok (.iadd, 1) := by decide +kernel
theorem dL_law_247 : decode cL_law 247 = .ok (.iaload, 1) := by decide +kernel
theorem dL_law_248 : decode cL_law 248 = .ok (.aload_n 0, 1) := by decide +kernel
theorem dL_law_249 : decode cL_law 249 = .ok (.iload_n 3, 1) := by decide +kernel
theorem dL_law_250 : decode cL_law 250 = .ok (.iconst 3, 1) := by decide +kernel
theorem dL_law_251 : decode cL_law 251 = .ok (.iadd, 1) := by decide +kernel
theorem dL_law_252 : decode cL_law 252 = .ok (.iaload, 1) := by decide +kernel
theorem dL_law_253 : decode cL_law 253 = .ok (.invokevirtual 26, 3) := by decide +kernel
theorem dL_law_256 : decode cL_law 256 = .ok (.if_icmp .eq 255, 3) := by decide +kernel
theorem dL_law_259 : decode cL_law 259 = .ok (.iconst 0, 1) := by decide +kernel
theorem dL_law_260 : decode cL_law 260 = .ok (.ireturn, 1) := by decide +kernel
theorem dL_law_261 : decode cL_law 261 = .ok (.aload_n 1, 1) := by decide +kernel
theorem dL_law_262 : decode cL_law 262 = .ok (.aload_n 0, 1) := by decide +kernel
theorem dL_law_263 : decode cL_law 263 = .ok (.iload_n 3, 1) := by decide +kernel
theorem dL_law_264 : decode cL_law 264 = .ok (.iconst 1, 1) := by decide +kernel
theorem dL_law_265 : decode cL_law 265 = .ok (.iadd, 1) := by decide +kernel
theorem dL_law_266 : decode cL_law 266 = .ok (.iaload, 1) := by decide +kernel
theorem dL_law_267 : decode cL_law 267 = .ok (.invokevirtual 27, 3) := by decide +kernel
theorem dL_law_270 : decode cL_law 270 = .ok (.aload_n 2, 1) := by decide +kernel
theorem dL_law_271 : decode cL_law 271 = .ok (.aload_n 0, 1) := by decide +kernel
theorem dL_law_272 : decode cL_law 272 = .ok (.iload_n 3, 1) := by decide +kernel
theorem dL_law_273 : decode cL_law 273 = .ok (.iconst 1, 1) := by decide +kernel
theorem dL_law_274 : decode cL_law 274 = .ok (.iadd, 1) := by decide +kernel
theorem dL_law_275 : decode cL_law 275 = .ok (.iaload, 1) := by decide +kernel
theorem dL_law_276 : decode cL_law 276 = .ok (.invokevirtual 31, 3) := by decide +kernel
theorem dL_law_279 : decode cL_law 279 = .ok (.if_icmp .eq 232, 3) := by decide +kernel
theorem dL_law_282 : decode cL_law 282 = .ok (.iconst 0, 1) := by decide +kernel
theorem dL_law_283 : decode cL_law 283 = .ok (.ireturn, 1) := by decide +kernel
theorem dL_law_284 : decode cL_law 284 = .ok (.aload_n 1, 1) := by decide +kernel
theorem dL_law_285 : decode cL_law 285 = .ok (.aload_n 0, 1) := by decide +kernel
theorem dL_law_286 : decode cL_law 286 = .ok (.iload_n 3, 1) := by decide +kernel
theorem dL_law_287 : decode cL_law 287 = .ok (.iconst 1, 1) := by decide +kernel
theorem dL_law_288 : decode cL_law 288 = .ok (.iadd, 1) := by decide +kernel
theorem dL_law_289 : decode cL_law 289 = .ok (.iaload, 1) := by decide +kernel
theorem dL_law_290 : decode cL_law 290 = .ok (.invokevirtual 32, 3) := by decide +kernel
theorem dL_law_293 : decode cL_law 293 = .ok (.aload_n 2, 1) := by decide +kernel
theorem dL_law_294 : decode cL_law 294 = .ok (.aload_n 0, 1) := by decide +kernel
theorem dL_law_295 : decode cL_law 295 = .ok (.iload_n 3, 1) := by decide +kernel
theorem dL_law_296 : decode cL_law 296 = .ok (.iconst 1, 1) := by decide +kernel
theorem dL_law_297 : decode cL_law 297 = .ok (.iadd, 1) := by decide +kernel
theorem dL_law_298 : decode cL_law 298 = .ok (.iaload, 1) := by decide +kernel
theorem dL_law_299 : decode cL_law 299 = .ok (.invokevirtual 35, 3) := by decide +kernel
theorem dL_law_302 : decode cL_law 302 = .ok (.if_icmp .eq 209, 3) := by decide +kernel
theorem dL_law_305 : decode cL_law 305 = .ok (.iconst 0, 1) := by decide +kernel
theorem dL_law_306 : decode cL_law 306 = .ok (.ireturn, 1) := by decide +kernel
theorem dL_law_307 : decode cL_law 307 = .ok (.aload_n 1, 1) := by decide +kernel
theorem dL_law_308 : decode cL_law 308 = .ok (.invokevirtual 36, 3) := by decide +kernel
theorem dL_law_311 : decode cL_law 311 = .ok (.aload_n 2, 1) := by decide +kernel
theorem dL_law_312 : decode cL_law 312 = .ok (.invokevirtual 40, 3) := by decide +kernel
theorem dL_law_315 : decode cL_law 315 = .ok (.if_icmp .eq 196, 3) := by decide +kernel
theorem dL_law_318 : decode cL_law 318 = .ok (.iconst 0, 1) := by decide +kernel
theorem dL_law_319 : decode cL_law 319 = .ok (.ireturn, 1) := by decide +kernel
theorem dL_law_320 : decode cL_law 320 = .ok (.aload_n 1, 1) := by decide +kernel
theorem dL_law_321 : decode cL_law 321 = .ok (.invokevirtual 41, 3) := by decide +kernel
theorem dL_law_324 : decode cL_law 324 = .ok (.aload_n 2, 1) := by decide +kernel
theorem dL_law_325 : decode cL_law 325 = .ok (.invokevirtual 44, 3) := by decide +kernel
theorem dL_law_328 : decode cL_law 328 = .ok (.if_icmp .eq 183, 3) := by decide +kernel
theorem dL_law_331 : decode cL_law 331 = .ok (.iconst 0, 1) := by decide +kernel
theorem dL_law_332 : decode cL_law 332 = .ok (.ireturn, 1) := by decide +kernel
theorem dL_law_333 : decode cL_law 333 = .ok (.aload_n 1, 1) := by decide +kernel
theorem dL_law_334 : decode cL_law 334 = .ok (.aload_n 0, 1) := by decide +kernel
theorem dL_law_335 : decode cL_law 335 = .ok (.iload_n 3, 1) := by decide +kernel
theorem dL_law_336 : decode cL_law 336 = .ok (.iconst 1, 1) := by decide +kernel
theorem dL_law_337 : decode cL_law 337 = .ok (.iadd, 1) := by decide +kernel
theorem dL_law_338 : decode cL_law 338 = .ok (.iaload, 1) := by decide +kernel
theorem dL_law_339 : decode cL_law 339 = .ok (.invokevirtual 45, 3) := by decide +kernel
theorem dL_law_342 : decode cL_law 342 = .ok (.aload_n 2, 1) := by decide +kernel
theorem dL_law_343 : decode cL_law 343 = .ok (.aload_n 0, 1) := by decide +kernel
theorem dL_law_344 : decode cL_law 344 = .ok (.iload_n 3, 1) := by decide +kernel
theorem dL_law_345 : decode cL_law 345 = .ok (.iconst 1, 1) := by decide +kernel
theorem dL_law_346 : decode cL_law 346 = .ok (.iadd, 1) := by decide +kernel
theorem dL_law_347 : decode cL_law 347 = .ok (.iaload, 1) := by decide +kernel
theorem dL_law_348 : decode cL_law 348 = .ok (.invokevirtual 48, 3) := by decide +kernel
theorem dL_law_351 : decode cL_law 351 = .ok (.if_icmp .eq 160, 3) := by decide +kernel
theorem dL_law_354 : decode cL_law 354 = .ok (.iconst 0, 1) := by decide +kernel
theorem dL_law_355 : decode cL_law 355 = .ok (.ireturn, 1) := by decide +kernel
theorem dL_law_356 : decode cL_law 356 = .ok (.aload_n 1, 1) := by decide +kernel
theorem dL_law_357 : decode cL_law 357 = .ok (.aload_n 0, 1) := by decide +kernel
theorem dL_law_358 : decode cL_law 358 = .ok (.iload_n 3, 1) := by decide +kernel
theorem dL_law_359 : decode cL_law 359 = .ok (.iconst 1, 1) := by decide +kernel
theorem dL_law_360 : decode cL_law 360 = .ok (.iadd, 1) := by decide +kernel
theorem dL_law_361 : decode cL_law 361 = .ok (.iaload, 1) := by decide +kernel
theorem dL_law_362 : decode cL_law 362 = .ok (.aload_n 0, 1) := by decide +kernel
theorem dL_law_363 : decode cL_law 363 = .ok (.iload_n 3, 1) := by decide +kernel
theorem dL_law_364 : decode cL_law 364 = .ok (.iconst 2, 1) := by decide +kernel
theorem dL_law_365 : decode cL_law 365 = .ok (.iadd, 1) := by decide +kernel
theorem dL_law_366 : decode cL_law 366 = .ok (.iaload, 1) := by decide +kernel
theorem dL_law_367 : decode cL_law 367 = .ok (.invokevirtual 49, 3) := by decide +kernel
theorem dL_law_370 : decode cL_law 370 = .ok (.aload_n 2, 1) := by decide +kernel
theorem dL_law_371 : decode cL_law 371 = .ok (.aload_n 0, 1) := by decide +kernel
theorem dL_law_372 : decode cL_law 372 = .ok (.iload_n 3, 1) := by decide +kernel
theorem dL_law_373 : decode cL_law 373 = .ok (.iconst 1, 1) := by decide +kernel
theorem dL_law_374 : decode cL_law 374 = .ok (.iadd, 1) := by decide +kernel
theorem dL_law_375 : decode cL_law 375 = .ok (.iaload, 1) := by decide +kernel
theorem dL_law_376 : decode cL_law 376 = .ok (.aload_n 0, 1) := by decide +kernel
theorem dL_law_377 : decode cL_law 377 = .ok (.iload_n 3, 1) := by decide +kernel
theorem dL_law_378 : decode cL_law 378 = .ok (.iconst 2, 1) := by decide +kernel
theorem dL_law_379 : decode cL_law 379 = .ok (.iadd, 1) := by decide +kernel
theorem dL_law_380 : decode cL_law 380 = .ok (.iaload, 1) := by decide +kernel
theorem dL_law_381 : decode cL_law 381 = .ok (.invokevirtual 53, 3) := by decide +kernel
theorem dL_law_384 : decode cL_law 384 = .ok (.if_icmp .eq 127, 3) := by decide +kernel
theorem dL_law_387 : decode cL_law 387 = .ok (.iconst 0, 1) := by decide +kernel
theorem dL_law_388 : decode cL_law 388 = .ok (.ireturn, 1) := by decide +kernel
theorem dL_law_389 : decode cL_law 389 = .ok (.aload_n 1, 1) := by decide +kernel
theorem dL_law_390 : decode cL_law 390 = .ok (.invokevirtual 54, 3) := by decide +kernel
theorem dL_law_393 : decode cL_law 393 = .ok (.aload_n 2, 1) := by decide +kernel
theorem dL_law_394 : decode cL_law 394 = .ok (.invokevirtual 58, 3) := by decide +kernel
theorem dL_law_397 : decode cL_law 397 = .ok (.if_icmp .eq 114, 3) := by decide +kernel
theorem dL_law_400 : decode cL_law 400 = .ok (.iconst 0, 1) := by decide +kernel
theorem dL_law_401 : decode cL_law 401 = .ok (.ireturn, 1) := by decide +kernel
theorem dL_law_402 : decode cL_law 402 = .ok (.aload_n 1, 1) := by decide +kernel
theorem dL_law_403 : decode cL_law 403 = .ok (.aload_n 0, 1) := by decide +kernel
theorem dL_law_404 : decode cL_law 404 = .ok (.iload_n 3, 1) := by decide +kernel
theorem dL_law_405 : decode cL_law 405 = .ok (.iconst 1, 1) := by decide +kernel
theorem dL_law_406 : decode cL_law 406 = .ok (.iadd, 1) := by decide +kernel
theorem dL_law_407 : decode cL_law 407 = .ok (.iaload, 1) := by decide +kernel
theorem dL_law_408 : decode cL_law 408 = .ok (.aload_n 0, 1) := by decide +kernel
theorem dL_law_409 : decode cL_law 409 = .ok (.iload_n 3, 1) := by decide +kernel
theorem dL_law_410 : decode cL_law 410 = .ok (.iconst 2, 1) := by decide +kernel
theorem dL_law_411 : decode cL_law 411 = .ok (.iadd, 1) := by decide +kernel
theorem dL_law_412 : decode cL_law 412 = .ok (.iaload, 1) := by decide +kernel
theorem dL_law_413 : decode cL_law 413 = .ok (.aload_n 0, 1) := by decide +kernel
theorem dL_law_414 : decode cL_law 414 = .ok (.iload_n 3, 1) := by decide +kernel
theorem dL_law_415 : decode cL_law 415 = .ok (.iconst 3, 1) := by decide +kernel
theorem dL_law_416 : decode cL_law 416 = .ok (.iadd, 1) := by decide +kernel
theorem dL_law_417 : decode cL_law 417 = .ok (.iaload, 1) := by decide +kernel
theorem dL_law_418 : decode cL_law 418 = .ok (.invokevirtual 59, 3) := by decide +kernel
theorem dL_law_421 : decode cL_law 421 = .ok (.aload_n 2, 1) := by decide +kernel
theorem dL_law_422 : decode cL_law 422 = .ok (.aload_n 0, 1) := by decide +kernel
theorem dL_law_423 : decode cL_law 423 = .ok (.iload_n 3, 1) := by decide +kernel
theorem dL_law_424 : decode cL_law 424 = .ok (.iconst 1, 1) := by decide +kernel
theorem dL_law_425 : decode cL_law 425 = .ok (.iadd, 1) := by decide +kernel
theorem dL_law_426 : decode cL_law 426 = .ok (.iaload, 1) := by decide +kernel
theorem dL_law_427 : decode cL_law 427 = .ok (.aload_n 0, 1) := by decide +kernel
theorem dL_law_428 : decode cL_law 428 = .ok (.iload_n 3, 1) := by decide +kernel
theorem dL_law_429 : decode cL_law 429 = .ok (.iconst 2, 1) := by decide +kernel
theorem dL_law_430 : decode cL_law 430 = .ok (.iadd, 1) := by decide +kernel
theorem dL_law_431 : decode cL_law 431 = .ok (.iaload, 1) := by decide +kernel
theorem dL_law_432 : decode cL_law 432 = .ok (.aload_n 0, 1) := by decide +kernel
theorem dL_law_433 : decode cL_law 433 = .ok (.iload_n 3, 1) := by decide +kernel
theorem dL_law_434 : decode cL_law 434 = .ok (.iconst 3, 1) := by decide +kernel
theorem dL_law_435 : decode cL_law 435 = .ok (.iadd, 1) := by decide +kernel
theorem dL_law_436 : decode cL_law 436 = .ok (.iaload, 1) := by decide +kernel
theorem dL_law_437 : decode cL_law 437 = .ok (.invokevirtual 62, 3) := by decide +kernel
theorem dL_law_440 : decode cL_law 440 = .ok (.if_icmp .eq 71, 3) := by decide +kernel
theorem dL_law_443 : decode cL_law 443 = .ok (.iconst 0, 1) := by decide +kernel
theorem dL_law_444 : decode cL_law 444 = .ok (.ireturn, 1) := by decide +kernel
theorem dL_law_445 : decode cL_law 445 = .ok (.aload_n 1, 1) := by decide +kernel
theorem dL_law_446 : decode cL_law 446 = .ok (.aload_n 0, 1) := by decide +kernel
theorem dL_law_447 : decode cL_law 447 = .ok (.iload_n 3, 1) := by decide +kernel
theorem dL_law_448 : decode cL_law 448 = .ok (.iconst 1, 1) := by decide +kernel
theorem dL_law_449 : decode cL_law 449 = .ok (.iadd, 1) := by decide +kernel
theorem dL_law_450 : decode cL_law 450 = .ok (.iaload, 1) := by decide +kernel
theorem dL_law_451 : decode cL_law 451 = .ok (.aload_n 0, 1) := by decide +kernel
theorem dL_law_452 : decode cL_law 452 = .ok (.iload_n 3, 1) := by decide +kernel
theorem dL_law_453 : decode cL_law 453 = .ok (.iconst 2, 1) := by decide +kernel
theorem dL_law_454 : decode cL_law 454 = .ok (.iadd, 1) := by decide +kernel
theorem dL_law_455 : decode cL_law 455 = .ok (.iaload, 1) := by decide +kernel
theorem dL_law_456 : decode cL_law 456 = .ok (.aload_n 0, 1) := by decide +kernel
theorem dL_law_457 : decode cL_law 457 = .ok (.iload_n 3, 1) := by decide +kernel
theorem dL_law_458 : decode cL_law 458 = .ok (.iconst 3, 1) := by decide +kernel
theorem dL_law_459 : decode cL_law 459 = .ok (.iadd, 1) := by decide +kernel
theorem dL_law_460 : decode cL_law 460 = .ok (.iaload, 1) := by decide +kernel
theorem dL_law_461 : decode cL_law 461 = .ok (.invokevirtual 63, 3) := by decide +kernel
theorem dL_law_464 : decode cL_law 464 = .ok (.aload_n 2, 1) := by decide +kernel
theorem dL_law_465 : decode cL_law 465 = .ok (.aload_n 0, 1) := by decide +kernel
theorem dL_law_466 : decode cL_law 466 = .ok (.iload_n 3, 1) := by decide +kernel
theorem dL_law_467 : decode cL_law 467 = .ok (.iconst 1, 1) := by decide +kernel
theorem dL_law_468 : decode cL_law 468 = .ok (.iadd, 1) := by decide +kernel
theorem dL_law_469 : decode cL_law 469 = .ok (.iaload, 1) := by decide +kernel
theorem dL_law_470 : decode cL_law 470 = .ok (.aload_n 0, 1) := by decide +kernel
theorem dL_law_471 : decode cL_law 471 = .ok (.iload_n 3, 1) := by decide +kernel
theorem dL_law_472 : decode cL_law 472 = .ok (.iconst 2, 1) := by decide +kernel
theorem dL_law_473 : decode cL_law 473 = .ok (.iadd, 1) := by decide +kernel
theorem dL_law_474 : decode cL_law 474 = .ok (.iaload, 1) := by decide +kernel
theorem dL_law_475 : decode cL_law 475 = .ok (.aload_n 0, 1) := by decide +kernel
theorem dL_law_476 : decode cL_law 476 = .ok (.iload_n 3, 1) := by decide +kernel
theorem dL_law_477 : decode cL_law 477 = .ok (.iconst 3, 1) := by decide +kernel
theorem dL_law_478 : decode cL_law 478 = .ok (.iadd, 1) := by decide +kernel
theorem dL_law_479 : decode cL_law 479 = .ok (.iaload, 1) := by decide +kernel
theorem dL_law_480 : decode cL_law 480 = .ok (.invokevirtual 66, 3) := by decide +kernel
theorem dL_law_483 : decode cL_law 483 = .ok (.if_icmp .eq 28, 3) := by decide +kernel
theorem dL_law_486 : decode cL_law 486 = .ok (.iconst 0, 1) := by decide +kernel
theorem dL_law_487 : decode cL_law 487 = .ok (.ireturn, 1) := by decide +kernel
theorem dL_law_488 : decode cL_law 488 = .ok (.aload_n 1, 1) := by decide +kernel
theorem dL_law_489 : decode cL_law 489 = .ok (.aload_n 0, 1) := by decide +kernel
theorem dL_law_490 : decode cL_law 490 = .ok (.iload_n 3, 1) := by decide +kernel
theorem dL_law_491 : decode cL_law 491 = .ok (.iconst 1, 1) := by decide +kernel
theorem dL_law_492 : decode cL_law 492 = .ok (.iadd, 1) := by decide +kernel
theorem dL_law_493 : decode cL_law 493 = .ok (.iaload, 1) := by decide +kernel
theorem dL_law_494 : decode cL_law 494 = .ok (.invokevirtual 67, 3) := by decide +kernel
theorem dL_law_497 : decode cL_law 497 = .ok (.aload_n 2, 1) := by decide +kernel
theorem dL_law_498 : decode cL_law 498 = .ok (.aload_n 0, 1) := by decide +kernel
theorem dL_law_499 : decode cL_law 499 = .ok (.iload_n 3, 1) := by decide +kernel
theorem dL_law_500 : decode cL_law 500 = .ok (.iconst 1, 1) := by decide +kernel
theorem dL_law_501 : decode cL_law 501 = .ok (.iadd, 1) := by decide +kernel
theorem dL_law_502 : decode cL_law 502 = .ok (.iaload, 1) := by decide +kernel
theorem dL_law_503 : decode cL_law 503 = .ok (.invokevirtual 70, 3) := by decide +kernel
theorem dL_law_506 : decode cL_law 506 = .ok (.if_icmp .eq 5, 3) := by decide +kernel
theorem dL_law_509 : decode cL_law 509 = .ok (.iconst 0, 1) := by decide +kernel
theorem dL_law_510 : decode cL_law 510 = .ok (.ireturn, 1) := by decide +kernel
theorem dL_law_511 : decode cL_law 511 = .ok (.iinc 3 7, 3) := by decide +kernel
theorem dL_law_514 : decode cL_law 514 = .ok (.goto (-496), 3) := by decide +kernel
theorem dL_law_517 : decode cL_law 517 = .ok (.iconst 1, 1) := by decide +kernel
theorem dL_law_518 : decode cL_law 518 = .ok (.ireturn, 1) := by decide +kernel
abbrev vwCl : List vw_C := [(RX0, TX0, 4), (RX1, TX1, 6), (RX2, TX2, 1), (RX3, TX3, 3), (RX4, TX4, 16), (RX5, TX5, 21)]
