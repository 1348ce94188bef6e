theorem dX4_startAgain_0 : decode cX4_startAgain 0 = .ok (.aload_n 0, 1) := by decide +kernel
theorem dX4_startAgain_1 : decode cX4_startAgain 1 = .ok (.getfield 10, 3) := by decide +kernel
theorem dX4_startAgain_4 : decode cX4_startAgain 4 = .ok (.invokevirtual 162, 3) := by decide +kernel
theorem dX4_startAgain_7 : decode cX4_startAgain 7 = .ok (.aload_n 0, 1) := by decide +kernel
theorem dX4_startAgain_8 : decode cX4_startAgain 8 = .ok (.getfield 16, 3) := by decide +kernel
theorem dX4_startAgain_11 : decode cX4_startAgain 11 = .ok (.invokevirtual 162, 3) := by decide +kernel
theorem dX4_startAgain_14 : decode cX4_startAgain 14 = .ok (.aload_n 0, 1) := by decide +kernel
theorem dX4_startAgain_15 : decode cX4_startAgain 15 = .ok (.getfield 22, 3) := by decide +kernel
theorem dX4_startAgain_18 : decode cX4_startAgain 18 = .ok (.invokevirtual 165, 3) := by decide +kernel
theorem dX4_startAgain_21 : decode cX4_startAgain 21 = .ok (.aload_n 0, 1) := by decide +kernel
theorem dX4_startAgain_22 : decode cX4_startAgain 22 = .ok (.getfield 29, 3) := by decide +kernel
theorem dX4_startAgain_25 : decode cX4_startAgain 25 = .ok (.invokevirtual 166, 3) := by decide +kernel
theorem dX4_startAgain_28 : decode cX4_startAgain 28 = .ok (.aload_n 0, 1) := by decide +kernel
theorem dX4_startAgain_29 : decode cX4_startAgain 29 = .ok (.ldc 167, 2) := by decide +kernel
theorem dX4_startAgain_31 : decode cX4_startAgain 31 = .ok (.putfield 97, 3) := by decide +kernel
theorem dX4_startAgain_34 : decode cX4_startAgain 34 = .ok (.aload_n 0, 1) := by decide +kernel
theorem dX4_startAgain_35 : decode cX4_startAgain 35 = .ok (.ldc 167, 2) := by decide +kernel
theorem dX4_startAgain_37 : decode cX4_startAgain 37 = .ok (.putfield 104, 3) := by decide +kernel
theorem dX4_startAgain_40 : decode cX4_startAgain 40 = .ok (.aload_n 0, 1) := by decide +kernel
theorem dX4_startAgain_41 : decode cX4_startAgain 41 = .ok (.iconst 0, 1) := by decide +kernel
theorem dX4_startAgain_42 : decode cX4_startAgain 42 = .ok (.putfield 144, 3) := by decide +kernel
theorem dX4_startAgain_45 : decode cX4_startAgain 45 = .ok (.aload_n 0, 1) := by decide +kernel
theorem dX4_startAgain_46 : decode cX4_startAgain 46 = .ok (.iconst 0, 1) := by decide +kernel
theorem dX4_startAgain_47 : decode cX4_startAgain 47 = .ok (.putfield 153, 3) := by decide +kernel
theorem dX4_startAgain_50 : decode cX4_startAgain 50 = .ok (.aload_n 0, 1) := by decide +kernel
theorem dX4_startAgain_51 : decode cX4_startAgain 51 = .ok (.iconst 0, 1) := by decide +kernel
theorem dX4_startAgain_52 : decode cX4_startAgain 52 = .ok (.putfield 156, 3) := by decide +kernel
theorem dX4_startAgain_55 : decode cX4_startAgain 55 = .ok (.aload_n 0, 1) := by decide +kernel
theorem dX4_startAgain_56 : decode cX4_startAgain 56 = .ok (.iconst 0, 1) := by decide +kernel
theorem dX4_startAgain_57 : decode cX4_startAgain 57 = .ok (.putfield 159, 3) := by decide +kernel
theorem dX4_startAgain_60 : decode cX4_startAgain 60 = .ok (.return_, 1) := by decide +kernel
theorem dX4_isWithin_0 : decode cX4_isWithin 0 = .ok (.iload_n 1, 1) := by decide +kernel
theorem dX4_isWithin_1 : decode cX4_isWithin 1 = .ok (.iload_n 0, 1) := by decide +kernel
theorem dX4_isWithin_2 : decode cX4_isWithin 2 = .ok (.if_icmp .gt 12, 3) := by decide +kernel
theorem dX4_isWithin_5 : decode cX4_isWithin 5 = .ok (.iload_n 0, 1) := by decide +kernel
theorem dX4_isWithin_6 : decode cX4_isWithin 6 = .ok (.iload_n 2, 1) := by decide +kernel
theorem dX4_isWithin_7 : decode cX4_isWithin 7 = .ok (.if_icmp .gt 7, 3) := by decide +kernel
theorem dX4_isWithin_10 : decode cX4_isWithin 10 = .ok (.iconst 1, 1) := by decide +kernel
theorem dX4_isWithin_11 : decode cX4_isWithin 11 = .ok (.goto 4, 3) := by decide +kernel
theorem dX4_isWithin_14 : decode cX4_isWithin 14 = .ok (.iconst 0, 1) := by decide +kernel
theorem dX4_isWithin_15 : decode cX4_isWithin 15 = .ok (.ireturn, 1) := by decide +kernel
set_option maxRecDepth 20000 in
theorem ggX4_isTime_X4_isWithin : GoodIn wsX4_isTime wsX4_isWithin := goodIn_r _ [6] (by decide +kernel) (by decide +kernel)
set_option maxRecDepth 20000 in
theorem gX4_isTime_X4_isWithin : GoodIn wsX4_isTime (va_wsS RX4 60 yX4_isWithin wsX4_isWithin) := goodIn_app (goodIn_of _ (by decide +kernel)) ggX4_isTime_X4_isWithin
theorem dX4_isTime_0 : decode cX4_isTime 0 = .ok (.iload_n 0, 1) := by decide +kernel
theorem dX4_isTime_1 : decode cX4_isTime 1 = .ok (.ldc 168, 2) := by decide +kernel
theorem dX4_isTime_3 : decode cX4_isTime 3 = .ok (.ldc 169, 2) := by decide +kernel
theorem dX4_isTime_5 : decode cX4_isTime 5 = .ok (.invokestatic 60, 3) := by decide +kernel
theorem dX4_isTime_8 : decode cX4_isTime 8 = .ok (.ireturn, 1) := by decide +kernel
set_option maxRecDepth 20000 in
theorem ggX4_areWindows_X4_isWithin : GoodIn wsX4_areWindows wsX4_isWithin := goodIn_r _ [5] (by decide +kernel) (by decide +kernel)
set_option maxRecDepth 20000 in
theorem gX4_areWindows_X4_isWithin : GoodIn wsX4_areWindows (va_wsS RX4 60 yX4_isWithin wsX4_isWithin) := goodIn_app (goodIn_of _ (by decide +kernel)) ggX4_areWindows_X4_isWithin
theorem dX4_areWindows_0 : decode cX4_areWindows 0 = .ok (.iload_n 0, 1) := by decide +kernel
theorem dX4_areWindows_1 : decode cX4_areWindows 1 = .ok (.iconst 1, 1) := by decide +kernel
theorem dX4_areWindows_2 : decode cX4_areWindows 2 = .ok (.ldc 59, 2) := by decide +kernel
theorem dX4_areWindows_4 : decode cX4_areWindows 4 = .ok (.invokestatic 60, 3) := by decide +kernel
theorem dX4_areWindows_7 : decode cX4_areWindows 7 = .ok (.ifCond .eq 24, 3) := by decide +kernel
theorem dX4_areWindows_10 : decode cX4_areWindows 10 = .ok (.iload_n 1, 1) := by decide +kernel
theorem dX4_areWindows_11 : decode cX4_areWindows 11 = .ok (.iconst 1, 1) := by decide +kernel
theorem dX4_areWindows_12 : decode cX4_areWindows 12 = .ok (.iload_n 0, 1) := by decide +kernel
theorem dX4_areWindows_13 : decode cX4_areWindows 13 = .ok (.invokestatic 60, 3) := by decide +kernel
theorem dX4_areWindows_16 : decode cX4_areWindows 16 = .ok (.ifCond .eq 15, 3) := by decide +kernel
theorem dX4_areWindows_19 : decode cX4_areWindows 19 = .ok (.iload_n 0, 1) := by decide +kernel
theorem dX4_areWindows_20 : decode cX4_areWindows 20 = .ok (.bipush 16, 2) := by decide +kernel
theorem dX4_areWindows_22 : decode cX4_areWindows 22 = .ok (.iload_n 1, 1) := by decide +kernel
theorem dX4_areWindows_23 : decode cX4_areWindows 23 = .ok (.imul, 1) := by decide +kernel
theorem dX4_areWindows_24 : decode cX4_areWindows 24 = .ok (.if_icmp .gt 7, 3) := by decide +kernel
theorem dX4_areWindows_27 : decode cX4_areWindows 27 = .ok (.iconst 1, 1) := by decide +kernel
theorem dX4_areWindows_28 : decode cX4_areWindows 28 = .ok (.goto 4, 3) := by decide +kernel
theorem dX4_areWindows_31 : decode cX4_areWindows 31 = .ok (.iconst 0, 1) := by decide +kernel
theorem dX4_areWindows_32 : decode cX4_areWindows 32 = .ok (.ireturn, 1) := by decide +kernel
set_option maxRecDepth 20000 in
theorem ggX4_admit_X4_isTime : GoodIn wsX4_admit wsX4_isTime := goodIn_r _ [12, 13, 14, 15, 16, 11, 17] (by decide +kernel) (by decide +kernel)
set_option maxRecDepth 20000 in
theorem gX4_admit_X4_isTime : GoodIn wsX4_admit (va_wsS RX4 170 yX4_isTime wsX4_isTime) := goodIn_app (goodIn_of _ (by decide +kernel)) ggX4_admit_X4_isTime
set_option maxRecDepth 20000 in
theorem ggX4_admit_X4_mark : GoodIn wsX4_admit wsX4_mark := goodIn_r _ [21, 22, 23, 24, 25, 26, 27, 57, 58, 59, 60, 61, 62, 63, 64, 65, 66, 67, 68, 69, 70, 71, 72] (by decide +kernel) (by decide +kernel)
set_option maxRecDepth 20000 in
theorem gX4_admit_X4_mark : GoodIn wsX4_admit (wsV RX4 174 RX4 yX4_mark wsX4_mark) := goodIn_app (goodIn_of _ (by decide +kernel)) ggX4_admit_X4_mark
set_option maxRecDepth 20000 in
theorem ggX4_admit_X0_size : GoodIn wsX4_admit wsX0_size := goodIn_r _ [32, 33, 73, 74, 75, 76] (by decide +kernel) (by decide +kernel)
set_option maxRecDepth 20000 in
theorem gX4_admit_X0_size : GoodIn wsX4_admit (wsV RX4 68 RX0 yX0_size wsX0_size) := goodIn_app (goodIn_of _ (by decide +kernel)) ggX4_admit_X0_size
set_option maxRecDepth 20000 in
theorem ggX4_admit_X0_manyNear : GoodIn wsX4_admit wsX0_manyNear := goodIn_r _ [37, 33, 38, 39, 40, 31, 41, 42, 43, 44, 45, 26, 46, 47, 48, 49, 50, 73, 74, 75, 76] (by decide +kernel) (by decide +kernel)
set_option maxRecDepth 20000 in
theorem gX4_admit_X0_manyNear : GoodIn wsX4_admit (wsV RX4 177 RX0 yX0_manyNear wsX0_manyNear) := goodIn_app (goodIn_of _ (by decide +kernel)) ggX4_admit_X0_manyNear
set_option maxRecDepth 20000 in
theorem ggX4_admit_X3_size : GoodIn wsX4_admit wsX3_size := goodIn_r _ [55, 56, 77, 78, 79] (by decide +kernel) (by decide +kernel)
set_option maxRecDepth 20000 in
theorem gX4_admit_X3_size : GoodIn wsX4_admit (wsV RX4 118 RX3 yX3_size wsX3_size) := goodIn_app (goodIn_of _ (by decide +kernel)) ggX4_admit_X3_size
theorem dX4_admit_0 : decode cX4_admit 0 = .ok (.iload_n 2, 1) := by decide +kernel
theorem dX4_admit_1 : decode cX4_admit 1 = .ok (.invokestatic 170, 3) := by decide +kernel
theorem dX4_admit_4 : decode cX4_admit 4 = .ok (.ifCond .ne 6, 3) := by decide +kernel
theorem dX4_admit_7 : decode cX4_admit 7 = .ok (.bipush (-2), 2) := by decide +kernel
theorem dX4_admit_9 : decode cX4_admit 9 = .ok (.ireturn, 1) := by decide +kernel
theorem dX4_admit_10 : decode cX4_admit 10 = .ok (.iload_n 2, 1) := by decide +kernel
theorem dX4_admit_11 : decode cX4_admit 11 = .ok (.aload_n 0, 1) := by decide +kernel
theorem dX4_admit_12 : decode cX4_admit 12 = .ok (.invokevirtual 174, 3) := by decide +kernel
theorem dX4_admit_15 : decode cX4_admit 15 = .ok (.aload_n 0, 1) := by decide +kernel
theorem dX4_admit_16 : decode cX4_admit 16 = .ok (.getfield 40, 3) := by decide +kernel
theorem dX4_admit_19 : decode cX4_admit 19 = .ok (.isub, 1) := by decide +kernel
theorem dX4_admit_20 : decode cX4_admit 20 = .ok (.if_icmp .ge 16, 3) := by decide +kernel
theorem dX4_admit_23 : decode cX4_admit 23 = .ok (.aload_n 0, 1) := by decide +kernel
theorem dX4_admit_24 : decode cX4_admit 24 = .ok (.dup, 1) := by decide +kernel
theorem dX4_admit_25 : decode cX4_admit 25 = .ok (.getfield 144, 3) := by decide +kernel
theorem dX4_admit_28 : decode cX4_admit 28 = .ok (.iconst 1, 1) := by decide +kernel
theorem dX4_admit_29 : decode cX4_admit 29 = .ok (.iadd, 1) := by decide +kernel
theorem dX4_admit_30 : decode cX4_admit 30 = .ok (.putfield 144, 3) := by decide +kernel
theorem dX4_admit_33 : decode cX4_admit 33 = .ok (.bipush (-4), 2) := by decide +kernel
theorem dX4_admit_35 : decode cX4_admit 35 = .ok (.ireturn, 1) := by decide +kernel
theorem dX4_admit_36 : decode cX4_admit 36 = .ok (.aload_n 0, 1) := by decide +kernel
theorem dX4_admit_37 : decode cX4_admit 37 = .ok (.getfield 10, 3) := by decide +kernel
theorem dX4_admit_40 : decode cX4_admit 40 = .ok (.invokevirtual 68, 3) := by decide +kernel
theorem dX4_admit_43 : decode cX4_admit 43 = .ok (.aload_n 0, 1) := by decide +kernel
theorem dX4_admit_44 : decode cX4_admit 44 = .ok (.getfield 16, 3) := by decide +kernel
theorem dX4_admit_47 : decode cX4_admit 47 = .ok (.invokevirtual 68, 3) := by decide +kernel
theorem dX4_admit_50 : decode cX4_admit 50 = .ok (.iadd, 1) := by decide +kernel
theorem dX4_admit_51 : decode cX4_admit 51 = .ok (.aload_n 0, 1) := by decide +kernel
theorem dX4_admit_52 : decode cX4_admit 52 = .ok (.getfield 46, 3) := by decide +kernel
theorem dX4_admit_55 : decode cX4_admit 55 = .ok (.if_icmp .lt 6, 3) := by decide +kernel
theorem dX4_admit_58 : decode cX4_admit 58 = .ok (.bipush (-3), 2) := by decide +kernel
theorem dX4_admit_60 : decode cX4_admit 60 = .ok (.ireturn, 1) := by decide +kernel
theorem dX4_admit_61 : decode cX4_admit 61 = .ok (.aload_n 1, 1) := by decide +kernel
theorem dX4_admit_62 : decode cX4_admit 62 = .ok (.iload_n 2, 1) := by decide +kernel
theorem dX4_admit_63 : decode cX4_admit 63 = .ok (.iload_n 3, 1) := by decide +kernel
theorem dX4_admit_64 : decode cX4_admit 64 = .ok (.aload_n 0, 1) := by decide +kernel
theorem dX4_admit_65 : decode cX4_admit 65 = .ok (.getfield 43, 3) := by decide +kernel
theorem dX4_admit_68 : decode cX4_admit 68 = .ok (.invokevirtual 177, 3) := by decide +kernel
theorem dX4_admit_71 : decode cX4_admit 71 = .ok (.istore 4, 2) := by decide +kernel
theorem dX4_admit_73 : decode cX4_admit 73 = .ok (.aload_n 0, 1) := by decide +kernel
theorem dX4_admit_74 : decode cX4_admit 74 = .ok (.getfield 29, 3) := by decide +kernel
theorem dX4_admit_77 : decode cX4_admit 77 = .ok (.invokevirtual 118, 3) := by decide +kernel
theorem dX4_admit_80 : decode cX4_admit 80 = .ok (.iload 4, 2) := by decide +kernel
theorem dX4_admit_82 : decode cX4_admit 82 = .ok (.iadd, 1) := by decide +kernel
theorem dX4_admit_83 : decode cX4_admit 83 = .ok (.aload_n 0, 1) := by decide +kernel
theorem dX4_admit_84 : decode cX4_admit 84 = .ok (.getfield 49, 3) := by decide +kernel
theorem dX4_admit_87 : decode cX4_admit 87 = .ok (.if_icmp .le 8, 3) := by decide +kernel
theorem dX4_admit_90 : decode cX4_admit 90 = .ok (.bipush (-3), 2) := by decide +kernel
theorem dX4_admit_92 : decode cX4_admit 92 = .ok (.goto 5, 3) := by decide +kernel
theorem dX4_admit_95 : decode cX4_admit 95 = .ok (.iload 4, 2) := by decide +kernel
theorem dX4_admit_97 : decode cX4_admit 97 = .ok (.ireturn, 1) := by decide +kernel
theorem dX4_countTaken_0 : decode cX4_countTaken 0 = .ok (.aload_n 0, 1) := by decide +kernel
theorem dX4_countTaken_1 : decode cX4_countTaken 1 = .ok (.dup, 1) := by decide +kernel
theorem dX4_countTaken_2 : decode cX4_countTaken 2 = .ok (.getfield 153, 3) := by decide +kernel
theorem dX4_countTaken_5 : decode cX4_countTaken 5 = .ok (.iload_n 1, 1) := by decide +kernel
theorem dX4_countTaken_6 : decode cX4_countTaken 6 = .ok (.iadd, 1) := by decide +kernel
theorem dX4_countTaken_7 : decode cX4_countTaken 7 = .ok (.putfield 153, 3) := by decide +kernel
theorem dX4_countTaken_10 : decode cX4_countTaken 10 = .ok (.aload_n 0, 1) := by decide +kernel
theorem dX4_countTaken_11 : decode cX4_countTaken 11 = .ok (.dup, 1) := by decide +kernel
theorem dX4_countTaken_12 : decode cX4_countTaken 12 = .ok (.getfield 159, 3) := by decide +kernel
theorem dX4_countTaken_15 : decode cX4_countTaken 15 = .ok (.iconst 1, 1) := by decide +kernel
theorem dX4_countTaken_16 : decode cX4_countTaken 16 = .ok (.iadd, 1) := by decide +kernel
theorem dX4_countTaken_17 : decode cX4_countTaken 17 = .ok (.putfield 159, 3) := by decide +kernel
theorem dX4_countTaken_20 : decode cX4_countTaken 20 = .ok (.return_, 1) := by decide +kernel
set_option maxRecDepth 20000 in
theorem ggX4_gather_X2_head : GoodIn wsX4_gather wsX2_head := goodIn_r _ [8, 9, 74] (by decide +kernel) (by decide +kernel)
set_option maxRecDepth 20000 in
theorem gX4_gather_X2_head : GoodIn wsX4_gather (wsV RX4 181 RX2 yX2_head wsX2_head) := goodIn_app (goodIn_of _ (by decide +kernel)) ggX4_gather_X2_head
set_option maxRecDepth 20000 in
theorem ggX4_gather_X4_beginningAbove : GoodIn wsX4_gather wsX4_beginningAbove := goodIn_r _ [14, 3, 15, 16, 17, 18, 58, 59, 60, 61, 62, 63, 64, 65, 66, 67, 68, 69, 70, 71, 72, 73] (by decide +kernel) (by decide +kernel)
set_option maxRecDepth 20000 in
theorem gX4_gather_X4_beginningAbove : GoodIn wsX4_gather (wsV RX4 185 RX4 yX4_beginningAbove wsX4_beginningAbove) := goodIn_app (goodIn_of _ (by decide +kernel)) ggX4_gather_X4_beginningAbove
set_option maxRecDepth 20000 in
theorem ggX4_gather_X2_placeFrom : GoodIn wsX4_gather wsX2_placeFrom := goodIn_r _ [22, 23, 24, 25, 26, 27, 7, 28, 29, 30, 31, 32, 33, 34, 35, 36, 37, 38, 39, 40, 41, 42, 43, 44, 45, 46, 47, 48, 49, 75, 76, 77, 78, 79, 80] (by decide +kernel) (by decide +kernel)
set_option maxRecDepth 20000 in
theorem gX4_gather_X2_placeFrom : GoodIn wsX4_gather (wsV RX4 188 RX2 yX2_placeFrom wsX2_placeFrom) := goodIn_app (goodIn_of _ (by decide +kernel)) ggX4_gather_X2_placeFrom
set_option maxRecDepth 20000 in
theorem ggX4_gather_X1_gather : GoodIn wsX4_gather wsX1_gather := goodIn_r _ [53, 45, 46, 48, 54, 55, 56, 57, 75, 76, 77, 78, 79, 80] (by decide +kernel) (by decide +kernel)
set_option maxRecDepth 20000 in
theorem gX4_gather_X1_gather : GoodIn wsX4_gather (wsV RX4 192 RX1 yX1_gather wsX1_gather) := goodIn_app (goodIn_of _ (by decide +kernel)) ggX4_gather_X1_gather
theorem dX4_gather_0 : decode cX4_gather 0 = .ok (.aload_n 0, 1) := by decide +kernel
theorem dX4_gather_1 : decode cX4_gather 1 = .ok (.getfield 22, 3) := by decide +kernel
theorem dX4_gather_4 : decode cX4_gather 4 = .ok (.invokevirtual 181, 3) := by decide +kernel
theorem dX4_gather_7 : decode cX4_gather 7 = .ok (.astore 4, 2) := by decide +kernel
theorem dX4_gather_9 : decode cX4_gather 9 = .ok (.aload_n 0, 1) := by decide +kernel
theorem dX4_gather_10 : decode cX4_gather 10 = .ok (.iload_n 1, 1) := by decide +kernel
theorem dX4_gather_11 : decode cX4_gather 11 = .ok (.aload_n 0, 1) := by decide +kernel
theorem dX4_gather_12 : decode cX4_gather 12 = .ok (.getfield 33, 3) := by decide +kernel
theorem dX4_gather_15 : decode cX4_gather 15 = .ok (.isub, 1) := by decide +kernel
theorem dX4_gather_16 : decode cX4_gather 16 = .ok (.invokevirtual 185, 3) := by decide +kernel
theorem dX4_gather_19 : decode cX4_gather 19 = .ok (.istore 5, 2) := by decide +kernel
theorem dX4_gather_21 : decode cX4_gather 21 = .ok (.iconst 0, 1) := by decide +kernel
theorem dX4_gather_22 : decode cX4_gather 22 = .ok (.istore 6, 2) := by decide +kernel
theorem dX4_gather_24 : decode cX4_gather 24 = .ok (.iload 6, 2) := by decide +kernel
theorem dX4_gather_26 : decode cX4_gather 26 = .ok (.bipush 16, 2) := by decide +kernel
theorem dX4_gather_28 : decode cX4_gather 28 = .ok (.if_icmp .ge 49, 3) := by decide +kernel
theorem dX4_gather_31 : decode cX4_gather 31 = .ok (.iload 5, 2) := by decide +kernel
theorem dX4_gather_33 : decode cX4_gather 33 = .ok (.iload_n 1, 1) := by decide +kernel
theorem dX4_gather_34 : decode cX4_gather 34 = .ok (.if_icmp .gt 43, 3) := by decide +kernel
theorem dX4_gather_37 : decode cX4_gather 37 = .ok (.aload_n 0, 1) := by decide +kernel
theorem dX4_gather_38 : decode cX4_gather 38 = .ok (.getfield 22, 3) := by decide +kernel
theorem dX4_gather_41 : decode cX4_gather 41 = .ok (.aload 4, 2) := by decide +kernel
theorem dX4_gather_43 : decode cX4_gather 43 = .ok (.iload 5, 2) := by decide +kernel
theorem dX4_gather_45 : decode cX4_gather 45 = .ok (.aload_n 0, 1) := by decide +kernel
theorem dX4_gather_46 : decode cX4_gather 46 = .ok (.getfield 33, 3) := by decide +kernel
theorem dX4_gather_49 : decode cX4_gather 49 = .ok (.iadd, 1) := by decide +kernel
theorem dX4_gather_50 : decode cX4_gather 50 = .ok (.iload_n 2, 1) := by decide +kernel
theorem dX4_gather_51 : decode cX4_gather 51 = .ok (.invokevirtual 188, 3) := by decide +kernel
theorem dX4_gather_54 : decode cX4_gather 54 = .ok (.astore 4, 2) := by decide +kernel
theorem dX4_gather_56 : decode cX4_gather 56 = .ok (.aload 4, 2) := by decide +kernel
theorem dX4_gather_58 : decode cX4_gather 58 = .ok (.iload_n 3, 1) := by decide +kernel
theorem dX4_gather_59 : decode cX4_gather 59 = .ok (.invokevirtual 192, 3) := by decide +kernel
theorem dX4_gather_62 : decode cX4_gather 62 = .ok (.iload 5, 2) := by decide +kernel
theorem dX4_gather_64 : decode cX4_gather 64 = .ok (.aload_n 0, 1) := by decide +kernel
theorem dX4_gather_65 : decode cX4_gather 65 = .ok (.getfield 37, 3) := by decide +kernel
theorem dX4_gather_68 : decode cX4_gather 68 = .ok (.iadd, 1) := by decide +kernel
theorem dX4_gather_69 : decode cX4_gather 69 = .ok (.istore 5, 2) := by decide +kernel
theorem dX4_gather_71 : decode cX4_gather 71 = .ok (.iinc 6 1, 3) := by decide +kernel
theorem dX4_gather_74 : decode cX4_gather 74 = .ok (.goto (-50), 3) := by decide +kernel
theorem dX4_gather_77 : decode cX4_gather 77 = .ok (.return_, 1) := by decide +kernel
set_option maxRecDepth 20000 in
theorem ggX4_beginningAbove_J9_floorDiv_7cf53 : GoodIn wsX4_beginningAbove wsJ9_floorDiv_7cf53 := goodIn_r _ [5] (by decide +kernel) (by decide +kernel)
set_option maxRecDepth 20000 in
theorem gX4_beginningAbove_J9_floorDiv_7cf53 : GoodIn wsX4_beginningAbove (va_wsS RX4 194 yJ9_floorDiv_7cf53 wsJ9_floorDiv_7cf53) := goodIn_app (goodIn_of _ (by decide +kernel)) ggX4_beginningAbove_J9_floorDiv_7cf53
theorem dX4_beginningAbove_0 : decode cX4_beginningAbove 0 = .ok (.aload_n 0, 1) := by decide +kernel
theorem dX4_beginningAbove_1 : decode cX4_beginningAbove 1 = .ok (.getfield 37, 3) := by decide +kernel
theorem dX4_beginningAbove_4 : decode cX4_beginningAbove 4 = .ok (.iconst 1, 1) := by decide +kernel
theorem dX4_beginningAbove_5 : decode cX4_beginningAbove 5 = .ok (.if_icmp .ge 7, 3) := by decide +kernel
theorem dX4_beginningAbove_8 : decode cX4_beginningAbove 8 = .ok (.iload_n 1, 1) := by decide +kernel
theorem dX4_beginningAbove_9 : decode cX4_beginningAbove 9 = .ok (.goto 18, 3) := by decide +kernel
theorem dX4_beginningAbove_12 : decode cX4_beginningAbove 12 = .ok (.iload_n 1, 1) := by decide +kernel
theorem dX4_beginningAbove_13 : decode cX4_beginningAbove 13 = .ok (.aload_n 0, 1) := by decide +kernel
theorem dX4_beginningAbove_14 : decode cX4_beginningAbove 14 = .ok (.getfield 37, 3) := by decide +kernel
theorem dX4_beginningAbove_17 : decode cX4_beginningAbove 17 = .ok (.invokestatic 194, 3) := by decide +kernel
theorem dX4_beginningAbove_20 : decode cX4_beginningAbove 20 = .ok (.iconst 1, 1) := by decide +kernel
theorem dX4_beginningAbove_21 : decode cX4_beginningAbove 21 = .ok (.iadd, 1) := by decide +kernel
theorem dX4_beginningAbove_22 : decode cX4_beginningAbove 22 = .ok (.aload_n 0, 1) := by decide +kernel
theorem dX4_beginningAbove_23 : decode cX4_beginningAbove 23 = .ok (.getfield 37, 3) := by decide +kernel
theorem dX4_beginningAbove_26 : decode cX4_beginningAbove 26 = .ok (.imul, 1) := by decide +kernel
theorem dX4_beginningAbove_27 : decode cX4_beginningAbove 27 = .ok (.ireturn, 1) := by decide +kernel
set_option maxRecDepth 20000 in
theorem ggX4_refusalOfMark_X4_isTime : GoodIn wsX4_refusalOfMark wsX4_isTime := goodIn_r _ [4, 5, 6, 7, 8, 3, 9] (by decide +kernel) (by decide +kernel)
set_option maxRecDepth 20000 in
theorem gX4_refusalOfMark_X4_isTime : GoodIn wsX4_refusalOfMark (va_wsS RX4 170 yX4_isTime wsX4_isTime) := goodIn_app (goodIn_of _ (by decide +kernel)) ggX4_refusalOfMark_X4_isTime
theorem dX4_refusalOfMark_0 : decode cX4_refusalOfMark 0 = .ok (.iload_n 0, 1) := by decide +kernel
theorem dX4_refusalOfMark_1 : decode cX4_refusalOfMark 1 = .ok (.invokestatic 170, 3) := by decide +kernel
theorem dX4_refusalOfMark_4 : decode cX4_refusalOfMark 4 = .ok (.ifCond .ne 6, 3) := by decide +kernel
theorem dX4_refusalOfMark_7 : decode cX4_refusalOfMark 7 = .ok (.bipush (-2), 2) := by decide +kernel
theorem dX4_refusalOfMark_9 : decode cX4_refusalOfMark 9 = .ok (.ireturn, 1) := by decide +kernel
theorem dX4_refusalOfMark_10 : decode cX4_refusalOfMark 10 = .ok (.iload_n 0, 1) := by decide +kernel
theorem dX4_refusalOfMark_11 : decode cX4_refusalOfMark 11 = .ok (.iload_n 1, 1) := by decide +kernel
theorem dX4_refusalOfMark_12 : decode cX4_refusalOfMark 12 = .ok (.if_icmp .gt 8, 3) := by decide +kernel
theorem dX4_refusalOfMark_15 : decode cX4_refusalOfMark 15 = .ok (.bipush (-5), 2) := by decide +kernel
theorem dX4_refusalOfMark_17 : decode cX4_refusalOfMark 17 = .ok (.goto 4, 3) := by decide +kernel
theorem dX4_refusalOfMark_20 : decode cX4_refusalOfMark 20 = .ok (.iconst 0, 1) := by decide +kernel
theorem dX4_refusalOfMark_21 : decode cX4_refusalOfMark 21 = .ok (.ireturn, 1) := by decide +kernel
set_option maxRecDepth 20000 in
theorem ggX4_tellWindows_X2_manyUpTo : GoodIn wsX4_tellWindows wsX2_manyUpTo := goodIn_r _ [10, 11, 58, 52, 53, 54, 55, 56, 57] (by decide +kernel) (by decide +kernel)
set_option maxRecDepth 20000 in
theorem gX4_tellWindows_X2_manyUpTo : GoodIn wsX4_tellWindows (wsV RX4 197 RX2 yX2_manyUpTo wsX2_manyUpTo) := goodIn_app (goodIn_of _ (by decide +kernel)) ggX4_tellWindows_X2_manyUpTo
set_option maxRecDepth 20000 in
theorem ggX4_tellWindows_X3_size : GoodIn wsX4_tellWindows wsX3_size := goodIn_r _ [16, 17, 59, 60, 61] (by decide +kernel) (by decide +kernel)
set_option maxRecDepth 20000 in
theorem gX4_tellWindows_X3_size : GoodIn wsX4_tellWindows (wsV RX4 118 RX3 yX3_size wsX3_size) := goodIn_app (goodIn_of _ (by decide +kernel)) ggX4_tellWindows_X3_size
set_option maxRecDepth 20000 in
theorem ggX4_tellWindows_X2_windowsUpTo : GoodIn wsX4_tellWindows wsX2_windowsUpTo := goodIn_r _ [21, 11, 58, 52, 53, 54, 55, 56, 57] (by decide +kernel) (by decide +kernel)
set_option maxRecDepth 20000 in
theorem gX4_tellWindows_X2_windowsUpTo : GoodIn wsX4_tellWindows (wsV RX4 150 RX2 yX2_windowsUpTo wsX2_windowsUpTo) := goodIn_app (goodIn_of _ (by decide +kernel)) ggX4_tellWindows_X2_windowsUpTo
set_option maxRecDepth 20000 in
theorem ggX4_tellWindows_X2_takeFirst : GoodIn wsX4_tellWindows wsX2_takeFirst := goodIn_r _ [25, 11, 58, 52, 53, 54, 55, 56, 57] (by decide +kernel) (by decide +kernel)
set_option maxRecDepth 20000 in
theorem gX4_tellWindows_X2_takeFirst : GoodIn wsX4_tellWindows (wsV RX4 200 RX2 yX2_takeFirst wsX2_takeFirst) := goodIn_app (goodIn_of _ (by decide +kernel)) ggX4_tellWindows_X2_takeFirst
set_option maxRecDepth 20000 in
theorem ggX4_tellWindows_X3_add : GoodIn wsX4_tellWindows wsX3_add := goodIn_r _ [29, 17, 30, 31, 32, 33, 15, 34, 35, 59, 60, 61] (by decide +kernel) (by decide +kernel)
set_option maxRecDepth 20000 in
theorem gX4_tellWindows_X3_add : GoodIn wsX4_tellWindows (wsV RX4 83 RX3 yX3_add wsX3_add) := goodIn_app (goodIn_of _ (by decide +kernel)) ggX4_tellWindows_X3_add
theorem dX4_tellWindows_0 : decode cX4_tellWindows 0 = .ok (.iload_n 1, 1) := by decide +kernel
theorem dX4_tellWindows_1 : decode cX4_tellWindows 1 = .ok (.aload_n 0, 1) := by decide +kernel
theorem dX4_tellWindows_2 : decode cX4_tellWindows 2 = .ok (.getfield 40, 3) := by decide +kernel
theorem dX4_tellWindows_5 : decode cX4_tellWindows 5 = .ok (.isub, 1) := by decide +kernel
theorem dX4_tellWindows_6 : decode cX4_tellWindows 6 = .ok (.istore_n 2, 1) := by decide +kernel
theorem dX4_tellWindows_7 : decode cX4_tellWindows 7 = .ok (.aload_n 0, 1) := by decide +kernel
theorem dX4_tellWindows_8 : decode cX4_tellWindows 8 = .ok (.getfield 22, 3) := by decide +kernel
theorem dX4_tellWindows_11 : decode cX4_tellWindows 11 = .ok (.iload_n 2, 1) := by decide +kernel
theorem dX4_tellWindows_12 : decode cX4_tellWindows 12 = .ok (.invokevirtual 197, 3) := by decide +kernel
theorem dX4_tellWindows_15 : decode cX4_tellWindows 15 = .ok (.istore_n 3, 1) := by decide +kernel
theorem dX4_tellWindows_16 : decode cX4_tellWindows 16 = .ok (.aload_n 0, 1) := by decide +kernel
theorem dX4_tellWindows_17 : decode cX4_tellWindows 17 = .ok (.getfield 29, 3) := by decide +kernel
theorem dX4_tellWindows_20 : decode cX4_tellWindows 20 = .ok (.invokevirtual 118, 3) := by decide +kernel
theorem dX4_tellWindows_23 : decode cX4_tellWindows 23 = .ok (.iload_n 3, 1) := by decide +kernel
theorem dX4_tellWindows_24 : decode cX4_tellWindows 24 = .ok (.iadd, 1) := by decide +kernel
theorem dX4_tellWindows_25 : decode cX4_tellWindows 25 = .ok (.aload_n 0, 1) := by decide +kernel
theorem dX4_tellWindows_26 : decode cX4_tellWindows 26 = .ok (.getfield 49, 3) := by decide +kernel
theorem dX4_tellWindows_29 : decode cX4_tellWindows 29 = .ok (.if_icmp .le 6, 3) := by decide +kernel
theorem dX4_tellWindows_32 : decode cX4_tellWindows 32 = .ok (.bipush (-3), 2) := by decide +kernel
theorem dX4_tellWindows_34 : decode cX4_tellWindows 34 = .ok (.ireturn, 1) := by decide +kernel
theorem dX4_tellWindows_35 : decode cX4_tellWindows 35 = .ok (.aload_n 0, 1) := by decide +kernel
theorem dX4_tellWindows_36 : decode cX4_tellWindows 36 = .ok (.getfield 22, 3) := by decide +kernel
theorem dX4_tellWindows_39 : decode cX4_tellWindows 39 = .ok (.iload_n 2, 1) := by decide +kernel
theorem dX4_tellWindows_40 : decode cX4_tellWindows 40 = .ok (.invokevirtual 150, 3) := by decide +kernel
theorem dX4_tellWindows_43 : decode cX4_tellWindows 43 = .ok (.istore 4, 2) := by decide +kernel
theorem dX4_tellWindows_45 : decode cX4_tellWindows 45 = .ok (.iconst 0, 1) := by decide +kernel
theorem dX4_tellWindows_46 : decode cX4_tellWindows 46 = .ok (.istore 5, 2) := by decide +kernel
theorem dX4_tellWindows_48 : decode cX4_tellWindows 48 = .ok (.iload 5, 2) := by decide +kernel
theorem dX4_tellWindows_50 : decode cX4_tellWindows 50 = .ok (.iload_n 3, 1) := by decide +kernel
theorem dX4_tellWindows_51 : decode cX4_tellWindows 51 = .ok (.if_icmp .ge 56, 3) := by decide +kernel
theorem dX4_tellWindows_54 : decode cX4_tellWindows 54 = .ok (.aload_n 0, 1) := by decide +kernel
theorem dX4_tellWindows_55 : decode cX4_tellWindows 55 = .ok (.getfield 22, 3) := by decide +kernel
theorem dX4_tellWindows_58 : decode cX4_tellWindows 58 = .ok (.invokevirtual 200, 3) := by decide +kernel
theorem dX4_tellWindows_61 : decode cX4_tellWindows 61 = .ok (.astore 6, 2) := by decide +kernel
theorem dX4_tellWindows_63 : decode cX4_tellWindows 63 = .ok (.aload 6, 2) := by decide +kernel
theorem dX4_tellWindows_65 : decode cX4_tellWindows 65 = .ok (.ifnull 36, 3) := by decide +kernel
theorem dX4_tellWindows_68 : decode cX4_tellWindows 68 = .ok (.aload_n 0, 1) := by decide +kernel
theorem dX4_tellWindows_69 : decode cX4_tellWindows 69 = .ok (.getfield 29, 3) := by decide +kernel
theorem dX4_tellWindows_72 : decode cX4_tellWindows 72 = .ok (.iconst 1, 1) := by decide +kernel
theorem dX4_tellWindows_73 : decode cX4_tellWindows 73 = .ok (.aload 6, 2) := by decide +kernel
theorem dX4_tellWindows_75 : decode cX4_tellWindows 75 = .ok (.getfield 203, 3) := by decide +kernel
theorem dX4_tellWindows_78 : decode cX4_tellWindows 78 = .ok (.aload 6, 2) := by decide +kernel
theorem dX4_tellWindows_80 : decode cX4_tellWindows 80 = .ok (.getfield 206, 3) := by decide +kernel
theorem dX4_tellWindows_83 : decode cX4_tellWindows 83 = .ok (.aload 6, 2) := by decide +kernel
theorem dX4_tellWindows_85 : decode cX4_tellWindows 85 = .ok (.getfield 130, 3) := by decide +kernel
theorem dX4_tellWindows_88 : decode cX4_tellWindows 88 = .ok (.aload 6, 2) := by decide +kernel
theorem dX4_tellWindows_90 : decode cX4_tellWindows 90 = .ok (.getfield 135, 3) := by decide +kernel
theorem dX4_tellWindows_93 : decode cX4_tellWindows 93 = .ok (.aload 6, 2) := by decide +kernel
theorem dX4_tellWindows_95 : decode cX4_tellWindows 95 = .ok (.getfield 138, 3) := by decide +kernel
theorem dX4_tellWindows_98 : decode cX4_tellWindows 98 = .ok (.invokevirtual 83, 3) := by decide +kernel
theorem dX4_tellWindows_101 : decode cX4_tellWindows 101 = .ok (.iinc 5 1, 3) := by decide +kernel
theorem dX4_tellWindows_104 : decode cX4_tellWindows 104 = .ok (.goto (-56), 3) := by decide +kernel
theorem dX4_tellWindows_107 : decode cX4_tellWindows 107 = .ok (.aload_n 0, 1) := by decide +kernel
theorem dX4_tellWindows_108 : decode cX4_tellWindows 108 = .ok (.dup, 1) := by decide +kernel
theorem dX4_tellWindows_109 : decode cX4_tellWindows 109 = .ok (.getfield 156, 3) := by decide +kernel
theorem dX4_tellWindows_112 : decode cX4_tellWindows 112 = .ok (.iload_n 3, 1) := by decide +kernel
theorem dX4_tellWindows_113 : decode cX4_tellWindows 113 = .ok (.iadd, 1) := by decide +kernel
theorem dX4_tellWindows_114 : decode cX4_tellWindows 114 = .ok (.putfield 156, 3) := by decide +kernel
theorem dX4_tellWindows_117 : decode cX4_tellWindows 117 = .ok (.iload 4, 2) := by decide +kernel
theorem dX4_tellWindows_119 : decode cX4_tellWindows 119 = .ok (.ireturn, 1) := by decide +kernel
set_option maxRecDepth 20000 in
theorem ggX4_dropEvents_X4_mark : GoodIn wsX4_dropEvents wsX4_mark := goodIn_r _ [14, 15, 16, 5, 6, 7, 8, 39, 40, 41, 42, 43, 44, 45, 46, 47, 48, 49, 50, 51, 52, 53, 54] (by decide +kernel) (by decide +kernel)
set_option maxRecDepth 20000 in
theorem gX4_dropEvents_X4_mark : GoodIn wsX4_dropEvents (wsV RX4 174 RX4 yX4_mark wsX4_mark) := goodIn_app (goodIn_of _ (by decide +kernel)) ggX4_dropEvents_X4_mark
set_option maxRecDepth 20000 in
theorem ggX4_dropEvents_X4_beginningAbove : GoodIn wsX4_dropEvents wsX4_beginningAbove := goodIn_r _ [20, 21, 22, 23, 24, 25, 39, 40, 41, 42, 43, 44, 45, 46, 47, 48, 49, 50, 51, 52, 53, 54] (by decide +kernel) (by decide +kernel)
set_option maxRecDepth 20000 in
theorem gX4_dropEvents_X4_beginningAbove : GoodIn wsX4_dropEvents (wsV RX4 185 RX4 yX4_beginningAbove wsX4_beginningAbove) := goodIn_app (goodIn_of _ (by decide +kernel)) ggX4_dropEvents_X4_beginningAbove
set_option maxRecDepth 20000 in
theorem ggX4_dropEvents_X0_dropBelow : GoodIn wsX4_dropEvents wsX0_dropBelow := goodIn_r _ [30, 31, 32, 33, 34, 35, 36, 37, 29, 38, 55, 56, 57, 58] (by decide +kernel) (by decide +kernel)
set_option maxRecDepth 20000 in
theorem gX4_dropEvents_X0_dropBelow : GoodIn wsX4_dropEvents (wsV RX4 208 RX0 yX0_dropBelow wsX0_dropBelow) := goodIn_app (goodIn_of _ (by decide +kernel)) ggX4_dropEvents_X0_dropBelow
theorem dX4_dropEvents_0 : decode cX4_dropEvents 0 = .ok (.aload_n 0, 1) := by decide +kernel
theorem dX4_dropEvents_1 : decode cX4_dropEvents 1 = .ok (.invokevirtual 174, 3) := by decide +kernel
theorem dX4_dropEvents_4 : decode cX4_dropEvents 4 = .ok (.aload_n 0, 1) := by decide +kernel
theorem dX4_dropEvents_5 : decode cX4_dropEvents 5 = .ok (.getfield 40, 3) := by decide +kernel
theorem dX4_dropEvents_8 : decode cX4_dropEvents 8 = .ok (.isub, 1) := by decide +kernel
theorem dX4_dropEvents_9 : decode cX4_dropEvents 9 = .ok (.istore_n 1, 1) := by decide +kernel
theorem dX4_dropEvents_10 : decode cX4_dropEvents 10 = .ok (.aload_n 0, 1) := by decide +kernel
theorem dX4_dropEvents_11 : decode cX4_dropEvents 11 = .ok (.getfield 10, 3) := by decide +kernel
theorem dX4_dropEvents_14 : decode cX4_dropEvents 14 = .ok (.iload_n 1, 1) := by decide +kernel
theorem dX4_dropEvents_15 : decode cX4_dropEvents 15 = .ok (.aload_n 0, 1) := by decide +kernel
theorem dX4_dropEvents_16 : decode cX4_dropEvents 16 = .ok (.getfield 43, 3) := by decide +kernel
theorem dX4_dropEvents_19 : decode cX4_dropEvents 19 = .ok (.isub, 1) := by decide +kernel
theorem dX4_dropEvents_20 : decode cX4_dropEvents 20 = .ok (.aload_n 0, 1) := by decide +kernel
theorem dX4_dropEvents_21 : decode cX4_dropEvents 21 = .ok (.iload_n 1, 1) := by decide +kernel
theorem dX4_dropEvents_22 : decode cX4_dropEvents 22 = .ok (.aload_n 0, 1) := by decide +kernel
theorem dX4_dropEvents_23 : decode cX4_dropEvents 23 = .ok (.getfield 33, 3) := by decide +kernel
theorem dX4_dropEvents_26 : decode cX4_dropEvents 26 = .ok (.isub, 1) := by decide +kernel
theorem dX4_dropEvents_27 : decode cX4_dropEvents 27 = .ok (.invokevirtual 185, 3) := by decide +kernel
theorem dX4_dropEvents_30 : decode cX4_dropEvents 30 = .ok (.invokestatic 107, 3) := by decide +kernel
theorem dX4_dropEvents_33 : decode cX4_dropEvents 33 = .ok (.invokevirtual 208, 3) := by decide +kernel
theorem dX4_dropEvents_36 : decode cX4_dropEvents 36 = .ok (.aload_n 0, 1) := by decide +kernel
theorem dX4_dropEvents_37 : decode cX4_dropEvents 37 = .ok (.getfield 16, 3) := by decide +kernel
theorem dX4_dropEvents_40 : decode cX4_dropEvents 40 = .ok (.iload_n 1, 1) := by decide +kernel
theorem dX4_dropEvents_41 : decode cX4_dropEvents 41 = .ok (.aload_n 0, 1) := by decide +kernel
theorem dX4_dropEvents_42 : decode cX4_dropEvents 42 = .ok (.getfield 43, 3) := by decide +kernel
theorem dX4_dropEvents_45 : decode cX4_dropEvents 45 = .ok (.isub, 1) := by decide +kernel
theorem dX4_dropEvents_46 : decode cX4_dropEvents 46 = .ok (.invokevirtual 208, 3) := by decide +kernel
theorem dX4_dropEvents_49 : decode cX4_dropEvents 49 = .ok (.return_, 1) := by decide +kernel
set_option maxRecDepth 20000 in
theorem ggX5_init_X5_forget : GoodIn wsX5_init wsX5_forget := goodIn_r _ [19, 12, 13, 20, 21, 22, 23, 24, 25, 26, 27, 28, 29, 30, 31, 32, 33, 34, 35, 36, 37, 38, 39, 40, 41, 42, 43, 44, 45, 46] (by decide +kernel) (by decide +kernel)
set_option maxRecDepth 20000 in
theorem gX5_init_X5_forget : GoodIn wsX5_init (wsV RX5 41 RX5 yX5_forget wsX5_forget) := goodIn_app (goodIn_of _ (by decide +kernel)) ggX5_init_X5_forget
theorem dX5_init_0 : decode cX5_init 0 = .ok (.aload_n 0, 1) := by decide +kernel
theorem dX5_init_1 : decode cX5_init 1 = .ok (.invokespecial 1, 3) := by decide +kernel
theorem dX5_init_4 : decode cX5_init 4 = .ok (.aload_n 0, 1) := by decide +kernel
theorem dX5_init_5 : decode cX5_init 5 = .ok (.bipush 10, 2) := by decide +kernel
theorem dX5_init_7 : decode cX5_init 7 = .ok (.putfield 7, 3) := by decide +kernel
theorem dX5_init_10 : decode cX5_init 10 = .ok (.aload_n 0, 1) := by decide +kernel
theorem dX5_init_11 : decode cX5_init 11 = .ok (.bipush 10, 2) := by decide +kernel
theorem dX5_init_13 : decode cX5_init 13 = .ok (.putfield 13, 3) := by decide +kernel
theorem dX5_init_16 : decode cX5_init 16 = .ok (.aload_n 0, 1) := by decide +kernel
theorem dX5_init_17 : decode cX5_init 17 = .ok (.bipush 100, 2) := by decide +kernel
theorem dX5_init_19 : decode cX5_init 19 = .ok (.putfield 16, 3) := by decide +kernel
theorem dX5_init_22 : decode cX5_init 22 = .ok (.aload_n 0, 1) := by decide +kernel
theorem dX5_init_23 : decode cX5_init 23 = .ok (.sipush 200, 3) := by decide +kernel
theorem dX5_init_26 : decode cX5_init 26 = .ok (.putfield 19, 3) := by decide +kernel
theorem dX5_init_29 : decode cX5_init 29 = .ok (.aload_n 0, 1) := by decide +kernel
theorem dX5_init_30 : decode cX5_init 30 = .ok (.sipush 400, 3) := by decide +kernel
theorem dX5_init_33 : decode cX5_init 33 = .ok (.newarray .int, 2) := by decide +kernel
theorem dX5_init_35 : decode cX5_init 35 = .ok (.putfield 22, 3) := by decide +kernel
theorem dX5_init_38 : decode cX5_init 38 = .ok (.aload_n 0, 1) := by decide +kernel
theorem dX5_init_39 : decode cX5_init 39 = .ok (.sipush 400, 3) := by decide +kernel
theorem dX5_init_42 : decode cX5_init 42 = .ok (.newarray .int, 2) := by decide +kernel
theorem dX5_init_44 : decode cX5_init 44 = .ok (.putfield 26, 3) := by decide +kernel
theorem dX5_init_47 : decode cX5_init 47 = .ok (.aload_n 0, 1) := by decide +kernel
theorem dX5_init_48 : decode cX5_init 48 = .ok (.sipush 400, 3) := by decide +kernel
theorem dX5_init_51 : decode cX5_init 51 = .ok (.newarray .int, 2) := by decide +kernel
theorem dX5_init_53 : decode cX5_init 53 = .ok (.putfield 29, 3) := by decide +kernel
theorem dX5_init_56 : decode cX5_init 56 = .ok (.aload_n 0, 1) := by decide +kernel
theorem dX5_init_57 : decode cX5_init 57 = .ok (.iconst 2, 1) := by decide +kernel
theorem dX5_init_58 : decode cX5_init 58 = .ok (.newarray .int, 2) := by decide +kernel
theorem dX5_init_60 : decode cX5_init 60 = .ok (.putfield 32, 3) := by decide +kernel
theorem dX5_init_63 : decode cX5_init 63 = .ok (.aload_n 0, 1) := by decide +kernel
theorem dX5_init_64 : decode cX5_init 64 = .ok (.iconst 2, 1) := by decide +kernel
theorem dX5_init_65 : decode cX5_init 65 = .ok (.newarray .int, 2) := by decide +kernel
theorem dX5_init_67 : decode cX5_init 67 = .ok (.putfield 35, 3) := by decide +kernel
theorem dX5_init_70 : decode cX5_init 70 = .ok (.aload_n 0, 1) := by decide +kernel
theorem dX5_init_71 : decode cX5_init 71 = .ok (.sipush 2400, 3) := by decide +kernel
theorem dX5_init_74 : decode cX5_init 74 = .ok (.newarray .int, 2) := by decide +kernel
theorem dX5_init_76 : decode cX5_init 76 = .ok (.putfield 38, 3) := by decide +kernel
theorem dX5_init_79 : decode cX5_init 79 = .ok (.aload_n 0, 1) := by decide +kernel
theorem dX5_init_80 : decode cX5_init 80 = .ok (.invokevirtual 41, 3) := by decide +kernel
theorem dX5_init_83 : decode cX5_init 83 = .ok (.return_, 1) := by decide +kernel
theorem dX5_in_0 : decode cX5_in 0 = .ok (.iload_n 0, 1) := by decide +kernel
theorem dX5_in_1 : decode cX5_in 1 = .ok (.iload_n 1, 1) := by decide +kernel
theorem dX5_in_2 : decode cX5_in 2 = .ok (.if_icmp .lt 12, 3) := by decide +kernel
theorem dX5_in_5 : decode cX5_in 5 = .ok (.iload_n 0, 1) := by decide +kernel
theorem dX5_in_6 : decode cX5_in 6 = .ok (.iload_n 2, 1) := by decide +kernel
theorem dX5_in_7 : decode cX5_in 7 = .ok (.if_icmp .gt 7, 3) := by decide +kernel
theorem dX5_in_10 : decode cX5_in 10 = .ok (.iconst 1, 1) := by decide +kernel
theorem dX5_in_11 : decode cX5_in 11 = .ok (.goto 4, 3) := by decide +kernel
theorem dX5_in_14 : decode cX5_in 14 = .ok (.iconst 0, 1) := by decide +kernel
theorem dX5_in_15 : decode cX5_in 15 = .ok (.ireturn, 1) := by decide +kernel
theorem dX5_forget_0 : decode cX5_forget 0 = .ok (.aload_n 0, 1) := by decide +kernel
theorem dX5_forget_1 : decode cX5_forget 1 = .ok (.getfield 32, 3) := by decide +kernel
theorem dX5_forget_4 : decode cX5_forget 4 = .ok (.iconst 0, 1) := by decide +kernel
theorem dX5_forget_5 : decode cX5_forget 5 = .ok (.iconst 0, 1) := by decide +kernel
theorem dX5_forget_6 : decode cX5_forget 6 = .ok (.iastore, 1) := by decide +kernel
theorem dX5_forget_7 : decode cX5_forget 7 = .ok (.aload_n 0, 1) := by decide +kernel
theorem dX5_forget_8 : decode cX5_forget 8 = .ok (.getfield 32, 3) := by decide +kernel
theorem dX5_forget_11 : decode cX5_forget 11 = .ok (.iconst 1, 1) := by decide +kernel
theorem dX5_forget_12 : decode cX5_forget 12 = .ok (.iconst 0, 1) := by decide +kernel
theorem dX5_forget_13 : decode cX5_forget 13 = .ok (.iastore, 1) := by decide +kernel
theorem dX5_forget_14 : decode cX5_forget 14 = .ok (.aload_n 0, 1) := by decide +kernel
theorem dX5_forget_15 : decode cX5_forget 15 = .ok (.getfield 35, 3) := by decide +kernel
theorem dX5_forget_18 : decode cX5_forget 18 = .ok (.iconst 0, 1) := by decide +kernel
theorem dX5_forget_19 : decode cX5_forget 19 = .ok (.ldc 44, 2) := by decide +kernel
theorem dX5_forget_21 : decode cX5_forget 21 = .ok (.iastore, 1) := by decide +kernel
theorem dX5_forget_22 : decode cX5_forget 22 = .ok (.aload_n 0, 1) := by decide +kernel
theorem dX5_forget_23 : decode cX5_forget 23 = .ok (.getfield 35, 3) := by decide +kernel
theorem dX5_forget_26 : decode cX5_forget 26 = .ok (.iconst 1, 1) := by decide +kernel
theorem dX5_forget_27 : decode cX5_forget 27 = .ok (.ldc 44, 2) := by decide +kernel
theorem dX5_forget_29 : decode cX5_forget 29 = .ok (.iastore, 1) := by decide +kernel
theorem dX5_forget_30 : decode cX5_forget 30 = .ok (.aload_n 0, 1) := by decide +kernel
theorem dX5_forget_31 : decode cX5_forget 31 = .ok (.iconst 0, 1) := by decide +kernel
theorem dX5_forget_32 : decode cX5_forget 32 = .ok (.putfield 45, 3) := by decide +kernel
theorem dX5_forget_35 : decode cX5_forget 35 = .ok (.aload_n 0, 1) := by decide +kernel
theorem dX5_forget_36 : decode cX5_forget 36 = .ok (.iconst 0, 1) := by decide +kernel
theorem dX5_forget_37 : decode cX5_forget 37 = .ok (.putfield 48, 3) := by decide +kernel
theorem dX5_forget_40 : decode cX5_forget 40 = .ok (.aload_n 0, 1) := by decide +kernel
theorem dX5_forget_41 : decode cX5_forget 41 = .ok (.iconst 0, 1) := by decide +kernel
theorem dX5_forget_42 : decode cX5_forget 42 = .ok (.putfield 51, 3) := by decide +kernel
theorem dX5_forget_45 : decode cX5_forget 45 = .ok (.aload_n 0, 1) := by decide +kernel
theorem dX5_forget_46 : decode cX5_forget 46 = .ok (.iconst 0, 1) := by decide +kernel
theorem dX5_forget_47 : decode cX5_forget 47 = .ok (.putfield 54, 3) := by decide +kernel
theorem dX5_forget_50 : decode cX5_forget 50 = .ok (.aload_n 0, 1) := by decide +kernel
theorem dX5_forget_51 : decode cX5_forget 51 = .ok (.iconst 0, 1) := by decide +kernel
theorem dX5_forget_52 : decode cX5_forget 52 = .ok (.putfield 57, 3) := by decide +kernel
theorem dX5_forget_55 : decode cX5_forget 55 = .ok (.return_, 1) := by decide +kernel
set_option maxRecDepth 20000 in
theorem ggX5_set_X5_in : GoodIn wsX5_set wsX5_in := goodIn_r _ [12] (by decide +kernel) (by decide +kernel)
set_option maxRecDepth 20000 in
theorem gX5_set_X5_in : GoodIn wsX5_set (va_wsS RX5 61 yX5_in wsX5_in) := goodIn_app (goodIn_of _ (by decide +kernel)) ggX5_set_X5_in
set_option maxRecDepth 20000 in
theorem ggX5_set_X5_forget : GoodIn wsX5_set wsX5_forget := goodIn_r _ [16, 17, 18, 19, 20, 21, 22, 23, 24, 25, 26, 27, 28, 29, 30, 31, 32, 33, 34, 35, 36, 37, 38, 39, 40, 41, 42, 43, 44, 45] (by decide +kernel) (by decide +kernel)
set_option maxRecDepth 20000 in
theorem gX5_set_X5_forget : GoodIn wsX5_set (wsV RX5 41 RX5 yX5_forget wsX5_forget) := goodIn_app (goodIn_of _ (by decide +kernel)) ggX5_set_X5_forget
theorem dX5_set_0 : decode cX5_set 0 = .ok (.iload_n 1, 1) := by decide +kernel
theorem dX5_set_1 : decode cX5_set 1 = .ok (.iconst 1, 1) := by decide +kernel
theorem dX5_set_2 : decode cX5_set 2 = .ok (.ldc 60, 2) := by decide +kernel
theorem dX5_set_4 : decode cX5_set 4 = .ok (.invokestatic 61, 3) := by decide +kernel
theorem dX5_set_7 : decode cX5_set 7 = .ok (.ifCond .eq 28, 3) := by decide +kernel
theorem dX5_set_10 : decode cX5_set 10 = .ok (.iload_n 2, 1) := by decide +kernel
theorem dX5_set_11 : decode cX5_set 11 = .ok (.iconst 1, 1) := by decide +kernel
theorem dX5_set_12 : decode cX5_set 12 = .ok (.iload_n 1, 1) := by decide +kernel
theorem dX5_set_13 : decode cX5_set 13 = .ok (.invokestatic 61, 3) := by decide +kernel
theorem dX5_set_16 : decode cX5_set 16 = .ok (.ifCond .eq 19, 3) := by decide +kernel
theorem dX5_set_19 : decode cX5_set 19 = .ok (.iload_n 1, 1) := by decide +kernel
theorem dX5_set_20 : decode cX5_set 20 = .ok (.i2l, 1) := by decide +kernel
theorem dX5_set_21 : decode cX5_set 21 = .ok (.ldc2_w 65, 3) := by decide +kernel
theorem dX5_set_24 : decode cX5_set 24 = .ok (.iload_n 2, 1) := by decide +kernel
theorem dX5_set_25 : decode cX5_set 25 = .ok (.i2l, 1) := by decide +kernel
theorem dX5_set_26 : decode cX5_set 26 = .ok (.lmul, 1) := by decide +kernel
theorem dX5_set_27 : decode cX5_set 27 = .ok (.lcmp, 1) := by decide +kernel
theorem dX5_set_28 : decode cX5_set 28 = .ok (.ifCond .gt 7, 3) := by decide +kernel
theorem dX5_set_31 : decode cX5_set 31 = .ok (.iconst 1, 1) := by decide +kernel
theorem dX5_set_32 : decode cX5_set 32 = .ok (.goto 4, 3) := by decide +kernel
theorem dX5_set_35 : decode cX5_set 35 = .ok (.iconst 0, 1) := by decide +kernel
theorem dX5_set_36 : decode cX5_set 36 = .ok (.istore 7, 2) := by decide +kernel
theorem dX5_set_38 : decode cX5_set 38 = .ok (.iload 7, 2) := by decide +kernel
theorem dX5_set_40 : decode cX5_set 40 = .ok (.ifCond .eq 48, 3) := by decide +kernel
theorem dX5_set_43 : decode cX5_set 43 = .ok (.iload_n 3, 1) := by decide +kernel
theorem dX5_set_44 : decode cX5_set 44 = .ok (.iconst 0, 1) := by decide +kernel
theorem dX5_set_45 : decode cX5_set 45 = .ok (.ldc 60, 2) := by decide +kernel
theorem dX5_set_47 : decode cX5_set 47 = .ok (.invokestatic 61, 3) := by decide +kernel
theorem dX5_set_50 : decode cX5_set 50 = .ok (.ifCond .eq 38, 3) := by decide +kernel
theorem dX5_set_53 : decode cX5_set 53 = .ok (.iload 4, 2) := by decide +kernel
theorem dX5_set_55 : decode cX5_set 55 = .ok (.iconst 0, 1) := by decide +kernel
theorem dX5_set_56 : decode cX5_set 56 = .ok (.ldc 60, 2) := by decide +kernel
theorem dX5_set_58 : decode cX5_set 58 = .ok (.invokestatic 61, 3) := by decide +kernel
theorem dX5_set_61 : decode cX5_set 61 = .ok (.ifCond .eq 27, 3) := by decide +kernel
theorem dX5_set_64 : decode cX5_set 64 = .ok (.iload 5, 2) := by decide +kernel
theorem dX5_set_66 : decode cX5_set 66 = .ok (.iconst 1, 1) := by decide +kernel
theorem dX5_set_67 : decode cX5_set 67 = .ok (.sipush 200, 3) := by decide +kernel
theorem dX5_set_70 : decode cX5_set 70 = .ok (.invokestatic 61, 3) := by decide +kernel
theorem dX5_set_73 : decode cX5_set 73 = .ok (.ifCond .eq 15, 3) := by decide +kernel
theorem dX5_set_76 : decode cX5_set 76 = .ok (.iload 6, 2) := by decide +kernel
theorem dX5_set_78 : decode cX5_set 78 = .ok (.iconst 1, 1) := by decide +kernel
theorem dX5_set_79 : decode cX5_set 79 = .ok (.sipush 400, 3) := by decide +kernel
theorem dX5_set_82 : decode cX5_set 82 = .ok (.invokestatic 61, 3) := by decide +kernel
theorem dX5_set_85 : decode cX5_set 85 = .ok (.ifCond .ne 6, 3) := by decide +kernel
theorem dX5_set_88 : decode cX5_set 88 = .ok (.bipush (-2), 2) := by decide +kernel
theorem dX5_set_90 : decode cX5_set 90 = .ok (.ireturn, 1) := by decide +kernel
theorem dX5_set_91 : decode cX5_set 91 = .ok (.aload_n 0, 1) := by decide +kernel
theorem dX5_set_92 : decode cX5_set 92 = .ok (.iload_n 1, 1) := by decide +kernel
theorem dX5_set_93 : decode cX5_set 93 = .ok (.putfield 7, 3) := by decide +kernel
theorem dX5_set_96 : decode cX5_set 96 = .ok (.aload_n 0, 1) := by decide +kernel
theorem dX5_set_97 : decode cX5_set 97 = .ok (.iload_n 2, 1) := by decide +kernel
theorem dX5_set_98 : decode cX5_set 98 = .ok (.putfield 13, 3) := by decide +kernel
theorem dX5_set_101 : decode cX5_set 101 = .ok (.aload_n 0, 1) := by decide +kernel
theorem dX5_set_102 : decode cX5_set 102 = .ok (.iload_n 3, 1) := by decide +kernel
theorem dX5_set_103 : decode cX5_set 103 = .ok (.putfield 67, 3) := by decide +kernel
theorem dX5_set_106 : decode cX5_set 106 = .ok (.aload_n 0, 1) := by decide +kernel
theorem dX5_set_107 : decode cX5_set 107 = .ok (.iload 4, 2) := by decide +kernel
theorem dX5_set_109 : decode cX5_set 109 = .ok (.putfield 70, 3) := by decide +kernel
theorem dX5_set_112 : decode cX5_set 112 = .ok (.aload_n 0, 1) := by decide +kernel
theorem dX5_set_113 : decode cX5_set 113 = .ok (.iload 5, 2) := by decide +kernel
theorem dX5_set_115 : decode cX5_set 115 = .ok (.putfield 16, 3) := by decide +kernel
theorem dX5_set_118 : decode cX5_set 118 = .ok (.aload_n 0, 1) := by decide +kernel
theorem dX5_set_119 : decode cX5_set 119 = .ok (.iload 6, 2) := by decide +kernel
theorem dX5_set_121 : decode cX5_set 121 = .ok (.putfield 19, 3) := by decide +kernel
theorem dX5_set_124 : decode cX5_set 124 = .ok (.aload_n 0, 1) := by decide +kernel
theorem dX5_set_125 : decode cX5_set 125 = .ok (.invokevirtual 41, 3) := by decide +kernel
theorem dX5_set_128 : decode cX5_set 128 = .ok (.iconst 0, 1) := by decide +kernel
theorem dX5_set_129 : decode cX5_set 129 = .ok (.ireturn, 1) := by decide +kernel
set_option maxRecDepth 20000 in
theorem ggX5_isTime_X5_in : GoodIn wsX5_isTime wsX5_in := goodIn_r _ [6] (by decide +kernel) (by decide +kernel)
set_option maxRecDepth 20000 in
theorem gX5_isTime_X5_in : GoodIn wsX5_isTime (va_wsS RX5 61 yX5_in wsX5_in) := goodIn_app (goodIn_of _ (by decide +kernel)) ggX5_isTime_X5_in
theorem dX5_isTime_0 : decode cX5_isTime 0 = .ok (.iload_n 0, 1) := by decide +kernel
theorem dX5_isTime_1 : decode cX5_isTime 1 = .ok (.ldc 73, 2) := by decide +kernel
theorem dX5_isTime_3 : decode cX5_isTime 3 = .ok (.ldc 74, 2) := by decide +kernel
theorem dX5_isTime_5 : decode cX5_isTime 5 = .ok (.invokestatic 61, 3) := by decide +kernel
theorem dX5_isTime_8 : decode cX5_isTime 8 = .ok (.ireturn, 1) := by decide +kernel
theorem dX5_mark_0 : decode cX5_mark 0 = .ok (.aload_n 0, 1) := by decide +kernel
theorem dX5_mark_1 : decode cX5_mark 1 = .ok (.getfield 35, 3) := by decide +kernel
theorem dX5_mark_4 : decode cX5_mark 4 = .ok (.iconst 0, 1) := by decide +kernel
theorem dX5_mark_5 : decode cX5_mark 5 = .ok (.iaload, 1) := by decide +kernel
theorem dX5_mark_6 : decode cX5_mark 6 = .ok (.aload_n 0, 1) := by decide +kernel
theorem dX5_mark_7 : decode cX5_mark 7 = .ok (.getfield 35, 3) := by decide +kernel
theorem dX5_mark_10 : decode cX5_mark 10 = .ok (.iconst 1, 1) := by decide +kernel
theorem dX5_mark_11 : decode cX5_mark 11 = .ok (.iaload, 1) := by decide +kernel
theorem dX5_mark_12 : decode cX5_mark 12 = .ok (.if_icmp .ge 12, 3) := by decide +kernel
theorem dX5_mark_15 : decode cX5_mark 15 = .ok (.aload_n 0, 1) := by decide +kernel
theorem dX5_mark_16 : decode cX5_mark 16 = .ok (.getfield 35, 3) := by decide +kernel
theorem dX5_mark_19 : decode cX5_mark 19 = .ok (.iconst 0, 1) := by decide +kernel
theorem dX5_mark_20 : decode cX5_mark 20 = .ok (.iaload, 1) := by decide +kernel
theorem dX5_mark_21 : decode cX5_mark 21 = .ok (.goto 9, 3) := by decide +kernel
theorem dX5_mark_24 : decode cX5_mark 24 = .ok (.aload_n 0, 1) := by decide +kernel
theorem dX5_mark_25 : decode cX5_mark 25 = .ok (.getfield 35, 3) := by decide +kernel
theorem dX5_mark_28 : decode cX5_mark 28 = .ok (.iconst 1, 1) := by decide +kernel
theorem dX5_mark_29 : decode cX5_mark 29 = .ok (.iaload, 1) := by decide +kernel
theorem dX5_mark_30 : decode cX5_mark 30 = .ok (.ireturn, 1) := by decide +kernel
theorem dX5_areNear_0 : decode cX5_areNear 0 = .ok (.aload_n 0, 1) := by decide +kernel
theorem dX5_areNear_1 : decode cX5_areNear 1 = .ok (.getfield 22, 3) := by decide +kernel
theorem dX5_areNear_4 : decode cX5_areNear 4 = .ok (.iload_n 1, 1) := by decide +kernel
theorem dX5_areNear_5 : decode cX5_areNear 5 = .ok (.iaload, 1) := by decide +kernel
theorem dX5_areNear_6 : decode cX5_areNear 6 = .ok (.i2l, 1) := by decide +kernel
theorem dX5_areNear_7 : decode cX5_areNear 7 = .ok (.aload_n 0, 1) := by decide +kernel
theorem dX5_areNear_8 : decode cX5_areNear 8 = .ok (.getfield 22, 3) := by decide +kernel
theorem dX5_areNear_11 : decode cX5_areNear 11 = .ok (.iload_n 2, 1) := by decide +kernel
theorem dX5_areNear_12 : decode cX5_areNear 12 = .ok (.iaload, 1) := by decide +kernel
theorem dX5_areNear_13 : decode cX5_areNear 13 = .ok (.i2l, 1) := by decide +kernel
theorem dX5_areNear_14 : decode cX5_areNear 14 = .ok (.lsub, 1) := by decide +kernel
theorem dX5_areNear_15 : decode cX5_areNear 15 = .ok (.lstore_n 3, 1) := by decide +kernel
theorem dX5_areNear_16 : decode cX5_areNear 16 = .ok (.aload_n 0, 1) := by decide +kernel
theorem dX5_areNear_17 : decode cX5_areNear 17 = .ok (.getfield 26, 3) := by decide +kernel
theorem dX5_areNear_20 : decode cX5_areNear 20 = .ok (.iload_n 1, 1) := by decide +kernel
theorem dX5_areNear_21 : decode cX5_areNear 21 = .ok (.iaload, 1) := by decide +kernel
theorem dX5_areNear_22 : decode cX5_areNear 22 = .ok (.aload_n 0, 1) := by decide +kernel
theorem dX5_areNear_23 : decode cX5_areNear 23 = .ok (.getfield 26, 3) := by decide +kernel
theorem dX5_areNear_26 : decode cX5_areNear 26 = .ok (.iload_n 2, 1) := by decide +kernel
theorem dX5_areNear_27 : decode cX5_areNear 27 = .ok (.iaload, 1) := by decide +kernel
theorem dX5_areNear_28 : decode cX5_areNear 28 = .ok (.if_icmp .ne 28, 3) := by decide +kernel
theorem dX5_areNear_31 : decode cX5_areNear 31 = .ok (.lload_n 3, 1) := by decide +kernel
theorem dX5_areNear_32 : decode cX5_areNear 32 = .ok (.aload_n 0, 1) := by decide +kernel
theorem dX5_areNear_33 : decode cX5_areNear 33 = .ok (.getfield 70, 3) := by decide +kernel
theorem dX5_areNear_36 : decode cX5_areNear 36 = .ok (.i2l, 1) := by decide +kernel
theorem dX5_areNear_37 : decode cX5_areNear 37 = .ok (.lcmp, 1) := by decide +kernel
theorem dX5_areNear_38 : decode cX5_areNear 38 = .ok (.ifCond .gt 18, 3) := by decide +kernel
theorem dX5_areNear_41 : decode cX5_areNear 41 = .ok (.lload_n 3, 1) := by decide +kernel
theorem dX5_areNear_42 : decode cX5_areNear 42 = .ok (.lneg, 1) := by decide +kernel
theorem dX5_areNear_43 : decode cX5_areNear 43 = .ok (.aload_n 0, 1) := by decide +kernel
theorem dX5_areNear_44 : decode cX5_areNear 44 = .ok (.getfield 70, 3) := by decide +kernel
theorem dX5_areNear_47 : decode cX5_areNear 47 = .ok (.i2l, 1) := by decide +kernel
theorem dX5_areNear_48 : decode cX5_areNear 48 = .ok (.lcmp, 1) := by decide +kernel
theorem dX5_areNear_49 : decode cX5_areNear 49 = .ok (.ifCond .gt 7, 3) := by decide +kernel
theorem dX5_areNear_52 : decode cX5_areNear 52 = .ok (.iconst 1, 1) := by decide +kernel
theorem dX5_areNear_53 : decode cX5_areNear 53 = .ok (.goto 4, 3) := by decide +kernel
theorem dX5_areNear_56 : decode cX5_areNear 56 = .ok (.iconst 0, 1) := by decide +kernel
theorem dX5_areNear_57 : decode cX5_areNear 57 = .ok (.ireturn, 1) := by decide +kernel
theorem dX5_record_0 : decode cX5_record 0 = .ok (.bipush 6, 2) := by decide +kernel
theorem dX5_record_2 : decode cX5_record 2 = .ok (.aload_n 0, 1) := by decide +kernel
theorem dX5_record_3 : decode cX5_record 3 = .ok (.getfield 45, 3) := by decide +kernel
theorem dX5_record_6 : decode cX5_record 6 = .ok (.imul, 1) := by decide +kernel
theorem dX5_record_7 : decode cX5_record 7 = .ok (.istore 7, 2) := by decide +kernel
theorem dX5_record_9 : decode cX5_record 9 = .ok (.aload_n 0, 1) := by decide +kernel
theorem dX5_record_10 : decode cX5_record 10 = .ok (.getfield 38, 3) := by decide +kernel
theorem dX5_record_13 : decode cX5_record 13 = .ok (.iload 7, 2) := by decide +kernel
theorem dX5_record_15 : decode cX5_record 15 = .ok (.iload_n 1, 1) := by decide +kernel
theorem dX5_record_16 : decode cX5_record 16 = .ok (.iastore, 1) := by decide +kernel
theorem dX5_record_17 : decode cX5_record 17 = .ok (.aload_n 0, 1) := by decide +kernel
theorem dX5_record_18 : decode cX5_record 18 = .ok (.getfield 38, 3) := by decide +kernel
theorem dX5_record_21 : decode cX5_record 21 = .ok (.iload 7, 2) := by decide +kernel
theorem dX5_record_23 : decode cX5_record 23 = .ok (.iconst 1, 1) := by decide +kernel
theorem dX5_record_24 : decode cX5_record 24 = .ok (.iadd, 1) := by decide +kernel
theorem dX5_record_25 : decode cX5_record 25 = .ok (.iload_n 2, 1) := by decide +kernel
theorem dX5_record_26 : decode cX5_record 26 = .ok (.iastore, 1) := by decide +kernel
theorem dX5_record_27 : decode cX5_record 27 = .ok (.aload_n 0, 1) := by decide +kernel
theorem dX5_record_28 : decode cX5_record 28 = .ok (.getfield 38, 3) := by decide +kernel
theorem dX5_record_31 : decode cX5_record 31 = .ok (.iload 7, 2) := by decide +kernel
theorem dX5_record_33 : decode cX5_record 33 = .ok (.iconst 2, 1) := by decide +kernel
theorem dX5_record_34 : decode cX5_record 34 = .ok (.iadd, 1) := by decide +kernel
theorem dX5_record_35 : decode cX5_record 35 = .ok (.iload_n 3, 1) := by decide +kernel
theorem dX5_record_36 : decode cX5_record 36 = .ok (.iastore, 1) := by decide +kernel
theorem dX5_record_37 : decode cX5_record 37 = .ok (.aload_n 0, 1) := by decide +kernel
theorem dX5_record_38 : decode cX5_record 38 = .ok (.getfield 38, 3) := by decide +kernel
theorem dX5_record_41 : decode cX5_record 41 = .ok (.iload 7, 2) := by decide +kernel
theorem dX5_record_43 : decode cX5_record 43 = .ok (.iconst 3, 1) := by decide +kernel
theorem dX5_record_44 : decode cX5_record 44 = .ok (.iadd, 1) := by decide +kernel
theorem dX5_record_45 : decode cX5_record 45 = .ok (.iload 4, 2) := by decide +kernel
theorem dX5_record_47 : decode cX5_record 47 = .ok (.iastore, 1) := by decide +kernel
theorem dX5_record_48 : decode cX5_record 48 = .ok (.aload_n 0, 1) := by decide +kernel
theorem dX5_record_49 : decode cX5_record 49 = .ok (.getfield 38, 3) := by decide +kernel
theorem dX5_record_52 : decode cX5_record 52 = .ok (.iload 7, 2) := by decide +kernel
theorem dX5_record_54 : decode cX5_record 54 = .ok (.iconst 4, 1) := by decide +kernel
theorem dX5_record_55 : decode cX5_record 55 = .ok (.iadd, 1) := by decide +kernel
theorem dX5_record_56 : decode cX5_record 56 = .ok (.iload 5, 2) := by decide +kernel
theorem dX5_record_58 : decode cX5_record 58 = .ok (.iastore, 1) := by decide +kernel
theorem dX5_record_59 : decode cX5_record 59 = .ok (.aload_n 0, 1) := by decide +kernel
theorem dX5_record_60 : decode cX5_record 60 = .ok (.getfield 38, 3) := by decide +kernel
theorem dX5_record_63 : decode cX5_record 63 = .ok (.iload 7, 2) := by decide +kernel
theorem dX5_record_65 : decode cX5_record 65 = .ok (.iconst 5, 1) := by decide +kernel
theorem dX5_record_66 : decode cX5_record 66 = .ok (.iadd, 1) := by decide +kernel
theorem dX5_record_67 : decode cX5_record 67 = .ok (.iload 6, 2) := by decide +kernel
theorem dX5_record_69 : decode cX5_record 69 = .ok (.iastore, 1) := by decide +kernel
theorem dX5_record_70 : decode cX5_record 70 = .ok (.aload_n 0, 1) := by decide +kernel
theorem dX5_record_71 : decode cX5_record 71 = .ok (.dup, 1) := by decide +kernel
theorem dX5_record_72 : decode cX5_record 72 = .ok (.getfield 45, 3) := by decide +kernel
theorem dX5_record_75 : decode cX5_record 75 = .ok (.iconst 1, 1) := by decide +kernel
theorem dX5_record_76 : decode cX5_record 76 = .ok (.iadd, 1) := by decide +kernel
theorem dX5_record_77 : decode cX5_record 77 = .ok (.putfield 45, 3) := by decide +kernel
theorem dX5_record_80 : decode cX5_record 80 = .ok (.return_, 1) := by decide +kernel
set_option maxRecDepth 20000 in
theorem ggX5_event_X5_areNear : GoodIn wsX5_event wsX5_areNear := goodIn_r _ [9, 2, 3, 10, 17, 18, 19, 20, 21, 22, 23, 24, 25, 26, 27, 28, 29, 30, 31, 32, 33, 34, 35, 36, 37] (by decide +kernel) (by decide +kernel)
set_option maxRecDepth 20000 in
theorem gX5_event_X5_areNear : GoodIn wsX5_event (wsV RX5 75 RX5 yX5_areNear wsX5_areNear) := goodIn_app (goodIn_of _ (by decide +kernel)) ggX5_event_X5_areNear
set_option maxRecDepth 20000 in
theorem ggX5_event_X5_record : GoodIn wsX5_event wsX5_record := goodIn_r _ [14, 15, 16, 17, 18, 19, 20, 21, 22, 23, 24, 25, 26, 27, 28, 29, 30, 31, 32, 33, 34, 35, 36, 37] (by decide +kernel) (by decide +kernel)
set_option maxRecDepth 20000 in
theorem gX5_event_X5_record : GoodIn wsX5_event (wsV RX5 79 RX5 yX5_record wsX5_record) := goodIn_app (goodIn_of _ (by decide +kernel)) ggX5_event_X5_record
theorem dX5_event_0 : decode cX5_event 0 = .ok (.sipush 200, 3) := by decide +kernel
theorem dX5_event_3 : decode cX5_event 3 = .ok (.iload_n 1, 1) := by decide +kernel
theorem dX5_event_4 : decode cX5_event 4 = .ok (.imul, 1) := by decide +kernel
theorem dX5_event_5 : decode cX5_event 5 = .ok (.aload_n 0, 1) := by decide +kernel
theorem dX5_event_6 : decode cX5_event 6 = .ok (.getfield 32, 3) := by decide +kernel
theorem dX5_event_9 : decode cX5_event 9 = .ok (.iload_n 1, 1) := by decide +kernel
theorem dX5_event_10 : decode cX5_event 10 = .ok (.iaload, 1) := by decide +kernel
theorem dX5_event_11 : decode cX5_event 11 = .ok (.iadd, 1) := by decide +kernel
theorem dX5_event_12 : decode cX5_event 12 = .ok (.istore 6, 2) := by decide +kernel
theorem dX5_event_14 : decode cX5_event 14 = .ok (.sipush 200, 3) := by decide +kernel
theorem dX5_event_17 : decode cX5_event 17 = .ok (.iconst 1, 1) := by decide +kernel
theorem dX5_event_18 : decode cX5_event 18 = .ok (.iload_n 1, 1) := by decide +kernel
theorem dX5_event_19 : decode cX5_event 19 = .ok (.isub, 1) := by decide +kernel
theorem dX5_event_20 : decode cX5_event 20 = .ok (.imul, 1) := by decide +kernel
theorem dX5_event_21 : decode cX5_event 21 = .ok (.istore 7, 2) := by decide +kernel
theorem dX5_event_23 : decode cX5_event 23 = .ok (.aload_n 0, 1) := by decide +kernel
theorem dX5_event_24 : decode cX5_event 24 = .ok (.getfield 22, 3) := by decide +kernel
theorem dX5_event_27 : decode cX5_event 27 = .ok (.iload 6, 2) := by decide +kernel
theorem dX5_event_29 : decode cX5_event 29 = .ok (.iload_n 2, 1) := by decide +kernel
theorem dX5_event_30 : decode cX5_event 30 = .ok (.iastore, 1) := by decide +kernel
theorem dX5_event_31 : decode cX5_event 31 = .ok (.aload_n 0, 1) := by decide +kernel
theorem dX5_event_32 : decode cX5_event 32 = .ok (.getfield 26, 3) := by decide +kernel
theorem dX5_event_35 : decode cX5_event 35 = .ok (.iload 6, 2) := by decide +kernel
theorem dX5_event_37 : decode cX5_event 37 = .ok (.iload_n 3, 1) := by decide +kernel
theorem dX5_event_38 : decode cX5_event 38 = .ok (.iastore, 1) := by decide +kernel
theorem dX5_event_39 : decode cX5_event 39 = .ok (.aload_n 0, 1) := by decide +kernel
theorem dX5_event_40 : decode cX5_event 40 = .ok (.getfield 29, 3) := by decide +kernel
theorem dX5_event_43 : decode cX5_event 43 = .ok (.iload 6, 2) := by decide +kernel
theorem dX5_event_45 : decode cX5_event 45 = .ok (.iload 4, 2) := by decide +kernel
theorem dX5_event_47 : decode cX5_event 47 = .ok (.iastore, 1) := by decide +kernel
theorem dX5_event_48 : decode cX5_event 48 = .ok (.iconst 0, 1) := by decide +kernel
theorem dX5_event_49 : decode cX5_event 49 = .ok (.istore 8, 2) := by decide +kernel
theorem dX5_event_51 : decode cX5_event 51 = .ok (.iload 7, 2) := by decide +kernel
theorem dX5_event_53 : decode cX5_event 53 = .ok (.istore 9, 2) := by decide +kernel
theorem dX5_event_55 : decode cX5_event 55 = .ok (.iload 9, 2) := by decide +kernel
theorem dX5_event_57 : decode cX5_event 57 = .ok (.iload 7, 2) := by decide +kernel
theorem dX5_event_59 : decode cX5_event 59 = .ok (.aload_n 0, 1) := by decide +kernel
theorem dX5_event_60 : decode cX5_event 60 = .ok (.getfield 32, 3) := by decide +kernel
theorem dX5_event_63 : decode cX5_event 63 = .ok (.iconst 1, 1) := by decide +kernel
theorem dX5_event_64 : decode cX5_event 64 = .ok (.iload_n 1, 1) := by decide +kernel
theorem dX5_event_65 : decode cX5_event 65 = .ok (.isub, 1) := by decide +kernel
theorem dX5_event_66 : decode cX5_event 66 = .ok (.iaload, 1) := by decide +kernel
theorem dX5_event_67 : decode cX5_event 67 = .ok (.iadd, 1) := by decide +kernel
theorem dX5_event_68 : decode cX5_event 68 = .ok (.if_icmp .ge 88, 3) := by decide +kernel
theorem dX5_event_71 : decode cX5_event 71 = .ok (.aload_n 0, 1) := by decide +kernel
theorem dX5_event_72 : decode cX5_event 72 = .ok (.iload 6, 2) := by decide +kernel
theorem dX5_event_74 : decode cX5_event 74 = .ok (.iload 9, 2) := by decide +kernel
theorem dX5_event_76 : decode cX5_event 76 = .ok (.invokevirtual 75, 3) := by decide +kernel
theorem dX5_event_79 : decode cX5_event 79 = .ok (.ifCond .eq 71, 3) := by decide +kernel
theorem dX5_event_82 : decode cX5_event 82 = .ok (.iinc 8 1, 3) := by decide +kernel
theorem dX5_event_85 : decode cX5_event 85 = .ok (.iload_n 1, 1) := by decide +kernel
theorem dX5_event_86 : decode cX5_event 86 = .ok (.ifCond .ne 8, 3) := by decide +kernel
theorem dX5_event_89 : decode cX5_event 89 = .ok (.iload 6, 2) := by decide +kernel
theorem dX5_event_91 : decode cX5_event 91 = .ok (.goto 5, 3) := by decide +kernel
theorem dX5_event_94 : decode cX5_event 94 = .ok (.iload 9, 2) := by decide +kernel
theorem dX5_event_96 : decode cX5_event 96 = .ok (.istore 10, 2) := by decide +kernel
theorem dX5_event_98 : decode cX5_event 98 = .ok (.iload_n 1, 1) := by decide +kernel
theorem dX5_event_99 : decode cX5_event 99 = .ok (.ifCond .ne 8, 3) := by decide +kernel
theorem dX5_event_102 : decode cX5_event 102 = .ok (.iload 9, 2) := by decide +kernel
theorem dX5_event_104 : decode cX5_event 104 = .ok (.goto 5, 3) := by decide +kernel
theorem dX5_event_107 : decode cX5_event 107 = .ok (.iload 6, 2) := by decide +kernel
theorem dX5_event_109 : decode cX5_event 109 = .ok (.istore 11, 2) := by decide +kernel
theorem dX5_event_111 : decode cX5_event 111 = .ok (.iload 5, 2) := by decide +kernel
theorem dX5_event_113 : decode cX5_event 113 = .ok (.ifCond .eq 37, 3) := by decide +kernel
theorem dX5_event_116 : decode cX5_event 116 = .ok (.aload_n 0, 1) := by decide +kernel
theorem dX5_event_117 : decode cX5_event 117 = .ok (.iconst 2, 1) := by decide +kernel
theorem dX5_event_118 : decode cX5_event 118 = .ok (.aload_n 0, 1) := by decide +kernel
theorem dX5_event_119 : decode cX5_event 119 = .ok (.getfield 22, 3) := by decide +kernel
theorem dX5_event_122 : decode cX5_event 122 = .ok (.iload 10, 2) := by decide +kernel
theorem dX5_event_124 : decode cX5_event 124 = .ok (.iaload, 1) := by decide +kernel
theorem dX5_event_125 : decode cX5_event 125 = .ok (.aload_n 0, 1) := by decide +kernel
theorem dX5_event_126 : decode cX5_event 126 = .ok (.getfield 22, 3) := by decide +kernel
theorem dX5_event_129 : decode cX5_event 129 = .ok (.iload 11, 2) := by decide +kernel
theorem dX5_event_131 : decode cX5_event 131 = .ok (.iaload, 1) := by decide +kernel
theorem dX5_event_132 : decode cX5_event 132 = .ok (.iload_n 3, 1) := by decide +kernel
theorem dX5_event_133 : decode cX5_event 133 = .ok (.aload_n 0, 1) := by decide +kernel
theorem dX5_event_134 : decode cX5_event 134 = .ok (.getfield 29, 3) := by decide +kernel
theorem dX5_event_137 : decode cX5_event 137 = .ok (.iload 10, 2) := by decide +kernel
theorem dX5_event_139 : decode cX5_event 139 = .ok (.iaload, 1) := by decide +kernel
theorem dX5_event_140 : decode cX5_event 140 = .ok (.aload_n 0, 1) := by decide +kernel
theorem dX5_event_141 : decode cX5_event 141 = .ok (.getfield 29, 3) := by decide +kernel
theorem dX5_event_144 : decode cX5_event 144 = .ok (.iload 11, 2) := by decide +kernel
theorem dX5_event_146 : decode cX5_event 146 = .ok (.iaload, 1) := by decide +kernel
theorem dX5_event_147 : decode cX5_event 147 = .ok (.invokevirtual 79, 3) := by decide +kernel
theorem dX5_event_150 : decode cX5_event 150 = .ok (.iinc 9 1, 3) := by decide +kernel
theorem dX5_event_153 : decode cX5_event 153 = .ok (.goto (-98), 3) := by decide +kernel
theorem dX5_event_156 : decode cX5_event 156 = .ok (.iload 8, 2) := by decide +kernel
theorem dX5_event_158 : decode cX5_event 158 = .ok (.ireturn, 1) := by decide +kernel
set_option maxRecDepth 20000 in
theorem ggX5_take_X5_isTime : GoodIn wsX5_take wsX5_isTime := goodIn_r _ [12, 13, 14, 15, 16, 11, 17] (by decide +kernel) (by decide +kernel)
set_option maxRecDepth 20000 in
theorem gX5_take_X5_isTime : GoodIn wsX5_take (va_wsS RX5 83 yX5_isTime wsX5_isTime) := goodIn_app (goodIn_of _ (by decide +kernel)) ggX5_take_X5_isTime
set_option maxRecDepth 20000 in
theorem ggX5_take_X5_mark : GoodIn wsX5_take wsX5_mark := goodIn_r _ [21, 22, 40, 41, 42, 43, 44, 45, 46, 47, 48, 49, 50, 51, 52, 53, 54, 55, 56, 57, 58, 59, 60] (by decide +kernel) (by decide +kernel)
set_option maxRecDepth 20000 in
theorem gX5_take_X5_mark : GoodIn wsX5_take (wsV RX5 87 RX5 yX5_mark wsX5_mark) := goodIn_app (goodIn_of _ (by decide +kernel)) ggX5_take_X5_mark
set_option maxRecDepth 20000 in
theorem ggX5_take_X5_event : GoodIn wsX5_take wsX5_event := goodIn_r _ [26, 3, 27, 28, 29, 30, 31, 32, 11, 33, 34, 35, 36, 37, 38, 5, 39, 40, 41, 42, 43, 44, 45, 46, 47, 48, 49, 50, 51, 52, 53, 54, 55, 56, 57, 58, 59, 60] (by decide +kernel) (by decide +kernel)
set_option maxRecDepth 20000 in
theorem gX5_take_X5_event : GoodIn wsX5_take (wsV RX5 91 RX5 yX5_event wsX5_event) := goodIn_app (goodIn_of _ (by decide +kernel)) ggX5_take_X5_event
theorem dX5_take_0 : decode cX5_take 0 = .ok (.iload_n 2, 1) := by decide +kernel
theorem dX5_take_1 : decode cX5_take 1 = .ok (.invokestatic 83, 3) := by decide +kernel
theorem dX5_take_4 : decode cX5_take 4 = .ok (.ifCond .ne 6, 3) := by decide +kernel
theorem dX5_take_7 : decode cX5_take 7 = .ok (.bipush (-2), 2) := by decide +kernel
theorem dX5_take_9 : decode cX5_take 9 = .ok (.ireturn, 1) := by decide +kernel
theorem dX5_take_10 : decode cX5_take 10 = .ok (.iload_n 2, 1) := by decide +kernel
theorem dX5_take_11 : decode cX5_take 11 = .ok (.i2l, 1) := by decide +kernel
theorem dX5_take_12 : decode cX5_take 12 = .ok (.aload_n 0, 1) := by decide +kernel
theorem dX5_take_13 : decode cX5_take 13 = .ok (.invokevirtual 87, 3) := by decide +kernel
theorem dX5_take_16 : decode cX5_take 16 = .ok (.i2l, 1) := by decide +kernel
theorem dX5_take_17 : decode cX5_take 17 = .ok (.aload_n 0, 1) := by decide +kernel
theorem dX5_take_18 : decode cX5_take 18 = .ok (.getfield 67, 3) := by decide +kernel
theorem dX5_take_21 : decode cX5_take 21 = .ok (.i2l, 1) := by decide +kernel
theorem dX5_take_22 : decode cX5_take 22 = .ok (.lsub, 1) := by decide +kernel
theorem dX5_take_23 : decode cX5_take 23 = .ok (.lcmp, 1) := by decide +kernel
theorem dX5_take_24 : decode cX5_take 24 = .ok (.ifCond .ge 16, 3) := by decide +kernel
theorem dX5_take_27 : decode cX5_take 27 = .ok (.aload_n 0, 1) := by decide +kernel
theorem dX5_take_28 : decode cX5_take 28 = .ok (.dup, 1) := by decide +kernel
theorem dX5_take_29 : decode cX5_take 29 = .ok (.getfield 48, 3) := by decide +kernel
theorem dX5_take_32 : decode cX5_take 32 = .ok (.iconst 1, 1) := by decide +kernel
theorem dX5_take_33 : decode cX5_take 33 = .ok (.iadd, 1) := by decide +kernel
theorem dX5_take_34 : decode cX5_take 34 = .ok (.putfield 48, 3) := by decide +kernel
theorem dX5_take_37 : decode cX5_take 37 = .ok (.bipush (-4), 2) := by decide +kernel
theorem dX5_take_39 : decode cX5_take 39 = .ok (.ireturn, 1) := by decide +kernel
theorem dX5_take_40 : decode cX5_take 40 = .ok (.aload_n 0, 1) := by decide +kernel
theorem dX5_take_41 : decode cX5_take 41 = .ok (.getfield 32, 3) := by decide +kernel
theorem dX5_take_44 : decode cX5_take 44 = .ok (.iconst 0, 1) := by decide +kernel
theorem dX5_take_45 : decode cX5_take 45 = .ok (.iaload, 1) := by decide +kernel
theorem dX5_take_46 : decode cX5_take 46 = .ok (.aload_n 0, 1) := by decide +kernel
theorem dX5_take_47 : decode cX5_take 47 = .ok (.getfield 32, 3) := by decide +kernel
theorem dX5_take_50 : decode cX5_take 50 = .ok (.iconst 1, 1) := by decide +kernel
theorem dX5_take_51 : decode cX5_take 51 = .ok (.iaload, 1) := by decide +kernel
theorem dX5_take_52 : decode cX5_take 52 = .ok (.iadd, 1) := by decide +kernel
theorem dX5_take_53 : decode cX5_take 53 = .ok (.aload_n 0, 1) := by decide +kernel
theorem dX5_take_54 : decode cX5_take 54 = .ok (.getfield 16, 3) := by decide +kernel
theorem dX5_take_57 : decode cX5_take 57 = .ok (.if_icmp .eq 25, 3) := by decide +kernel
theorem dX5_take_60 : decode cX5_take 60 = .ok (.aload_n 0, 1) := by decide +kernel
theorem dX5_take_61 : decode cX5_take 61 = .ok (.getfield 45, 3) := by decide +kernel
theorem dX5_take_64 : decode cX5_take 64 = .ok (.aload_n 0, 1) := by decide +kernel
theorem dX5_take_65 : decode cX5_take 65 = .ok (.iload_n 1, 1) := by decide +kernel
theorem dX5_take_66 : decode cX5_take 66 = .ok (.iload_n 2, 1) := by decide +kernel
theorem dX5_take_67 : decode cX5_take 67 = .ok (.iload_n 3, 1) := by decide +kernel
theorem dX5_take_68 : decode cX5_take 68 = .ok (.iload 4, 2) := by decide +kernel
theorem dX5_take_70 : decode cX5_take 70 = .ok (.iconst 0, 1) := by decide +kernel
theorem dX5_take_71 : decode cX5_take 71 = .ok (.invokevirtual 91, 3) := by decide +kernel
theorem dX5_take_74 : decode cX5_take 74 = .ok (.iadd, 1) := by decide +kernel
theorem dX5_take_75 : decode cX5_take 75 = .ok (.aload_n 0, 1) := by decide +kernel
theorem dX5_take_76 : decode cX5_take 76 = .ok (.getfield 19, 3) := by decide +kernel
theorem dX5_take_79 : decode cX5_take 79 = .ok (.if_icmp .le 6, 3) := by decide +kernel
theorem dX5_take_82 : decode cX5_take 82 = .ok (.bipush (-3), 2) := by decide +kernel
theorem dX5_take_84 : decode cX5_take 84 = .ok (.ireturn, 1) := by decide +kernel
theorem dX5_take_85 : decode cX5_take 85 = .ok (.aload_n 0, 1) := by decide +kernel
theorem dX5_take_86 : decode cX5_take 86 = .ok (.iload_n 1, 1) := by decide +kernel
theorem dX5_take_87 : decode cX5_take 87 = .ok (.iload_n 2, 1) := by decide +kernel
theorem dX5_take_88 : decode cX5_take 88 = .ok (.iload_n 3, 1) := by decide +kernel
theorem dX5_take_89 : decode cX5_take 89 = .ok (.iload 4, 2) := by decide +kernel
theorem dX5_take_91 : decode cX5_take 91 = .ok (.iconst 1, 1) := by decide +kernel
theorem dX5_take_92 : decode cX5_take 92 = .ok (.invokevirtual 91, 3) := by decide +kernel
theorem dX5_take_95 : decode cX5_take 95 = .ok (.istore 5, 2) := by decide +kernel
theorem dX5_take_97 : decode cX5_take 97 = .ok (.aload_n 0, 1) := by decide +kernel
theorem dX5_take_98 : decode cX5_take 98 = .ok (.getfield 32, 3) := by decide +kernel
theorem dX5_take_101 : decode cX5_take 101 = .ok (.iload_n 1, 1) := by decide +kernel
theorem dX5_take_102 : decode cX5_take 102 = .ok (.dup2, 1) := by decide +kernel
theorem dX5_take_103 : decode cX5_take 103 = .ok (.iaload, 1) := by decide +kernel
theorem dX5_take_104 : decode cX5_take 104 = .ok (.iconst 1, 1) := by decide +kernel
theorem dX5_take_105 : decode cX5_take 105 = .ok (.iadd, 1) := by decide +kernel
theorem dX5_take_106 : decode cX5_take 106 = .ok (.iastore, 1) := by decide +kernel
theorem dX5_take_107 : decode cX5_take 107 = .ok (.aload_n 0, 1) := by decide +kernel
theorem dX5_take_108 : decode cX5_take 108 = .ok (.dup, 1) := by decide +kernel
theorem dX5_take_109 : decode cX5_take 109 = .ok (.getfield 51, 3) := by decide +kernel
theorem dX5_take_112 : decode cX5_take 112 = .ok (.iload 5, 2) := by decide +kernel
theorem dX5_take_114 : decode cX5_take 114 = .ok (.iadd, 1) := by decide +kernel
theorem dX5_take_115 : decode cX5_take 115 = .ok (.putfield 51, 3) := by decide +kernel
theorem dX5_take_118 : decode cX5_take 118 = .ok (.aload_n 0, 1) := by decide +kernel
theorem dX5_take_119 : decode cX5_take 119 = .ok (.dup, 1) := by decide +kernel
theorem dX5_take_120 : decode cX5_take 120 = .ok (.getfield 57, 3) := by decide +kernel
theorem dX5_take_123 : decode cX5_take 123 = .ok (.iconst 1, 1) := by decide +kernel
theorem dX5_take_124 : decode cX5_take 124 = .ok (.iadd, 1) := by decide +kernel
theorem dX5_take_125 : decode cX5_take 125 = .ok (.putfield 57, 3) := by decide +kernel
theorem dX5_take_128 : decode cX5_take 128 = .ok (.iload 5, 2) := by decide +kernel
theorem dX5_take_130 : decode cX5_take 130 = .ok (.ireturn, 1) := by decide +kernel
set_option maxRecDepth 20000 in
theorem ggX5_eventA_X5_take : GoodIn wsX5_eventA wsX5_take := goodIn_r _ [5, 6, 7, 8, 9, 10, 11, 12, 13, 14, 15, 4, 16, 17, 18, 19, 20, 21, 22, 23, 24, 25, 26, 27, 28, 29, 30, 31, 32, 33, 34, 35, 36, 37, 38, 39, 40, 41, 42, 43, 44, 45, 46, 47, 48, 49, 50, 51, 52, 53, 54, 55, 56, 57, 58, 59, 60, 61, 62, 63, 64] (by decide +kernel) (by decide +kernel)
set_option maxRecDepth 20000 in
theorem gX5_eventA_X5_take : GoodIn wsX5_eventA (wsV RX5 95 RX5 yX5_take wsX5_take) := goodIn_app (goodIn_of _ (by decide +kernel)) ggX5_eventA_X5_take
theorem dX5_eventA_0 : decode cX5_eventA 0 = .ok (.aload_n 0, 1) := by decide +kernel
theorem dX5_eventA_1 : decode cX5_eventA 1 = .ok (.iconst 0, 1) := by decide +kernel
theorem dX5_eventA_2 : decode cX5_eventA 2 = .ok (.iload_n 1, 1) := by decide +kernel
theorem dX5_eventA_3 : decode cX5_eventA 3 = .ok (.iload_n 2, 1) := by decide +kernel
theorem dX5_eventA_4 : decode cX5_eventA 4 = .ok (.iload_n 3, 1) := by decide +kernel
theorem dX5_eventA_5 : decode cX5_eventA 5 = .ok (.invokevirtual 95, 3) := by decide +kernel
theorem dX5_eventA_8 : decode cX5_eventA 8 = .ok (.ireturn, 1) := by decide +kernel
set_option maxRecDepth 20000 in
theorem ggX5_eventB_X5_take : GoodIn wsX5_eventB wsX5_take := goodIn_r _ [5, 6, 7, 8, 9, 10, 11, 12, 13, 14, 15, 4, 16, 17, 18, 19, 20, 21, 22, 23, 24, 25, 26, 27, 28, 29, 30, 31, 32, 33, 34, 35, 36, 37, 38, 39, 40, 41, 42, 43, 44, 45, 46, 47, 48, 49, 50, 51, 52, 53, 54, 55, 56, 57, 58, 59, 60, 61, 62, 63, 64] (by decide +kernel) (by decide +kernel)
set_option maxRecDepth 20000 in
theorem gX5_eventB_X5_take : GoodIn wsX5_eventB (wsV RX5 95 RX5 yX5_take wsX5_take) := goodIn_app (goodIn_of _ (by decide +kernel)) ggX5_eventB_X5_take
theorem dX5_eventB_0 : decode cX5_eventB 0 = .ok (.aload_n 0, 1) := by decide +kernel
theorem dX5_eventB_1 : decode cX5_eventB 1 = .ok (.iconst 1, 1) := by decide +kernel
theorem dX5_eventB_2 : decode cX5_eventB 2 = .ok (.iload_n 1, 1) := by decide +kernel
theorem dX5_eventB_3 : decode cX5_eventB 3 = .ok (.iload_n 2, 1) := by decide +kernel
theorem dX5_eventB_4 : decode cX5_eventB 4 = .ok (.iload_n 3, 1) := by decide +kernel
theorem dX5_eventB_5 : decode cX5_eventB 5 = .ok (.invokevirtual 95, 3) := by decide +kernel
theorem dX5_eventB_8 : decode cX5_eventB 8 = .ok (.ireturn, 1) := by decide +kernel
theorem dX5_lastEnd_0 : decode cX5_lastEnd 0 = .ok (.aload_n 0, 1) := by decide +kernel
theorem dX5_lastEnd_1 : decode cX5_lastEnd 1 = .ok (.getfield 22, 3) := by decide +kernel
theorem dX5_lastEnd_4 : decode cX5_lastEnd 4 = .ok (.iload_n 1, 1) := by decide +kernel
theorem dX5_lastEnd_5 : decode cX5_lastEnd 5 = .ok (.iaload, 1) := by decide +kernel
theorem dX5_lastEnd_6 : decode cX5_lastEnd 6 = .ok (.aload_n 0, 1) := by decide +kernel
theorem dX5_lastEnd_7 : decode cX5_lastEnd 7 = .ok (.getfield 22, 3) := by decide +kernel
theorem dX5_lastEnd_10 : decode cX5_lastEnd 10 = .ok (.iload_n 1, 1) := by decide +kernel
theorem dX5_lastEnd_11 : decode cX5_lastEnd 11 = .ok (.iaload, 1) := by decide +kernel
theorem dX5_lastEnd_12 : decode cX5_lastEnd 12 = .ok (.aload_n 0, 1) := by decide +kernel
theorem dX5_lastEnd_13 : decode cX5_lastEnd 13 = .ok (.getfield 13, 3) := by decide +kernel
theorem dX5_lastEnd_16 : decode cX5_lastEnd 16 = .ok (.irem, 1) := by decide +kernel
theorem dX5_lastEnd_17 : decode cX5_lastEnd 17 = .ok (.aload_n 0, 1) := by decide +kernel
theorem dX5_lastEnd_18 : decode cX5_lastEnd 18 = .ok (.getfield 13, 3) := by decide +kernel
theorem dX5_lastEnd_21 : decode cX5_lastEnd 21 = .ok (.iadd, 1) := by decide +kernel
theorem dX5_lastEnd_22 : decode cX5_lastEnd 22 = .ok (.aload_n 0, 1) := by decide +kernel
theorem dX5_lastEnd_23 : decode cX5_lastEnd 23 = .ok (.getfield 13, 3) := by decide +kernel
theorem dX5_lastEnd_26 : decode cX5_lastEnd 26 = .ok (.irem, 1) := by decide +kernel
theorem dX5_lastEnd_27 : decode cX5_lastEnd 27 = .ok (.isub, 1) := by decide +kernel
theorem dX5_lastEnd_28 : decode cX5_lastEnd 28 = .ok (.i2l, 1) := by decide +kernel
theorem dX5_lastEnd_29 : decode cX5_lastEnd 29 = .ok (.lstore_n 2, 1) := by decide +kernel
theorem dX5_lastEnd_30 : decode cX5_lastEnd 30 = .ok (.lload_n 2, 1) := by decide +kernel
theorem dX5_lastEnd_31 : decode cX5_lastEnd 31 = .ok (.aload_n 0, 1) := by decide +kernel
theorem dX5_lastEnd_32 : decode cX5_lastEnd 32 = .ok (.getfield 7, 3) := by decide +kernel
theorem dX5_lastEnd_35 : decode cX5_lastEnd 35 = .ok (.i2l, 1) := by decide +kernel
theorem dX5_lastEnd_36 : decode cX5_lastEnd 36 = .ok (.ladd, 1) := by decide +kernel
theorem dX5_lastEnd_37 : decode cX5_lastEnd 37 = .ok (.lreturn, 1) := by decide +kernel
theorem dX5_isIn_0 : decode cX5_isIn 0 = .ok (.aload_n 0, 1) := by decide +kernel
theorem dX5_isIn_1 : decode cX5_isIn 1 = .ok (.getfield 22, 3) := by decide +kernel
theorem dX5_isIn_4 : decode cX5_isIn 4 = .ok (.iload_n 1, 1) := by decide +kernel
theorem dX5_isIn_5 : decode cX5_isIn 5 = .ok (.iaload, 1) := by decide +kernel
theorem dX5_isIn_6 : decode cX5_isIn 6 = .ok (.i2l, 1) := by decide +kernel
theorem dX5_isIn_7 : decode cX5_isIn 7 = .ok (.lload_n 2, 1) := by decide +kernel
theorem dX5_isIn_8 : decode cX5_isIn 8 = .ok (.lcmp, 1) := by decide +kernel
theorem dX5_isIn_9 : decode cX5_isIn 9 = .ok (.ifCond .ge 25, 3) := by decide +kernel
theorem dX5_isIn_12 : decode cX5_isIn 12 = .ok (.aload_n 0, 1) := by decide +kernel
theorem dX5_isIn_13 : decode cX5_isIn 13 = .ok (.getfield 22, 3) := by decide +kernel
theorem dX5_isIn_16 : decode cX5_isIn 16 = .ok (.iload_n 1, 1) := by decide +kernel
theorem dX5_isIn_17 : decode cX5_isIn 17 = .ok (.iaload, 1) := by decide +kernel
theorem dX5_isIn_18 : decode cX5_isIn 18 = .ok (.i2l, 1) := by decide +kernel
theorem dX5_isIn_19 : decode cX5_isIn 19 = .ok (.lload_n 2, 1) := by decide +kernel
theorem dX5_isIn_20 : decode cX5_isIn 20 = .ok (.aload_n 0, 1) := by decide +kernel
theorem dX5_isIn_21 : decode cX5_isIn 21 = .ok (.getfield 7, 3) := by decide +kernel
theorem dX5_isIn_24 : decode cX5_isIn 24 = .ok (.i2l, 1) := by decide +kernel
theorem dX5_isIn_25 : decode cX5_isIn 25 = .ok (.lsub, 1) := by decide +kernel
theorem dX5_isIn_26 : decode cX5_isIn 26 = .ok (.lcmp, 1) := by decide +kernel
theorem dX5_isIn_27 : decode cX5_isIn 27 = .ok (.ifCond .lt 7, 3) := by decide +kernel
theorem dX5_isIn_30 : decode cX5_isIn 30 = .ok (.iconst 1, 1) := by decide +kernel
theorem dX5_isIn_31 : decode cX5_isIn 31 = .ok (.goto 4, 3) := by decide +kernel
theorem dX5_isIn_34 : decode cX5_isIn 34 = .ok (.iconst 0, 1) := by decide +kernel
theorem dX5_isIn_35 : decode cX5_isIn 35 = .ok (.ireturn, 1) := by decide +kernel
theorem dX5_isOver_0 : decode cX5_isOver 0 = .ok (.lload_n 1, 1) := by decide +kernel
theorem dX5_isOver_1 : decode cX5_isOver 1 = .ok (.aload_n 0, 1) := by decide +kernel
theorem dX5_isOver_2 : decode cX5_isOver 2 = .ok (.getfield 67, 3) := by decide +kernel
theorem dX5_isOver_5 : decode cX5_isOver 5 = .ok (.i2l, 1) := by decide +kernel
theorem dX5_isOver_6 : decode cX5_isOver 6 = .ok (.ladd, 1) := by decide +kernel
theorem dX5_isOver_7 : decode cX5_isOver 7 = .ok (.lload_n 3, 1) := by decide +kernel
theorem dX5_isOver_8 : decode cX5_isOver 8 = .ok (.lcmp, 1) := by decide +kernel
theorem dX5_isOver_9 : decode cX5_isOver 9 = .ok (.ifCond .gt 7, 3) := by decide +kernel
theorem dX5_isOver_12 : decode cX5_isOver 12 = .ok (.iconst 1, 1) := by decide +kernel
theorem dX5_isOver_13 : decode cX5_isOver 13 = .ok (.goto 4, 3) := by decide +kernel
theorem dX5_isOver_16 : decode cX5_isOver 16 = .ok (.iconst 0, 1) := by decide +kernel
theorem dX5_isOver_17 : decode cX5_isOver 17 = .ok (.ireturn, 1) := by decide +kernel
set_option maxRecDepth 20000 in
theorem ggX5_nextEnd_X5_lastEnd : GoodIn wsX5_nextEnd wsX5_lastEnd := goodIn_r _ [8, 9, 3, 10, 15, 16, 17, 18, 19, 20, 21, 22, 23, 24, 25, 26, 27, 28, 29, 30, 31, 32, 33, 34, 35] (by decide +kernel) (by decide +kernel)
set_option maxRecDepth 20000 in
theorem gX5_nextEnd_X5_lastEnd : GoodIn wsX5_nextEnd (wsV RX5 101 RX5 yX5_lastEnd wsX5_lastEnd) := goodIn_app (goodIn_of _ (by decide +kernel)) ggX5_nextEnd_X5_lastEnd
set_option maxRecDepth 20000 in
theorem ggX5_nextEnd_X5_isIn : GoodIn wsX5_nextEnd wsX5_isIn := goodIn_r _ [14, 9, 10, 15, 16, 17, 18, 19, 20, 21, 22, 23, 24, 25, 26, 27, 28, 29, 30, 31, 32, 33, 34, 35] (by decide +kernel) (by decide +kernel)
set_option maxRecDepth 20000 in
theorem gX5_nextEnd_X5_isIn : GoodIn wsX5_nextEnd (wsV RX5 105 RX5 yX5_isIn wsX5_isIn) := goodIn_app (goodIn_of _ (by decide +kernel)) ggX5_nextEnd_X5_isIn
theorem dX5_nextEnd_0 : decode cX5_nextEnd 0 = .ok (.ldc2_w 99, 3) := by decide +kernel
theorem dX5_nextEnd_3 : decode cX5_nextEnd 3 = .ok (.lstore_n 3, 1) := by decide +kernel
theorem dX5_nextEnd_4 : decode cX5_nextEnd 4 = .ok (.iconst 0, 1) := by decide +kernel
theorem dX5_nextEnd_5 : decode cX5_nextEnd 5 = .ok (.istore 5, 2) := by decide +kernel
theorem dX5_nextEnd_7 : decode cX5_nextEnd 7 = .ok (.iload 5, 2) := by decide +kernel
theorem dX5_nextEnd_9 : decode cX5_nextEnd 9 = .ok (.aload_n 0, 1) := by decide +kernel
theorem dX5_nextEnd_10 : decode cX5_nextEnd 10 = .ok (.getfield 32, 3) := by decide +kernel
theorem dX5_nextEnd_13 : decode cX5_nextEnd 13 = .ok (.iconst 0, 1) := by decide +kernel
theorem dX5_nextEnd_14 : decode cX5_nextEnd 14 = .ok (.iaload, 1) := by decide +kernel
theorem dX5_nextEnd_15 : decode cX5_nextEnd 15 = .ok (.if_icmp .ge 87, 3) := by decide +kernel
theorem dX5_nextEnd_18 : decode cX5_nextEnd 18 = .ok (.iconst 0, 1) := by decide +kernel
theorem dX5_nextEnd_19 : decode cX5_nextEnd 19 = .ok (.istore 6, 2) := by decide +kernel
theorem dX5_nextEnd_21 : decode cX5_nextEnd 21 = .ok (.iload 6, 2) := by decide +kernel
theorem dX5_nextEnd_23 : decode cX5_nextEnd 23 = .ok (.bipush 16, 2) := by decide +kernel
theorem dX5_nextEnd_25 : decode cX5_nextEnd 25 = .ok (.if_icmp .ge 71, 3) := by decide +kernel
theorem dX5_nextEnd_28 : decode cX5_nextEnd 28 = .ok (.aload_n 0, 1) := by decide +kernel
theorem dX5_nextEnd_29 : decode cX5_nextEnd 29 = .ok (.iload 5, 2) := by decide +kernel
theorem dX5_nextEnd_31 : decode cX5_nextEnd 31 = .ok (.invokevirtual 101, 3) := by decide +kernel
theorem dX5_nextEnd_34 : decode cX5_nextEnd 34 = .ok (.iload 6, 2) := by decide +kernel
theorem dX5_nextEnd_36 : decode cX5_nextEnd 36 = .ok (.i2l, 1) := by decide +kernel
theorem dX5_nextEnd_37 : decode cX5_nextEnd 37 = .ok (.aload_n 0, 1) := by decide +kernel
theorem dX5_nextEnd_38 : decode cX5_nextEnd 38 = .ok (.getfield 13, 3) := by decide +kernel
theorem dX5_nextEnd_41 : decode cX5_nextEnd 41 = .ok (.i2l, 1) := by decide +kernel
theorem dX5_nextEnd_42 : decode cX5_nextEnd 42 = .ok (.lmul, 1) := by decide +kernel
theorem dX5_nextEnd_43 : decode cX5_nextEnd 43 = .ok (.lsub, 1) := by decide +kernel
theorem dX5_nextEnd_44 : decode cX5_nextEnd 44 = .ok (.lstore 7, 2) := by decide +kernel
theorem dX5_nextEnd_46 : decode cX5_nextEnd 46 = .ok (.aload_n 0, 1) := by decide +kernel
theorem dX5_nextEnd_47 : decode cX5_nextEnd 47 = .ok (.iload 5, 2) := by decide +kernel
theorem dX5_nextEnd_49 : decode cX5_nextEnd 49 = .ok (.lload 7, 2) := by decide +kernel
theorem dX5_nextEnd_51 : decode cX5_nextEnd 51 = .ok (.invokevirtual 105, 3) := by decide +kernel
theorem dX5_nextEnd_54 : decode cX5_nextEnd 54 = .ok (.ifCond .eq 21, 3) := by decide +kernel
theorem dX5_nextEnd_57 : decode cX5_nextEnd 57 = .ok (.lload 7, 2) := by decide +kernel
theorem dX5_nextEnd_59 : decode cX5_nextEnd 59 = .ok (.lload_n 1, 1) := by decide +kernel
theorem dX5_nextEnd_60 : decode cX5_nextEnd 60 = .ok (.lcmp, 1) := by decide +kernel
theorem dX5_nextEnd_61 : decode cX5_nextEnd 61 = .ok (.ifCond .le 14, 3) := by decide +kernel
theorem dX5_nextEnd_64 : decode cX5_nextEnd 64 = .ok (.lload 7, 2) := by decide +kernel
theorem dX5_nextEnd_66 : decode cX5_nextEnd 66 = .ok (.lload_n 3, 1) := by decide +kernel
theorem dX5_nextEnd_67 : decode cX5_nextEnd 67 = .ok (.lcmp, 1) := by decide +kernel
theorem dX5_nextEnd_68 : decode cX5_nextEnd 68 = .ok (.ifCond .ge 7, 3) := by decide +kernel
theorem dX5_nextEnd_71 : decode cX5_nextEnd 71 = .ok (.iconst 1, 1) := by decide +kernel
theorem dX5_nextEnd_72 : decode cX5_nextEnd 72 = .ok (.goto 4, 3) := by decide +kernel
theorem dX5_nextEnd_75 : decode cX5_nextEnd 75 = .ok (.iconst 0, 1) := by decide +kernel
theorem dX5_nextEnd_76 : decode cX5_nextEnd 76 = .ok (.istore 9, 2) := by decide +kernel
theorem dX5_nextEnd_78 : decode cX5_nextEnd 78 = .ok (.iload 9, 2) := by decide +kernel
theorem dX5_nextEnd_80 : decode cX5_nextEnd 80 = .ok (.ifCond .eq 8, 3) := by decide +kernel
theorem dX5_nextEnd_83 : decode cX5_nextEnd 83 = .ok (.lload 7, 2) := by decide +kernel
theorem dX5_nextEnd_85 : decode cX5_nextEnd 85 = .ok (.goto 4, 3) := by decide +kernel
theorem dX5_nextEnd_88 : decode cX5_nextEnd 88 = .ok (.lload_n 3, 1) := by decide +kernel
theorem dX5_nextEnd_89 : decode cX5_nextEnd 89 = .ok (.lstore_n 3, 1) := by decide +kernel
theorem dX5_nextEnd_90 : decode cX5_nextEnd 90 = .ok (.iinc 6 1, 3) := by decide +kernel
theorem dX5_nextEnd_93 : decode cX5_nextEnd 93 = .ok (.goto (-72), 3) := by decide +kernel
theorem dX5_nextEnd_96 : decode cX5_nextEnd 96 = .ok (.iinc 5 1, 3) := by decide +kernel
theorem dX5_nextEnd_99 : decode cX5_nextEnd 99 = .ok (.goto (-92), 3) := by decide +kernel
theorem dX5_nextEnd_102 : decode cX5_nextEnd 102 = .ok (.lload_n 3, 1) := by decide +kernel
theorem dX5_nextEnd_103 : decode cX5_nextEnd 103 = .ok (.lreturn, 1) := by decide +kernel
set_option maxRecDepth 20000 in
theorem ggX5_nextKey_X5_isIn : GoodIn wsX5_nextKey wsX5_isIn := goodIn_r _ [8, 9, 10, 11, 12, 13, 14, 15, 16, 17, 18, 19, 20, 21, 22, 23, 24, 25, 26, 27, 28, 29, 30, 31] (by decide +kernel) (by decide +kernel)
set_option maxRecDepth 20000 in
theorem gX5_nextKey_X5_isIn : GoodIn wsX5_nextKey (wsV RX5 105 RX5 yX5_isIn wsX5_isIn) := goodIn_app (goodIn_of _ (by decide +kernel)) ggX5_nextKey_X5_isIn
theorem dX5_nextKey_0 : decode cX5_nextKey 0 = .ok (.ldc2_w 99, 3) := by decide +kernel
theorem dX5_nextKey_3 : decode cX5_nextKey 3 = .ok (.lstore 5, 2) := by decide +kernel
theorem dX5_nextKey_5 : decode cX5_nextKey 5 = .ok (.iconst 0, 1) := by decide +kernel
theorem dX5_nextKey_6 : decode cX5_nextKey 6 = .ok (.istore 7, 2) := by decide +kernel
theorem dX5_nextKey_8 : decode cX5_nextKey 8 = .ok (.iload 7, 2) := by decide +kernel
theorem dX5_nextKey_10 : decode cX5_nextKey 10 = .ok (.aload_n 0, 1) := by decide +kernel
theorem dX5_nextKey_11 : decode cX5_nextKey 11 = .ok (.getfield 32, 3) := by decide +kernel
theorem dX5_nextKey_14 : decode cX5_nextKey 14 = .ok (.iconst 0, 1) := by decide +kernel
theorem dX5_nextKey_15 : decode cX5_nextKey 15 = .ok (.iaload, 1) := by decide +kernel
theorem dX5_nextKey_16 : decode cX5_nextKey 16 = .ok (.if_icmp .ge 61, 3) := by decide +kernel
theorem dX5_nextKey_19 : decode cX5_nextKey 19 = .ok (.aload_n 0, 1) := by decide +kernel
theorem dX5_nextKey_20 : decode cX5_nextKey 20 = .ok (.iload 7, 2) := by decide +kernel
theorem dX5_nextKey_22 : decode cX5_nextKey 22 = .ok (.lload_n 1, 1) := by decide +kernel
theorem dX5_nextKey_23 : decode cX5_nextKey 23 = .ok (.invokevirtual 105, 3) := by decide +kernel
theorem dX5_nextKey_26 : decode cX5_nextKey 26 = .ok (.ifCond .eq 41, 3) := by decide +kernel
theorem dX5_nextKey_29 : decode cX5_nextKey 29 = .ok (.aload_n 0, 1) := by decide +kernel
theorem dX5_nextKey_30 : decode cX5_nextKey 30 = .ok (.getfield 26, 3) := by decide +kernel
theorem dX5_nextKey_33 : decode cX5_nextKey 33 = .ok (.iload 7, 2) := by decide +kernel
theorem dX5_nextKey_35 : decode cX5_nextKey 35 = .ok (.iaload, 1) := by decide +kernel
theorem dX5_nextKey_36 : decode cX5_nextKey 36 = .ok (.i2l, 1) := by decide +kernel
theorem dX5_nextKey_37 : decode cX5_nextKey 37 = .ok (.lload_n 3, 1) := by decide +kernel
theorem dX5_nextKey_38 : decode cX5_nextKey 38 = .ok (.lcmp, 1) := by decide +kernel
theorem dX5_nextKey_39 : decode cX5_nextKey 39 = .ok (.ifCond .le 28, 3) := by decide +kernel
theorem dX5_nextKey_42 : decode cX5_nextKey 42 = .ok (.aload_n 0, 1) := by decide +kernel
theorem dX5_nextKey_43 : decode cX5_nextKey 43 = .ok (.getfield 26, 3) := by decide +kernel
theorem dX5_nextKey_46 : decode cX5_nextKey 46 = .ok (.iload 7, 2) := by decide +kernel
theorem dX5_nextKey_48 : decode cX5_nextKey 48 = .ok (.iaload, 1) := by decide +kernel
theorem dX5_nextKey_49 : decode cX5_nextKey 49 = .ok (.i2l, 1) := by decide +kernel
theorem dX5_nextKey_50 : decode cX5_nextKey 50 = .ok (.lload 5, 2) := by decide +kernel
theorem dX5_nextKey_52 : decode cX5_nextKey 52 = .ok (.lcmp, 1) := by decide +kernel
theorem dX5_nextKey_53 : decode cX5_nextKey 53 = .ok (.ifCond .ge 14, 3) := by decide +kernel
theorem dX5_nextKey_56 : decode cX5_nextKey 56 = .ok (.aload_n 0, 1) := by decide +kernel
theorem dX5_nextKey_57 : decode cX5_nextKey 57 = .ok (.getfield 26, 3) := by decide +kernel
theorem dX5_nextKey_60 : decode cX5_nextKey 60 = .ok (.iload 7, 2) := by decide +kernel
theorem dX5_nextKey_62 : decode cX5_nextKey 62 = .ok (.iaload, 1) := by decide +kernel
theorem dX5_nextKey_63 : decode cX5_nextKey 63 = .ok (.i2l, 1) := by decide +kernel
theorem dX5_nextKey_64 : decode cX5_nextKey 64 = .ok (.goto 5, 3) := by decide +kernel
theorem dX5_nextKey_67 : decode cX5_nextKey 67 = .ok (.lload 5, 2) := by decide +kernel
theorem dX5_nextKey_69 : decode cX5_nextKey 69 = .ok (.lstore 5, 2) := by decide +kernel
theorem dX5_nextKey_71 : decode cX5_nextKey 71 = .ok (.iinc 7 1, 3) := by decide +kernel
theorem dX5_nextKey_74 : decode cX5_nextKey 74 = .ok (.goto (-66), 3) := by decide +kernel
theorem dX5_nextKey_77 : decode cX5_nextKey 77 = .ok (.lload 5, 2) := by decide +kernel
theorem dX5_nextKey_79 : decode cX5_nextKey 79 = .ok (.lreturn, 1) := by decide +kernel
set_option maxRecDepth 20000 in
theorem ggX5_gather_X5_isIn : GoodIn wsX5_gather wsX5_isIn := goodIn_r _ [11, 12, 13, 14, 15, 16, 17, 18, 19, 20, 21, 22, 23, 24, 25, 26, 27, 28, 29, 30, 31, 32, 33, 34] (by decide +kernel) (by decide +kernel)
set_option maxRecDepth 20000 in
theorem gX5_gather_X5_isIn : GoodIn wsX5_gather (wsV RX5 105 RX5 yX5_isIn wsX5_isIn) := goodIn_app (goodIn_of _ (by decide +kernel)) ggX5_gather_X5_isIn
theorem dX5_gather_0 : decode cX5_gather 0 = .ok (.aload_n 0, 1) := by decide +kernel
theorem dX5_gather_1 : decode cX5_gather 1 = .ok (.iconst 0, 1) := by decide +kernel
theorem dX5_gather_2 : decode cX5_gather 2 = .ok (.putfield 109, 3) := by decide +kernel
theorem dX5_gather_5 : decode cX5_gather 5 = .ok (.aload_n 0, 1) := by decide +kernel
theorem dX5_gather_6 : decode cX5_gather 6 = .ok (.iconst 0, 1) := by decide +kernel
theorem dX5_gather_7 : decode cX5_gather 7 = .ok (.putfield 112, 3) := by decide +kernel
theorem dX5_gather_10 : decode cX5_gather 10 = .ok (.aload_n 0, 1) := by decide +kernel
theorem dX5_gather_11 : decode cX5_gather 11 = .ok (.iconst 0, 1) := by decide +kernel
theorem dX5_gather_12 : decode cX5_gather 12 = .ok (.putfield 115, 3) := by decide +kernel
theorem dX5_gather_15 : decode cX5_gather 15 = .ok (.iconst 0, 1) := by decide +kernel
theorem dX5_gather_16 : decode cX5_gather 16 = .ok (.istore 4, 2) := by decide +kernel
theorem dX5_gather_18 : decode cX5_gather 18 = .ok (.iload 4, 2) := by decide +kernel
theorem dX5_gather_20 : decode cX5_gather 20 = .ok (.aload_n 0, 1) := by decide +kernel
theorem dX5_gather_21 : decode cX5_gather 21 = .ok (.getfield 32, 3) := by decide +kernel
theorem dX5_gather_24 : decode cX5_gather 24 = .ok (.iconst 0, 1) := by decide +kernel
theorem dX5_gather_25 : decode cX5_gather 25 = .ok (.iaload, 1) := by decide +kernel
theorem dX5_gather_26 : decode cX5_gather 26 = .ok (.if_icmp .ge 95, 3) := by decide +kernel
theorem dX5_gather_29 : decode cX5_gather 29 = .ok (.aload_n 0, 1) := by decide +kernel
theorem dX5_gather_30 : decode cX5_gather 30 = .ok (.iload 4, 2) := by decide +kernel
theorem dX5_gather_32 : decode cX5_gather 32 = .ok (.lload_n 1, 1) := by decide +kernel
theorem dX5_gather_33 : decode cX5_gather 33 = .ok (.invokevirtual 105, 3) := by decide +kernel
theorem dX5_gather_36 : decode cX5_gather 36 = .ok (.ifCond .eq 79, 3) := by decide +kernel
theorem dX5_gather_39 : decode cX5_gather 39 = .ok (.aload_n 0, 1) := by decide +kernel
theorem dX5_gather_40 : decode cX5_gather 40 = .ok (.getfield 26, 3) := by decide +kernel
theorem dX5_gather_43 : decode cX5_gather 43 = .ok (.iload 4, 2) := by decide +kernel
theorem dX5_gather_45 : decode cX5_gather 45 = .ok (.iaload, 1) := by decide +kernel
theorem dX5_gather_46 : decode cX5_gather 46 = .ok (.iload_n 3, 1) := by decide +kernel
theorem dX5_gather_47 : decode cX5_gather 47 = .ok (.if_icmp .ne 68, 3) := by decide +kernel
theorem dX5_gather_50 : decode cX5_gather 50 = .ok (.aload_n 0, 1) := by decide +kernel
theorem dX5_gather_51 : decode cX5_gather 51 = .ok (.aload_n 0, 1) := by decide +kernel
theorem dX5_gather_52 : decode cX5_gather 52 = .ok (.getfield 112, 3) := by decide +kernel
theorem dX5_gather_55 : decode cX5_gather 55 = .ok (.ifCond .eq 17, 3) := by decide +kernel
theorem dX5_gather_58 : decode cX5_gather 58 = .ok (.aload_n 0, 1) := by decide +kernel
theorem dX5_gather_59 : decode cX5_gather 59 = .ok (.getfield 29, 3) := by decide +kernel
theorem dX5_gather_62 : decode cX5_gather 62 = .ok (.iload 4, 2) := by decide +kernel
theorem dX5_gather_64 : decode cX5_gather 64 = .ok (.iaload, 1) := by decide +kernel
theorem dX5_gather_65 : decode cX5_gather 65 = .ok (.aload_n 0, 1) := by decide +kernel
theorem dX5_gather_66 : decode cX5_gather 66 = .ok (.getfield 115, 3) := by decide +kernel
theorem dX5_gather_69 : decode cX5_gather 69 = .ok (.if_icmp .le 13, 3) := by decide +kernel
theorem dX5_gather_72 : decode cX5_gather 72 = .ok (.aload_n 0, 1) := by decide +kernel
theorem dX5_gather_73 : decode cX5_gather 73 = .ok (.getfield 29, 3) := by decide +kernel
theorem dX5_gather_76 : decode cX5_gather 76 = .ok (.iload 4, 2) := by decide +kernel
theorem dX5_gather_78 : decode cX5_gather 78 = .ok (.iaload, 1) := by decide +kernel
theorem dX5_gather_79 : decode cX5_gather 79 = .ok (.goto 7, 3) := by decide +kernel
theorem dX5_gather_82 : decode cX5_gather 82 = .ok (.aload_n 0, 1) := by decide +kernel
theorem dX5_gather_83 : decode cX5_gather 83 = .ok (.getfield 115, 3) := by decide +kernel
theorem dX5_gather_86 : decode cX5_gather 86 = .ok (.putfield 115, 3) := by decide +kernel
theorem dX5_gather_89 : decode cX5_gather 89 = .ok (.aload_n 0, 1) := by decide +kernel
theorem dX5_gather_90 : decode cX5_gather 90 = .ok (.dup, 1) := by decide +kernel
theorem dX5_gather_91 : decode cX5_gather 91 = .ok (.getfield 109, 3) := by decide +kernel
theorem dX5_gather_94 : decode cX5_gather 94 = .ok (.aload_n 0, 1) := by decide +kernel
theorem dX5_gather_95 : decode cX5_gather 95 = .ok (.getfield 29, 3) := by decide +kernel
theorem dX5_gather_98 : decode cX5_gather 98 = .ok (.iload 4, 2) := by decide +kernel
theorem dX5_gather_100 : decode cX5_gather 100 = .ok (.iaload, 1) := by decide +kernel
theorem dX5_gather_101 : decode cX5_gather 101 = .ok (.iadd, 1) := by decide +kernel
theorem dX5_gather_102 : decode cX5_gather 102 = .ok (.putfield 109, 3) := by decide +kernel
theorem dX5_gather_105 : decode cX5_gather 105 = .ok (.aload_n 0, 1) := by decide +kernel
theorem dX5_gather_106 : decode cX5_gather 106 = .ok (.dup, 1) := by decide +kernel
theorem dX5_gather_107 : decode cX5_gather 107 = .ok (.getfield 112, 3) := by decide +kernel
theorem dX5_gather_110 : decode cX5_gather 110 = .ok (.iconst 1, 1) := by decide +kernel
theorem dX5_gather_111 : decode cX5_gather 111 = .ok (.iadd, 1) := by decide +kernel
theorem dX5_gather_112 : decode cX5_gather 112 = .ok (.putfield 112, 3) := by decide +kernel
theorem dX5_gather_115 : decode cX5_gather 115 = .ok (.iinc 4 1, 3) := by decide +kernel
theorem dX5_gather_118 : decode cX5_gather 118 = .ok (.goto (-100), 3) := by decide +kernel
theorem dX5_gather_121 : decode cX5_gather 121 = .ok (.return_, 1) := by decide +kernel
set_option maxRecDepth 20000 in
theorem ggX5_goOver_X5_nextEnd : GoodIn wsX5_goOver wsX5_nextEnd := goodIn_r _ [11, 3, 12, 13, 14, 15, 16, 10, 17, 18, 19, 20, 21, 22, 23, 45, 46, 47, 48, 49, 50, 51, 52, 53, 54, 55, 56, 57, 58, 59, 60, 61, 62, 63, 64, 65] (by decide +kernel) (by decide +kernel)
set_option maxRecDepth 20000 in
theorem gX5_goOver_X5_nextEnd : GoodIn wsX5_goOver (wsV RX5 123 RX5 yX5_nextEnd wsX5_nextEnd) := goodIn_app (goodIn_of _ (by decide +kernel)) ggX5_goOver_X5_nextEnd
set_option maxRecDepth 20000 in
theorem ggX5_goOver_X5_isOver : GoodIn wsX5_goOver wsX5_isOver := goodIn_r _ [27, 28, 45, 46, 47, 48, 49, 50, 51, 52, 53, 54, 55, 56, 57, 58, 59, 60, 61, 62, 63, 64, 65] (by decide +kernel) (by decide +kernel)
set_option maxRecDepth 20000 in
theorem gX5_goOver_X5_isOver : GoodIn wsX5_goOver (wsV RX5 127 RX5 yX5_isOver wsX5_isOver) := goodIn_app (goodIn_of _ (by decide +kernel)) ggX5_goOver_X5_isOver
set_option maxRecDepth 20000 in
theorem ggX5_goOver_X5_nextKey : GoodIn wsX5_goOver wsX5_nextKey := goodIn_r _ [32, 3, 12, 33, 20, 21, 22, 10, 23, 18, 19, 45, 46, 47, 48, 49, 50, 51, 52, 53, 54, 55, 56, 57, 58, 59, 60, 61, 62, 63, 64, 65] (by decide +kernel) (by decide +kernel)
set_option maxRecDepth 20000 in
theorem gX5_goOver_X5_nextKey : GoodIn wsX5_goOver (wsV RX5 131 RX5 yX5_nextKey wsX5_nextKey) := goodIn_app (goodIn_of _ (by decide +kernel)) ggX5_goOver_X5_nextKey
set_option maxRecDepth 20000 in
theorem ggX5_goOver_X5_gather : GoodIn wsX5_goOver wsX5_gather := goodIn_r _ [37, 4, 5, 6, 12, 33, 38, 20, 21, 22, 10, 23, 18, 19, 45, 46, 47, 48, 49, 50, 51, 52, 53, 54, 55, 56, 57, 58, 59, 60, 61, 62, 63, 64, 65] (by decide +kernel) (by decide +kernel)
set_option maxRecDepth 20000 in
theorem gX5_goOver_X5_gather : GoodIn wsX5_goOver (wsV RX5 135 RX5 yX5_gather wsX5_gather) := goodIn_app (goodIn_of _ (by decide +kernel)) ggX5_goOver_X5_gather
set_option maxRecDepth 20000 in
theorem ggX5_goOver_X5_record : GoodIn wsX5_goOver wsX5_record := goodIn_r _ [42, 43, 44, 45, 46, 47, 48, 49, 50, 51, 52, 53, 54, 55, 56, 57, 58, 59, 60, 61, 62, 63, 64, 65] (by decide +kernel) (by decide +kernel)
set_option maxRecDepth 20000 in
theorem gX5_goOver_X5_record : GoodIn wsX5_goOver (wsV RX5 79 RX5 yX5_record wsX5_record) := goodIn_app (goodIn_of _ (by decide +kernel)) ggX5_goOver_X5_record
theorem dX5_goOver_0 : decode cX5_goOver 0 = .ok (.iconst 0, 1) := by decide +kernel
theorem dX5_goOver_1 : decode cX5_goOver 1 = .ok (.istore 6, 2) := by decide +kernel
theorem dX5_goOver_3 : decode cX5_goOver 3 = .ok (.aload_n 0, 1) := by decide +kernel
theorem dX5_goOver_4 : decode cX5_goOver 4 = .ok (.iconst 0, 1) := by decide +kernel
theorem dX5_goOver_5 : decode cX5_goOver 5 = .ok (.putfield 118, 3) := by decide +kernel
theorem dX5_goOver_8 : decode cX5_goOver 8 = .ok (.aload_n 0, 1) := by decide +kernel
theorem dX5_goOver_9 : decode cX5_goOver 9 = .ok (.ldc2_w 121, 3) := by decide +kernel
theorem dX5_goOver_12 : decode cX5_goOver 12 = .ok (.invokevirtual 123, 3) := by decide +kernel
theorem dX5_goOver_15 : decode cX5_goOver 15 = .ok (.lstore 7, 2) := by decide +kernel
theorem dX5_goOver_17 : decode cX5_goOver 17 = .ok (.lload 7, 2) := by decide +kernel
theorem dX5_goOver_19 : decode cX5_goOver 19 = .ok (.ldc2_w 99, 3) := by decide +kernel
theorem dX5_goOver_22 : decode cX5_goOver 22 = .ok (.lcmp, 1) := by decide +kernel
theorem dX5_goOver_23 : decode cX5_goOver 23 = .ok (.ifCond .ge 117, 3) := by decide +kernel
theorem dX5_goOver_26 : decode cX5_goOver 26 = .ok (.aload_n 0, 1) := by decide +kernel
theorem dX5_goOver_27 : decode cX5_goOver 27 = .ok (.lload 7, 2) := by decide +kernel
theorem dX5_goOver_29 : decode cX5_goOver 29 = .ok (.lload_n 3, 1) := by decide +kernel
theorem dX5_goOver_30 : decode cX5_goOver 30 = .ok (.invokevirtual 127, 3) := by decide +kernel
theorem dX5_goOver_33 : decode cX5_goOver 33 = .ok (.ifCond .eq 107, 3) := by decide +kernel
theorem dX5_goOver_36 : decode cX5_goOver 36 = .ok (.aload_n 0, 1) := by decide +kernel
theorem dX5_goOver_37 : decode cX5_goOver 37 = .ok (.lload 7, 2) := by decide +kernel
theorem dX5_goOver_39 : decode cX5_goOver 39 = .ok (.lload_n 1, 1) := by decide +kernel
theorem dX5_goOver_40 : decode cX5_goOver 40 = .ok (.invokevirtual 127, 3) := by decide +kernel
theorem dX5_goOver_43 : decode cX5_goOver 43 = .ok (.ifCond .ne 86, 3) := by decide +kernel
theorem dX5_goOver_46 : decode cX5_goOver 46 = .ok (.iinc 6 1, 3) := by decide +kernel
