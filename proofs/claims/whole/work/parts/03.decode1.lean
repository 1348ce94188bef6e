theorem dX0_init_0 : decode cX0_init 0 = .ok (.aload_n 0, 1) := by decide +kernel
theorem dX0_init_1 : decode cX0_init 1 = .ok (.invokespecial 3, 3) := by decide +kernel
theorem dX0_init_4 : decode cX0_init 4 = .ok (.aload_n 0, 1) := by decide +kernel
theorem dX0_init_5 : decode cX0_init 5 = .ok (.sipush 200, 3) := by decide +kernel
theorem dX0_init_8 : decode cX0_init 8 = .ok (.newarray .int, 2) := by decide +kernel
theorem dX0_init_10 : decode cX0_init 10 = .ok (.putfield 9, 3) := by decide +kernel
theorem dX0_init_13 : decode cX0_init 13 = .ok (.aload_n 0, 1) := by decide +kernel
theorem dX0_init_14 : decode cX0_init 14 = .ok (.sipush 200, 3) := by decide +kernel
theorem dX0_init_17 : decode cX0_init 17 = .ok (.newarray .int, 2) := by decide +kernel
theorem dX0_init_19 : decode cX0_init 19 = .ok (.putfield 15, 3) := by decide +kernel
theorem dX0_init_22 : decode cX0_init 22 = .ok (.aload_n 0, 1) := by decide +kernel
theorem dX0_init_23 : decode cX0_init 23 = .ok (.sipush 200, 3) := by decide +kernel
theorem dX0_init_26 : decode cX0_init 26 = .ok (.newarray .int, 2) := by decide +kernel
theorem dX0_init_28 : decode cX0_init 28 = .ok (.putfield 18, 3) := by decide +kernel
theorem dX0_init_31 : decode cX0_init 31 = .ok (.aload_n 0, 1) := by decide +kernel
theorem dX0_init_32 : decode cX0_init 32 = .ok (.iconst 0, 1) := by decide +kernel
theorem dX0_init_33 : decode cX0_init 33 = .ok (.putfield 21, 3) := by decide +kernel
theorem dX0_init_36 : decode cX0_init 36 = .ok (.return_, 1) := by decide +kernel
theorem dX0_clear_0 : decode cX0_clear 0 = .ok (.aload_n 0, 1) := by decide +kernel
theorem dX0_clear_1 : decode cX0_clear 1 = .ok (.iconst 0, 1) := by decide +kernel
theorem dX0_clear_2 : decode cX0_clear 2 = .ok (.putfield 21, 3) := by decide +kernel
theorem dX0_clear_5 : decode cX0_clear 5 = .ok (.return_, 1) := by decide +kernel
theorem dX0_size_0 : decode cX0_size 0 = .ok (.aload_n 0, 1) := by decide +kernel
theorem dX0_size_1 : decode cX0_size 1 = .ok (.getfield 21, 3) := by decide +kernel
theorem dX0_size_4 : decode cX0_size 4 = .ok (.ireturn, 1) := by decide +kernel
set_option maxRecDepth 20000 in
theorem ggX0_time_X0_has : GoodIn wsX0_time wsX0_has := goodIn_r _ [6, 7, 8, 9, 10, 11] (by decide +kernel) (by decide +kernel)
set_option maxRecDepth 20000 in
theorem gX0_time_X0_has : GoodIn wsX0_time (wsV RX0 25 RX0 yX0_has wsX0_has) := goodIn_app (goodIn_of _ (by decide +kernel)) ggX0_time_X0_has
theorem dX0_time_0 : decode cX0_time 0 = .ok (.aload_n 0, 1) := by decide +kernel
theorem dX0_time_1 : decode cX0_time 1 = .ok (.iload_n 1, 1) := by decide +kernel
theorem dX0_time_2 : decode cX0_time 2 = .ok (.invokevirtual 25, 3) := by decide +kernel
theorem dX0_time_5 : decode cX0_time 5 = .ok (.ifCond .eq 12, 3) := by decide +kernel
theorem dX0_time_8 : decode cX0_time 8 = .ok (.aload_n 0, 1) := by decide +kernel
theorem dX0_time_9 : decode cX0_time 9 = .ok (.getfield 9, 3) := by decide +kernel
theorem dX0_time_12 : decode cX0_time 12 = .ok (.iload_n 1, 1) := by decide +kernel
theorem dX0_time_13 : decode cX0_time 13 = .ok (.iaload, 1) := by decide +kernel
theorem dX0_time_14 : decode cX0_time 14 = .ok (.goto 4, 3) := by decide +kernel
theorem dX0_time_17 : decode cX0_time 17 = .ok (.iconst 0, 1) := by decide +kernel
theorem dX0_time_18 : decode cX0_time 18 = .ok (.ireturn, 1) := by decide +kernel
set_option maxRecDepth 20000 in
theorem ggX0_key_X0_has : GoodIn wsX0_key wsX0_has := goodIn_r _ [6, 7, 8, 9, 10, 11] (by decide +kernel) (by decide +kernel)
set_option maxRecDepth 20000 in
theorem gX0_key_X0_has : GoodIn wsX0_key (wsV RX0 25 RX0 yX0_has wsX0_has) := goodIn_app (goodIn_of _ (by decide +kernel)) ggX0_key_X0_has
theorem dX0_key_0 : decode cX0_key 0 = .ok (.aload_n 0, 1) := by decide +kernel
theorem dX0_key_1 : decode cX0_key 1 = .ok (.iload_n 1, 1) := by decide +kernel
theorem dX0_key_2 : decode cX0_key 2 = .ok (.invokevirtual 25, 3) := by decide +kernel
theorem dX0_key_5 : decode cX0_key 5 = .ok (.ifCond .eq 12, 3) := by decide +kernel
theorem dX0_key_8 : decode cX0_key 8 = .ok (.aload_n 0, 1) := by decide +kernel
theorem dX0_key_9 : decode cX0_key 9 = .ok (.getfield 15, 3) := by decide +kernel
theorem dX0_key_12 : decode cX0_key 12 = .ok (.iload_n 1, 1) := by decide +kernel
theorem dX0_key_13 : decode cX0_key 13 = .ok (.iaload, 1) := by decide +kernel
theorem dX0_key_14 : decode cX0_key 14 = .ok (.goto 4, 3) := by decide +kernel
theorem dX0_key_17 : decode cX0_key 17 = .ok (.iconst 0, 1) := by decide +kernel
theorem dX0_key_18 : decode cX0_key 18 = .ok (.ireturn, 1) := by decide +kernel
set_option maxRecDepth 20000 in
theorem ggX0_value_X0_has : GoodIn wsX0_value wsX0_has := goodIn_r _ [6, 7, 8, 9, 10, 11] (by decide +kernel) (by decide +kernel)
set_option maxRecDepth 20000 in
theorem gX0_value_X0_has : GoodIn wsX0_value (wsV RX0 25 RX0 yX0_has wsX0_has) := goodIn_app (goodIn_of _ (by decide +kernel)) ggX0_value_X0_has
theorem dX0_value_0 : decode cX0_value 0 = .ok (.aload_n 0, 1) := by decide +kernel
theorem dX0_value_1 : decode cX0_value 1 = .ok (.iload_n 1, 1) := by decide +kernel
theorem dX0_value_2 : decode cX0_value 2 = .ok (.invokevirtual 25, 3) := by decide +kernel
theorem dX0_value_5 : decode cX0_value 5 = .ok (.ifCond .eq 12, 3) := by decide +kernel
theorem dX0_value_8 : decode cX0_value 8 = .ok (.aload_n 0, 1) := by decide +kernel
theorem dX0_value_9 : decode cX0_value 9 = .ok (.getfield 18, 3) := by decide +kernel
theorem dX0_value_12 : decode cX0_value 12 = .ok (.iload_n 1, 1) := by decide +kernel
theorem dX0_value_13 : decode cX0_value 13 = .ok (.iaload, 1) := by decide +kernel
theorem dX0_value_14 : decode cX0_value 14 = .ok (.goto 4, 3) := by decide +kernel
theorem dX0_value_17 : decode cX0_value 17 = .ok (.iconst 0, 1) := by decide +kernel
theorem dX0_value_18 : decode cX0_value 18 = .ok (.ireturn, 1) := by decide +kernel
theorem dX0_add_0 : decode cX0_add 0 = .ok (.aload_n 0, 1) := by decide +kernel
theorem dX0_add_1 : decode cX0_add 1 = .ok (.getfield 21, 3) := by decide +kernel
theorem dX0_add_4 : decode cX0_add 4 = .ok (.sipush 200, 3) := by decide +kernel
theorem dX0_add_7 : decode cX0_add 7 = .ok (.if_icmp .lt 4, 3) := by decide +kernel
theorem dX0_add_10 : decode cX0_add 10 = .ok (.return_, 1) := by decide +kernel
theorem dX0_add_11 : decode cX0_add 11 = .ok (.aload_n 0, 1) := by decide +kernel
theorem dX0_add_12 : decode cX0_add 12 = .ok (.getfield 9, 3) := by decide +kernel
theorem dX0_add_15 : decode cX0_add 15 = .ok (.aload_n 0, 1) := by decide +kernel
theorem dX0_add_16 : decode cX0_add 16 = .ok (.getfield 21, 3) := by decide +kernel
theorem dX0_add_19 : decode cX0_add 19 = .ok (.iload_n 1, 1) := by decide +kernel
theorem dX0_add_20 : decode cX0_add 20 = .ok (.iastore, 1) := by decide +kernel
theorem dX0_add_21 : decode cX0_add 21 = .ok (.aload_n 0, 1) := by decide +kernel
theorem dX0_add_22 : decode cX0_add 22 = .ok (.getfield 15, 3) := by decide +kernel
theorem dX0_add_25 : decode cX0_add 25 = .ok (.aload_n 0, 1) := by decide +kernel
theorem dX0_add_26 : decode cX0_add 26 = .ok (.getfield 21, 3) := by decide +kernel
theorem dX0_add_29 : decode cX0_add 29 = .ok (.iload_n 2, 1) := by decide +kernel
theorem dX0_add_30 : decode cX0_add 30 = .ok (.iastore, 1) := by decide +kernel
theorem dX0_add_31 : decode cX0_add 31 = .ok (.aload_n 0, 1) := by decide +kernel
theorem dX0_add_32 : decode cX0_add 32 = .ok (.getfield 18, 3) := by decide +kernel
theorem dX0_add_35 : decode cX0_add 35 = .ok (.aload_n 0, 1) := by decide +kernel
theorem dX0_add_36 : decode cX0_add 36 = .ok (.getfield 21, 3) := by decide +kernel
theorem dX0_add_39 : decode cX0_add 39 = .ok (.iload_n 3, 1) := by decide +kernel
theorem dX0_add_40 : decode cX0_add 40 = .ok (.iastore, 1) := by decide +kernel
theorem dX0_add_41 : decode cX0_add 41 = .ok (.aload_n 0, 1) := by decide +kernel
theorem dX0_add_42 : decode cX0_add 42 = .ok (.dup, 1) := by decide +kernel
theorem dX0_add_43 : decode cX0_add 43 = .ok (.getfield 21, 3) := by decide +kernel
theorem dX0_add_46 : decode cX0_add 46 = .ok (.iconst 1, 1) := by decide +kernel
theorem dX0_add_47 : decode cX0_add 47 = .ok (.iadd, 1) := by decide +kernel
theorem dX0_add_48 : decode cX0_add 48 = .ok (.putfield 21, 3) := by decide +kernel
theorem dX0_add_51 : decode cX0_add 51 = .ok (.return_, 1) := by decide +kernel
set_option maxRecDepth 20000 in
theorem ggX0_isNear_X0_has : GoodIn wsX0_isNear wsX0_has := goodIn_r _ [11, 12, 13, 14, 15, 16] (by decide +kernel) (by decide +kernel)
set_option maxRecDepth 20000 in
theorem gX0_isNear_X0_has : GoodIn wsX0_isNear (wsV RX0 25 RX0 yX0_has wsX0_has) := goodIn_app (goodIn_of _ (by decide +kernel)) ggX0_isNear_X0_has
theorem dX0_isNear_0 : decode cX0_isNear 0 = .ok (.aload_n 0, 1) := by decide +kernel
theorem dX0_isNear_1 : decode cX0_isNear 1 = .ok (.iload_n 1, 1) := by decide +kernel
theorem dX0_isNear_2 : decode cX0_isNear 2 = .ok (.invokevirtual 25, 3) := by decide +kernel
theorem dX0_isNear_5 : decode cX0_isNear 5 = .ok (.ifCond .eq 33, 3) := by decide +kernel
theorem dX0_isNear_8 : decode cX0_isNear 8 = .ok (.aload_n 0, 1) := by decide +kernel
theorem dX0_isNear_9 : decode cX0_isNear 9 = .ok (.getfield 15, 3) := by decide +kernel
theorem dX0_isNear_12 : decode cX0_isNear 12 = .ok (.iload_n 1, 1) := by decide +kernel
theorem dX0_isNear_13 : decode cX0_isNear 13 = .ok (.iaload, 1) := by decide +kernel
theorem dX0_isNear_14 : decode cX0_isNear 14 = .ok (.iload_n 3, 1) := by decide +kernel
theorem dX0_isNear_15 : decode cX0_isNear 15 = .ok (.if_icmp .ne 23, 3) := by decide +kernel
theorem dX0_isNear_18 : decode cX0_isNear 18 = .ok (.aload_n 0, 1) := by decide +kernel
theorem dX0_isNear_19 : decode cX0_isNear 19 = .ok (.getfield 9, 3) := by decide +kernel
theorem dX0_isNear_22 : decode cX0_isNear 22 = .ok (.iload_n 1, 1) := by decide +kernel
theorem dX0_isNear_23 : decode cX0_isNear 23 = .ok (.iaload, 1) := by decide +kernel
theorem dX0_isNear_24 : decode cX0_isNear 24 = .ok (.iload_n 2, 1) := by decide +kernel
theorem dX0_isNear_25 : decode cX0_isNear 25 = .ok (.isub, 1) := by decide +kernel
theorem dX0_isNear_26 : decode cX0_isNear 26 = .ok (.invokestatic 29, 3) := by decide +kernel
theorem dX0_isNear_29 : decode cX0_isNear 29 = .ok (.iload 4, 2) := by decide +kernel
theorem dX0_isNear_31 : decode cX0_isNear 31 = .ok (.if_icmp .gt 7, 3) := by decide +kernel
theorem dX0_isNear_34 : decode cX0_isNear 34 = .ok (.iconst 1, 1) := by decide +kernel
theorem dX0_isNear_35 : decode cX0_isNear 35 = .ok (.goto 4, 3) := by decide +kernel
theorem dX0_isNear_38 : decode cX0_isNear 38 = .ok (.iconst 0, 1) := by decide +kernel
theorem dX0_isNear_39 : decode cX0_isNear 39 = .ok (.ireturn, 1) := by decide +kernel
set_option maxRecDepth 20000 in
theorem ggX0_manyNear_X0_isNear : GoodIn wsX0_manyNear wsX0_isNear := goodIn_r _ [6, 7, 8, 9, 10, 11, 12, 13, 14, 15, 5, 16, 1, 17, 18, 19, 20] (by decide +kernel) (by decide +kernel)
set_option maxRecDepth 20000 in
theorem gX0_manyNear_X0_isNear : GoodIn wsX0_manyNear (wsV RX0 35 RX0 yX0_isNear wsX0_isNear) := goodIn_app (goodIn_of _ (by decide +kernel)) ggX0_manyNear_X0_isNear
theorem dX0_manyNear_0 : decode cX0_manyNear 0 = .ok (.iconst 0, 1) := by decide +kernel
theorem dX0_manyNear_1 : decode cX0_manyNear 1 = .ok (.istore 4, 2) := by decide +kernel
theorem dX0_manyNear_3 : decode cX0_manyNear 3 = .ok (.iconst 0, 1) := by decide +kernel
theorem dX0_manyNear_4 : decode cX0_manyNear 4 = .ok (.istore 5, 2) := by decide +kernel
theorem dX0_manyNear_6 : decode cX0_manyNear 6 = .ok (.iload 5, 2) := by decide +kernel
theorem dX0_manyNear_8 : decode cX0_manyNear 8 = .ok (.aload_n 0, 1) := by decide +kernel
theorem dX0_manyNear_9 : decode cX0_manyNear 9 = .ok (.getfield 21, 3) := by decide +kernel
theorem dX0_manyNear_12 : decode cX0_manyNear 12 = .ok (.if_icmp .ge 24, 3) := by decide +kernel
theorem dX0_manyNear_15 : decode cX0_manyNear 15 = .ok (.aload_n 0, 1) := by decide +kernel
theorem dX0_manyNear_16 : decode cX0_manyNear 16 = .ok (.iload 5, 2) := by decide +kernel
theorem dX0_manyNear_18 : decode cX0_manyNear 18 = .ok (.iload_n 1, 1) := by decide +kernel
theorem dX0_manyNear_19 : decode cX0_manyNear 19 = .ok (.iload_n 2, 1) := by decide +kernel
theorem dX0_manyNear_20 : decode cX0_manyNear 20 = .ok (.iload_n 3, 1) := by decide +kernel
theorem dX0_manyNear_21 : decode cX0_manyNear 21 = .ok (.invokevirtual 35, 3) := by decide +kernel
theorem dX0_manyNear_24 : decode cX0_manyNear 24 = .ok (.ifCond .eq 6, 3) := by decide +kernel
theorem dX0_manyNear_27 : decode cX0_manyNear 27 = .ok (.iinc 4 1, 3) := by decide +kernel
theorem dX0_manyNear_30 : decode cX0_manyNear 30 = .ok (.iinc 5 1, 3) := by decide +kernel
theorem dX0_manyNear_33 : decode cX0_manyNear 33 = .ok (.goto (-27), 3) := by decide +kernel
theorem dX0_manyNear_36 : decode cX0_manyNear 36 = .ok (.iload 4, 2) := by decide +kernel
theorem dX0_manyNear_38 : decode cX0_manyNear 38 = .ok (.ireturn, 1) := by decide +kernel
set_option maxRecDepth 20000 in
theorem ggX0_dropBelow_X0_add : GoodIn wsX0_dropBelow wsX0_add := goodIn_r _ [9, 1, 2, 3, 4, 10, 11, 12, 13] (by decide +kernel) (by decide +kernel)
set_option maxRecDepth 20000 in
theorem gX0_dropBelow_X0_add : GoodIn wsX0_dropBelow (wsV RX0 39 RX0 yX0_add wsX0_add) := goodIn_app (goodIn_of _ (by decide +kernel)) ggX0_dropBelow_X0_add
theorem dX0_dropBelow_0 : decode cX0_dropBelow 0 = .ok (.aload_n 0, 1) := by decide +kernel
theorem dX0_dropBelow_1 : decode cX0_dropBelow 1 = .ok (.getfield 21, 3) := by decide +kernel
theorem dX0_dropBelow_4 : decode cX0_dropBelow 4 = .ok (.istore_n 2, 1) := by decide +kernel
theorem dX0_dropBelow_5 : decode cX0_dropBelow 5 = .ok (.aload_n 0, 1) := by decide +kernel
theorem dX0_dropBelow_6 : decode cX0_dropBelow 6 = .ok (.iconst 0, 1) := by decide +kernel
theorem dX0_dropBelow_7 : decode cX0_dropBelow 7 = .ok (.putfield 21, 3) := by decide +kernel
theorem dX0_dropBelow_10 : decode cX0_dropBelow 10 = .ok (.iconst 0, 1) := by decide +kernel
theorem dX0_dropBelow_11 : decode cX0_dropBelow 11 = .ok (.istore_n 3, 1) := by decide +kernel
theorem dX0_dropBelow_12 : decode cX0_dropBelow 12 = .ok (.iload_n 3, 1) := by decide +kernel
theorem dX0_dropBelow_13 : decode cX0_dropBelow 13 = .ok (.iload_n 2, 1) := by decide +kernel
theorem dX0_dropBelow_14 : decode cX0_dropBelow 14 = .ok (.if_icmp .ge 41, 3) := by decide +kernel
theorem dX0_dropBelow_17 : decode cX0_dropBelow 17 = .ok (.aload_n 0, 1) := by decide +kernel
theorem dX0_dropBelow_18 : decode cX0_dropBelow 18 = .ok (.getfield 9, 3) := by decide +kernel
theorem dX0_dropBelow_21 : decode cX0_dropBelow 21 = .ok (.iload_n 3, 1) := by decide +kernel
theorem dX0_dropBelow_22 : decode cX0_dropBelow 22 = .ok (.iaload, 1) := by decide +kernel
theorem dX0_dropBelow_23 : decode cX0_dropBelow 23 = .ok (.iload_n 1, 1) := by decide +kernel
theorem dX0_dropBelow_24 : decode cX0_dropBelow 24 = .ok (.if_icmp .lt 25, 3) := by decide +kernel
theorem dX0_dropBelow_27 : decode cX0_dropBelow 27 = .ok (.aload_n 0, 1) := by decide +kernel
theorem dX0_dropBelow_28 : decode cX0_dropBelow 28 = .ok (.aload_n 0, 1) := by decide +kernel
theorem dX0_dropBelow_29 : decode cX0_dropBelow 29 = .ok (.getfield 9, 3) := by decide +kernel
theorem dX0_dropBelow_32 : decode cX0_dropBelow 32 = .ok (.iload_n 3, 1) := by decide +kernel
theorem dX0_dropBelow_33 : decode cX0_dropBelow 33 = .ok (.iaload, 1) := by decide +kernel
theorem dX0_dropBelow_34 : decode cX0_dropBelow 34 = .ok (.aload_n 0, 1) := by decide +kernel
theorem dX0_dropBelow_35 : decode cX0_dropBelow 35 = .ok (.getfield 15, 3) := by decide +kernel
theorem dX0_dropBelow_38 : decode cX0_dropBelow 38 = .ok (.iload_n 3, 1) := by decide +kernel
theorem dX0_dropBelow_39 : decode cX0_dropBelow 39 = .ok (.iaload, 1) := by decide +kernel
theorem dX0_dropBelow_40 : decode cX0_dropBelow 40 = .ok (.aload_n 0, 1) := by decide +kernel
theorem dX0_dropBelow_41 : decode cX0_dropBelow 41 = .ok (.getfield 18, 3) := by decide +kernel
theorem dX0_dropBelow_44 : decode cX0_dropBelow 44 = .ok (.iload_n 3, 1) := by decide +kernel
theorem dX0_dropBelow_45 : decode cX0_dropBelow 45 = .ok (.iaload, 1) := by decide +kernel
theorem dX0_dropBelow_46 : decode cX0_dropBelow 46 = .ok (.invokevirtual 39, 3) := by decide +kernel
theorem dX0_dropBelow_49 : decode cX0_dropBelow 49 = .ok (.iinc 3 1, 3) := by decide +kernel
theorem dX0_dropBelow_52 : decode cX0_dropBelow 52 = .ok (.goto (-40), 3) := by decide +kernel
theorem dX0_dropBelow_55 : decode cX0_dropBelow 55 = .ok (.return_, 1) := by decide +kernel
theorem dX0_has_0 : decode cX0_has 0 = .ok (.iconst 0, 1) := by decide +kernel
theorem dX0_has_1 : decode cX0_has 1 = .ok (.iload_n 1, 1) := by decide +kernel
theorem dX0_has_2 : decode cX0_has 2 = .ok (.if_icmp .gt 15, 3) := by decide +kernel
theorem dX0_has_5 : decode cX0_has 5 = .ok (.iload_n 1, 1) := by decide +kernel
theorem dX0_has_6 : decode cX0_has 6 = .ok (.aload_n 0, 1) := by decide +kernel
theorem dX0_has_7 : decode cX0_has 7 = .ok (.getfield 21, 3) := by decide +kernel
theorem dX0_has_10 : decode cX0_has 10 = .ok (.if_icmp .ge 7, 3) := by decide +kernel
theorem dX0_has_13 : decode cX0_has 13 = .ok (.iconst 1, 1) := by decide +kernel
theorem dX0_has_14 : decode cX0_has 14 = .ok (.goto 4, 3) := by decide +kernel
theorem dX0_has_17 : decode cX0_has 17 = .ok (.iconst 0, 1) := by decide +kernel
theorem dX0_has_18 : decode cX0_has 18 = .ok (.ireturn, 1) := by decide +kernel
theorem dX1_init_0 : decode cX1_init 0 = .ok (.aload_n 0, 1) := by decide +kernel
theorem dX1_init_1 : decode cX1_init 1 = .ok (.invokespecial 1, 3) := by decide +kernel
theorem dX1_init_4 : decode cX1_init 4 = .ok (.aload_n 0, 1) := by decide +kernel
theorem dX1_init_5 : decode cX1_init 5 = .ok (.iconst 0, 1) := by decide +kernel
theorem dX1_init_6 : decode cX1_init 6 = .ok (.putfield 7, 3) := by decide +kernel
theorem dX1_init_9 : decode cX1_init 9 = .ok (.aload_n 0, 1) := by decide +kernel
theorem dX1_init_10 : decode cX1_init 10 = .ok (.iconst 0, 1) := by decide +kernel
theorem dX1_init_11 : decode cX1_init 11 = .ok (.putfield 13, 3) := by decide +kernel
theorem dX1_init_14 : decode cX1_init 14 = .ok (.aload_n 0, 1) := by decide +kernel
theorem dX1_init_15 : decode cX1_init 15 = .ok (.ldc 18, 2) := by decide +kernel
theorem dX1_init_17 : decode cX1_init 17 = .ok (.putfield 19, 3) := by decide +kernel
theorem dX1_init_20 : decode cX1_init 20 = .ok (.aload_n 0, 1) := by decide +kernel
theorem dX1_init_21 : decode cX1_init 21 = .ok (.iload_n 1, 1) := by decide +kernel
theorem dX1_init_22 : decode cX1_init 22 = .ok (.putfield 22, 3) := by decide +kernel
theorem dX1_init_25 : decode cX1_init 25 = .ok (.aload_n 0, 1) := by decide +kernel
theorem dX1_init_26 : decode cX1_init 26 = .ok (.iload_n 2, 1) := by decide +kernel
theorem dX1_init_27 : decode cX1_init 27 = .ok (.putfield 25, 3) := by decide +kernel
theorem dX1_init_30 : decode cX1_init 30 = .ok (.aload_n 0, 1) := by decide +kernel
theorem dX1_init_31 : decode cX1_init 31 = .ok (.aload_n 3, 1) := by decide +kernel
theorem dX1_init_32 : decode cX1_init 32 = .ok (.putfield 28, 3) := by decide +kernel
theorem dX1_init_35 : decode cX1_init 35 = .ok (.return_, 1) := by decide +kernel
theorem dX1_gather_0 : decode cX1_gather 0 = .ok (.aload_n 0, 1) := by decide +kernel
theorem dX1_gather_1 : decode cX1_gather 1 = .ok (.dup, 1) := by decide +kernel
theorem dX1_gather_2 : decode cX1_gather 2 = .ok (.getfield 7, 3) := by decide +kernel
theorem dX1_gather_5 : decode cX1_gather 5 = .ok (.iload_n 1, 1) := by decide +kernel
theorem dX1_gather_6 : decode cX1_gather 6 = .ok (.iadd, 1) := by decide +kernel
theorem dX1_gather_7 : decode cX1_gather 7 = .ok (.putfield 7, 3) := by decide +kernel
theorem dX1_gather_10 : decode cX1_gather 10 = .ok (.aload_n 0, 1) := by decide +kernel
theorem dX1_gather_11 : decode cX1_gather 11 = .ok (.dup, 1) := by decide +kernel
theorem dX1_gather_12 : decode cX1_gather 12 = .ok (.getfield 13, 3) := by decide +kernel
theorem dX1_gather_15 : decode cX1_gather 15 = .ok (.iconst 1, 1) := by decide +kernel
theorem dX1_gather_16 : decode cX1_gather 16 = .ok (.iadd, 1) := by decide +kernel
theorem dX1_gather_17 : decode cX1_gather 17 = .ok (.putfield 13, 3) := by decide +kernel
theorem dX1_gather_20 : decode cX1_gather 20 = .ok (.aload_n 0, 1) := by decide +kernel
theorem dX1_gather_21 : decode cX1_gather 21 = .ok (.aload_n 0, 1) := by decide +kernel
theorem dX1_gather_22 : decode cX1_gather 22 = .ok (.getfield 19, 3) := by decide +kernel
theorem dX1_gather_25 : decode cX1_gather 25 = .ok (.iload_n 1, 1) := by decide +kernel
theorem dX1_gather_26 : decode cX1_gather 26 = .ok (.invokestatic 32, 3) := by decide +kernel
theorem dX1_gather_29 : decode cX1_gather 29 = .ok (.putfield 19, 3) := by decide +kernel
theorem dX1_gather_32 : decode cX1_gather 32 = .ok (.return_, 1) := by decide +kernel
theorem dX1_isBefore_0 : decode cX1_isBefore 0 = .ok (.aload_n 0, 1) := by decide +kernel
theorem dX1_isBefore_1 : decode cX1_isBefore 1 = .ok (.getfield 22, 3) := by decide +kernel
theorem dX1_isBefore_4 : decode cX1_isBefore 4 = .ok (.iload_n 1, 1) := by decide +kernel
theorem dX1_isBefore_5 : decode cX1_isBefore 5 = .ok (.if_icmp .lt 19, 3) := by decide +kernel
theorem dX1_isBefore_8 : decode cX1_isBefore 8 = .ok (.aload_n 0, 1) := by decide +kernel
theorem dX1_isBefore_9 : decode cX1_isBefore 9 = .ok (.getfield 22, 3) := by decide +kernel
theorem dX1_isBefore_12 : decode cX1_isBefore 12 = .ok (.iload_n 1, 1) := by decide +kernel
theorem dX1_isBefore_13 : decode cX1_isBefore 13 = .ok (.if_icmp .ne 15, 3) := by decide +kernel
theorem dX1_isBefore_16 : decode cX1_isBefore 16 = .ok (.aload_n 0, 1) := by decide +kernel
theorem dX1_isBefore_17 : decode cX1_isBefore 17 = .ok (.getfield 25, 3) := by decide +kernel
theorem dX1_isBefore_20 : decode cX1_isBefore 20 = .ok (.iload_n 2, 1) := by decide +kernel
theorem dX1_isBefore_21 : decode cX1_isBefore 21 = .ok (.if_icmp .ge 7, 3) := by decide +kernel
theorem dX1_isBefore_24 : decode cX1_isBefore 24 = .ok (.iconst 1, 1) := by decide +kernel
theorem dX1_isBefore_25 : decode cX1_isBefore 25 = .ok (.goto 4, 3) := by decide +kernel
theorem dX1_isBefore_28 : decode cX1_isBefore 28 = .ok (.iconst 0, 1) := by decide +kernel
theorem dX1_isBefore_29 : decode cX1_isBefore 29 = .ok (.ireturn, 1) := by decide +kernel
theorem dX1_isOf_0 : decode cX1_isOf 0 = .ok (.aload_n 0, 1) := by decide +kernel
theorem dX1_isOf_1 : decode cX1_isOf 1 = .ok (.getfield 22, 3) := by decide +kernel
theorem dX1_isOf_4 : decode cX1_isOf 4 = .ok (.iload_n 1, 1) := by decide +kernel
theorem dX1_isOf_5 : decode cX1_isOf 5 = .ok (.if_icmp .ne 15, 3) := by decide +kernel
theorem dX1_isOf_8 : decode cX1_isOf 8 = .ok (.aload_n 0, 1) := by decide +kernel
theorem dX1_isOf_9 : decode cX1_isOf 9 = .ok (.getfield 25, 3) := by decide +kernel
theorem dX1_isOf_12 : decode cX1_isOf 12 = .ok (.iload_n 2, 1) := by decide +kernel
theorem dX1_isOf_13 : decode cX1_isOf 13 = .ok (.if_icmp .ne 7, 3) := by decide +kernel
theorem dX1_isOf_16 : decode cX1_isOf 16 = .ok (.iconst 1, 1) := by decide +kernel
theorem dX1_isOf_17 : decode cX1_isOf 17 = .ok (.goto 4, 3) := by decide +kernel
theorem dX1_isOf_20 : decode cX1_isOf 20 = .ok (.iconst 0, 1) := by decide +kernel
theorem dX1_isOf_21 : decode cX1_isOf 21 = .ok (.ireturn, 1) := by decide +kernel
set_option maxRecDepth 20000 in
theorem ggX2_init_X1_init : GoodIn wsX2_init wsX1_init := goodIn_r _ [11, 12, 2, 3, 13, 14, 15, 16, 17, 18, 19, 20, 21, 22, 23, 24, 25] (by decide +kernel) (by decide +kernel)
set_option maxRecDepth 20000 in
theorem gX2_init_X1_init : GoodIn wsX2_init (wsX1_init) := ggX2_init_X1_init
theorem dX2_init_0 : decode cX2_init 0 = .ok (.aload_n 0, 1) := by decide +kernel
theorem dX2_init_1 : decode cX2_init 1 = .ok (.invokespecial 1, 3) := by decide +kernel
theorem dX2_init_4 : decode cX2_init 4 = .ok (.aload_n 0, 1) := by decide +kernel
theorem dX2_init_5 : decode cX2_init 5 = .ok (.new 7, 3) := by decide +kernel
theorem dX2_init_8 : decode cX2_init 8 = .ok (.dup, 1) := by decide +kernel
theorem dX2_init_9 : decode cX2_init 9 = .ok (.ldc 11, 2) := by decide +kernel
theorem dX2_init_11 : decode cX2_init 11 = .ok (.ldc 11, 2) := by decide +kernel
theorem dX2_init_13 : decode cX2_init 13 = .ok (.aconst_null, 1) := by decide +kernel
theorem dX2_init_14 : decode cX2_init 14 = .ok (.invokespecial 12, 3) := by decide +kernel
theorem dX2_init_17 : decode cX2_init 17 = .ok (.putfield 15, 3) := by decide +kernel
theorem dX2_init_20 : decode cX2_init 20 = .ok (.return_, 1) := by decide +kernel
theorem dX2_clear_0 : decode cX2_clear 0 = .ok (.aload_n 0, 1) := by decide +kernel
theorem dX2_clear_1 : decode cX2_clear 1 = .ok (.getfield 15, 3) := by decide +kernel
theorem dX2_clear_4 : decode cX2_clear 4 = .ok (.aconst_null, 1) := by decide +kernel
theorem dX2_clear_5 : decode cX2_clear 5 = .ok (.putfield 21, 3) := by decide +kernel
theorem dX2_clear_8 : decode cX2_clear 8 = .ok (.return_, 1) := by decide +kernel
theorem dX2_head_0 : decode cX2_head 0 = .ok (.aload_n 0, 1) := by decide +kernel
theorem dX2_head_1 : decode cX2_head 1 = .ok (.getfield 15, 3) := by decide +kernel
theorem dX2_head_4 : decode cX2_head 4 = .ok (.areturn, 1) := by decide +kernel
set_option maxRecDepth 20000 in
theorem ggX2_find_X2_lastBefore : GoodIn wsX2_find wsX2_lastBefore := goodIn_r _ [5, 6, 7, 8, 9, 10, 11, 12, 18, 19, 20, 21, 22, 23] (by decide +kernel) (by decide +kernel)
set_option maxRecDepth 20000 in
theorem gX2_find_X2_lastBefore : GoodIn wsX2_find (va_wsS RX2 24 yX2_lastBefore wsX2_lastBefore) := goodIn_app (goodIn_of _ (by decide +kernel)) ggX2_find_X2_lastBefore
set_option maxRecDepth 20000 in
theorem ggX2_find_X1_isOf : GoodIn wsX2_find wsX1_isOf := goodIn_r _ [16, 11, 12, 18, 19, 20, 21, 22, 23] (by decide +kernel) (by decide +kernel)
set_option maxRecDepth 20000 in
theorem gX2_find_X1_isOf : GoodIn wsX2_find (wsV RX2 28 RX1 yX1_isOf wsX1_isOf) := goodIn_app (goodIn_of _ (by decide +kernel)) ggX2_find_X1_isOf
theorem dX2_find_0 : decode cX2_find 0 = .ok (.aload_n 0, 1) := by decide +kernel
theorem dX2_find_1 : decode cX2_find 1 = .ok (.getfield 15, 3) := by decide +kernel
theorem dX2_find_4 : decode cX2_find 4 = .ok (.iload_n 1, 1) := by decide +kernel
theorem dX2_find_5 : decode cX2_find 5 = .ok (.iload_n 2, 1) := by decide +kernel
theorem dX2_find_6 : decode cX2_find 6 = .ok (.invokestatic 24, 3) := by decide +kernel
theorem dX2_find_9 : decode cX2_find 9 = .ok (.getfield 21, 3) := by decide +kernel
theorem dX2_find_12 : decode cX2_find 12 = .ok (.astore_n 3, 1) := by decide +kernel
theorem dX2_find_13 : decode cX2_find 13 = .ok (.aload_n 3, 1) := by decide +kernel
theorem dX2_find_14 : decode cX2_find 14 = .ok (.ifnull 16, 3) := by decide +kernel
theorem dX2_find_17 : decode cX2_find 17 = .ok (.aload_n 3, 1) := by decide +kernel
theorem dX2_find_18 : decode cX2_find 18 = .ok (.iload_n 1, 1) := by decide +kernel
theorem dX2_find_19 : decode cX2_find 19 = .ok (.iload_n 2, 1) := by decide +kernel
theorem dX2_find_20 : decode cX2_find 20 = .ok (.invokevirtual 28, 3) := by decide +kernel
theorem dX2_find_23 : decode cX2_find 23 = .ok (.ifCond .eq 7, 3) := by decide +kernel
theorem dX2_find_26 : decode cX2_find 26 = .ok (.aload_n 3, 1) := by decide +kernel
theorem dX2_find_27 : decode cX2_find 27 = .ok (.goto 4, 3) := by decide +kernel
theorem dX2_find_30 : decode cX2_find 30 = .ok (.aconst_null, 1) := by decide +kernel
theorem dX2_find_31 : decode cX2_find 31 = .ok (.areturn, 1) := by decide +kernel
set_option maxRecDepth 20000 in
theorem ggX2_placeFrom_X2_lastBefore : GoodIn wsX2_placeFrom wsX2_lastBefore := goodIn_r _ [7, 8, 9, 10, 3, 11, 12, 13, 29, 30, 31, 32, 33, 34] (by decide +kernel) (by decide +kernel)
set_option maxRecDepth 20000 in
theorem gX2_placeFrom_X2_lastBefore : GoodIn wsX2_placeFrom (va_wsS RX2 24 yX2_lastBefore wsX2_lastBefore) := goodIn_app (goodIn_of _ (by decide +kernel)) ggX2_placeFrom_X2_lastBefore
set_option maxRecDepth 20000 in
theorem ggX2_placeFrom_X1_isOf : GoodIn wsX2_placeFrom wsX1_isOf := goodIn_r _ [17, 12, 13, 29, 30, 31, 32, 33, 34] (by decide +kernel) (by decide +kernel)
set_option maxRecDepth 20000 in
theorem gX2_placeFrom_X1_isOf : GoodIn wsX2_placeFrom (wsV RX2 28 RX1 yX1_isOf wsX1_isOf) := goodIn_app (goodIn_of _ (by decide +kernel)) ggX2_placeFrom_X1_isOf
set_option maxRecDepth 20000 in
theorem ggX2_placeFrom_X1_init : GoodIn wsX2_placeFrom wsX1_init := goodIn_r _ [20, 21, 22, 23, 24, 25, 26, 27, 12, 13, 28, 29, 30, 31, 32, 33, 34] (by decide +kernel) (by decide +kernel)
set_option maxRecDepth 20000 in
theorem gX2_placeFrom_X1_init : GoodIn wsX2_placeFrom (wsX1_init) := ggX2_placeFrom_X1_init
theorem dX2_placeFrom_0 : decode cX2_placeFrom 0 = .ok (.aload_n 1, 1) := by decide +kernel
theorem dX2_placeFrom_1 : decode cX2_placeFrom 1 = .ok (.iload_n 2, 1) := by decide +kernel
theorem dX2_placeFrom_2 : decode cX2_placeFrom 2 = .ok (.iload_n 3, 1) := by decide +kernel
theorem dX2_placeFrom_3 : decode cX2_placeFrom 3 = .ok (.invokestatic 24, 3) := by decide +kernel
theorem dX2_placeFrom_6 : decode cX2_placeFrom 6 = .ok (.astore 4, 2) := by decide +kernel
theorem dX2_placeFrom_8 : decode cX2_placeFrom 8 = .ok (.aload 4, 2) := by decide +kernel
theorem dX2_placeFrom_10 : decode cX2_placeFrom 10 = .ok (.getfield 21, 3) := by decide +kernel
theorem dX2_placeFrom_13 : decode cX2_placeFrom 13 = .ok (.astore 5, 2) := by decide +kernel
theorem dX2_placeFrom_15 : decode cX2_placeFrom 15 = .ok (.aload 5, 2) := by decide +kernel
theorem dX2_placeFrom_17 : decode cX2_placeFrom 17 = .ok (.ifnull 13, 3) := by decide +kernel
theorem dX2_placeFrom_20 : decode cX2_placeFrom 20 = .ok (.aload 5, 2) := by decide +kernel
theorem dX2_placeFrom_22 : decode cX2_placeFrom 22 = .ok (.iload_n 2, 1) := by decide +kernel
theorem dX2_placeFrom_23 : decode cX2_placeFrom 23 = .ok (.iload_n 3, 1) := by decide +kernel
theorem dX2_placeFrom_24 : decode cX2_placeFrom 24 = .ok (.invokevirtual 28, 3) := by decide +kernel
theorem dX2_placeFrom_27 : decode cX2_placeFrom 27 = .ok (.ifCond .ne 23, 3) := by decide +kernel
theorem dX2_placeFrom_30 : decode cX2_placeFrom 30 = .ok (.new 7, 3) := by decide +kernel
theorem dX2_placeFrom_33 : decode cX2_placeFrom 33 = .ok (.dup, 1) := by decide +kernel
theorem dX2_placeFrom_34 : decode cX2_placeFrom 34 = .ok (.iload_n 2, 1) := by decide +kernel
theorem dX2_placeFrom_35 : decode cX2_placeFrom 35 = .ok (.iload_n 3, 1) := by decide +kernel
theorem dX2_placeFrom_36 : decode cX2_placeFrom 36 = .ok (.aload 5, 2) := by decide +kernel
theorem dX2_placeFrom_38 : decode cX2_placeFrom 38 = .ok (.invokespecial 12, 3) := by decide +kernel
theorem dX2_placeFrom_41 : decode cX2_placeFrom 41 = .ok (.astore 5, 2) := by decide +kernel
theorem dX2_placeFrom_43 : decode cX2_placeFrom 43 = .ok (.aload 4, 2) := by decide +kernel
theorem dX2_placeFrom_45 : decode cX2_placeFrom 45 = .ok (.aload 5, 2) := by decide +kernel
theorem dX2_placeFrom_47 : decode cX2_placeFrom 47 = .ok (.putfield 21, 3) := by decide +kernel
theorem dX2_placeFrom_50 : decode cX2_placeFrom 50 = .ok (.aload 5, 2) := by decide +kernel
theorem dX2_placeFrom_52 : decode cX2_placeFrom 52 = .ok (.areturn, 1) := by decide +kernel
theorem dX2_manyUpTo_0 : decode cX2_manyUpTo 0 = .ok (.iconst 0, 1) := by decide +kernel
theorem dX2_manyUpTo_1 : decode cX2_manyUpTo 1 = .ok (.istore_n 2, 1) := by decide +kernel
theorem dX2_manyUpTo_2 : decode cX2_manyUpTo 2 = .ok (.aload_n 0, 1) := by decide +kernel
theorem dX2_manyUpTo_3 : decode cX2_manyUpTo 3 = .ok (.getfield 15, 3) := by decide +kernel
theorem dX2_manyUpTo_6 : decode cX2_manyUpTo 6 = .ok (.getfield 21, 3) := by decide +kernel
theorem dX2_manyUpTo_9 : decode cX2_manyUpTo 9 = .ok (.astore_n 3, 1) := by decide +kernel
theorem dX2_manyUpTo_10 : decode cX2_manyUpTo 10 = .ok (.aload_n 3, 1) := by decide +kernel
theorem dX2_manyUpTo_11 : decode cX2_manyUpTo 11 = .ok (.ifnull 22, 3) := by decide +kernel
theorem dX2_manyUpTo_14 : decode cX2_manyUpTo 14 = .ok (.aload_n 3, 1) := by decide +kernel
theorem dX2_manyUpTo_15 : decode cX2_manyUpTo 15 = .ok (.getfield 32, 3) := by decide +kernel
theorem dX2_manyUpTo_18 : decode cX2_manyUpTo 18 = .ok (.iload_n 1, 1) := by decide +kernel
theorem dX2_manyUpTo_19 : decode cX2_manyUpTo 19 = .ok (.if_icmp .gt 14, 3) := by decide +kernel
theorem dX2_manyUpTo_22 : decode cX2_manyUpTo 22 = .ok (.iinc 2 1, 3) := by decide +kernel
theorem dX2_manyUpTo_25 : decode cX2_manyUpTo 25 = .ok (.aload_n 3, 1) := by decide +kernel
theorem dX2_manyUpTo_26 : decode cX2_manyUpTo 26 = .ok (.getfield 21, 3) := by decide +kernel
theorem dX2_manyUpTo_29 : decode cX2_manyUpTo 29 = .ok (.astore_n 3, 1) := by decide +kernel
theorem dX2_manyUpTo_30 : decode cX2_manyUpTo 30 = .ok (.goto (-20), 3) := by decide +kernel
theorem dX2_manyUpTo_33 : decode cX2_manyUpTo 33 = .ok (.iload_n 2, 1) := by decide +kernel
theorem dX2_manyUpTo_34 : decode cX2_manyUpTo 34 = .ok (.ireturn, 1) := by decide +kernel
theorem dX2_windowsUpTo_0 : decode cX2_windowsUpTo 0 = .ok (.iconst 0, 1) := by decide +kernel
theorem dX2_windowsUpTo_1 : decode cX2_windowsUpTo 1 = .ok (.istore_n 2, 1) := by decide +kernel
theorem dX2_windowsUpTo_2 : decode cX2_windowsUpTo 2 = .ok (.aload_n 0, 1) := by decide +kernel
theorem dX2_windowsUpTo_3 : decode cX2_windowsUpTo 3 = .ok (.getfield 15, 3) := by decide +kernel
theorem dX2_windowsUpTo_6 : decode cX2_windowsUpTo 6 = .ok (.astore_n 3, 1) := by decide +kernel
theorem dX2_windowsUpTo_7 : decode cX2_windowsUpTo 7 = .ok (.aload_n 0, 1) := by decide +kernel
theorem dX2_windowsUpTo_8 : decode cX2_windowsUpTo 8 = .ok (.getfield 15, 3) := by decide +kernel
theorem dX2_windowsUpTo_11 : decode cX2_windowsUpTo 11 = .ok (.getfield 21, 3) := by decide +kernel
theorem dX2_windowsUpTo_14 : decode cX2_windowsUpTo 14 = .ok (.astore 4, 2) := by decide +kernel
theorem dX2_windowsUpTo_16 : decode cX2_windowsUpTo 16 = .ok (.aload 4, 2) := by decide +kernel
theorem dX2_windowsUpTo_18 : decode cX2_windowsUpTo 18 = .ok (.ifnull 40, 3) := by decide +kernel
theorem dX2_windowsUpTo_21 : decode cX2_windowsUpTo 21 = .ok (.aload 4, 2) := by decide +kernel
theorem dX2_windowsUpTo_23 : decode cX2_windowsUpTo 23 = .ok (.getfield 32, 3) := by decide +kernel
theorem dX2_windowsUpTo_26 : decode cX2_windowsUpTo 26 = .ok (.iload_n 1, 1) := by decide +kernel
theorem dX2_windowsUpTo_27 : decode cX2_windowsUpTo 27 = .ok (.if_icmp .gt 31, 3) := by decide +kernel
theorem dX2_windowsUpTo_30 : decode cX2_windowsUpTo 30 = .ok (.aload_n 3, 1) := by decide +kernel
theorem dX2_windowsUpTo_31 : decode cX2_windowsUpTo 31 = .ok (.getfield 32, 3) := by decide +kernel
theorem dX2_windowsUpTo_34 : decode cX2_windowsUpTo 34 = .ok (.aload 4, 2) := by decide +kernel
theorem dX2_windowsUpTo_36 : decode cX2_windowsUpTo 36 = .ok (.getfield 32, 3) := by decide +kernel
theorem dX2_windowsUpTo_39 : decode cX2_windowsUpTo 39 = .ok (.if_icmp .eq 6, 3) := by decide +kernel
theorem dX2_windowsUpTo_42 : decode cX2_windowsUpTo 42 = .ok (.iinc 2 1, 3) := by decide +kernel
theorem dX2_windowsUpTo_45 : decode cX2_windowsUpTo 45 = .ok (.aload 4, 2) := by decide +kernel
theorem dX2_windowsUpTo_47 : decode cX2_windowsUpTo 47 = .ok (.astore_n 3, 1) := by decide +kernel
theorem dX2_windowsUpTo_48 : decode cX2_windowsUpTo 48 = .ok (.aload 4, 2) := by decide +kernel
theorem dX2_windowsUpTo_50 : decode cX2_windowsUpTo 50 = .ok (.getfield 21, 3) := by decide +kernel
theorem dX2_windowsUpTo_53 : decode cX2_windowsUpTo 53 = .ok (.astore 4, 2) := by decide +kernel
theorem dX2_windowsUpTo_55 : decode cX2_windowsUpTo 55 = .ok (.goto (-39), 3) := by decide +kernel
theorem dX2_windowsUpTo_58 : decode cX2_windowsUpTo 58 = .ok (.iload_n 2, 1) := by decide +kernel
theorem dX2_windowsUpTo_59 : decode cX2_windowsUpTo 59 = .ok (.ireturn, 1) := by decide +kernel
theorem dX2_takeFirst_0 : decode cX2_takeFirst 0 = .ok (.aload_n 0, 1) := by decide +kernel
theorem dX2_takeFirst_1 : decode cX2_takeFirst 1 = .ok (.getfield 15, 3) := by decide +kernel
theorem dX2_takeFirst_4 : decode cX2_takeFirst 4 = .ok (.getfield 21, 3) := by decide +kernel
theorem dX2_takeFirst_7 : decode cX2_takeFirst 7 = .ok (.astore_n 1, 1) := by decide +kernel
theorem dX2_takeFirst_8 : decode cX2_takeFirst 8 = .ok (.aload_n 1, 1) := by decide +kernel
theorem dX2_takeFirst_9 : decode cX2_takeFirst 9 = .ok (.ifnull 14, 3) := by decide +kernel
theorem dX2_takeFirst_12 : decode cX2_takeFirst 12 = .ok (.aload_n 0, 1) := by decide +kernel
theorem dX2_takeFirst_13 : decode cX2_takeFirst 13 = .ok (.getfield 15, 3) := by decide +kernel
theorem dX2_takeFirst_16 : decode cX2_takeFirst 16 = .ok (.aload_n 1, 1) := by decide +kernel
theorem dX2_takeFirst_17 : decode cX2_takeFirst 17 = .ok (.getfield 21, 3) := by decide +kernel
theorem dX2_takeFirst_20 : decode cX2_takeFirst 20 = .ok (.putfield 21, 3) := by decide +kernel
theorem dX2_takeFirst_23 : decode cX2_takeFirst 23 = .ok (.aload_n 1, 1) := by decide +kernel
theorem dX2_takeFirst_24 : decode cX2_takeFirst 24 = .ok (.areturn, 1) := by decide +kernel
set_option maxRecDepth 20000 in
theorem ggX2_lastBefore_X1_isBefore : GoodIn wsX2_lastBefore wsX1_isBefore := goodIn_r _ [5, 6, 7, 8, 9, 10, 11, 12, 13] (by decide +kernel) (by decide +kernel)
set_option maxRecDepth 20000 in
theorem gX2_lastBefore_X1_isBefore : GoodIn wsX2_lastBefore (wsV RX2 36 RX1 yX1_isBefore wsX1_isBefore) := goodIn_app (goodIn_of _ (by decide +kernel)) ggX2_lastBefore_X1_isBefore
theorem dX2_lastBefore_0 : decode cX2_lastBefore 0 = .ok (.aload_n 0, 1) := by decide +kernel
theorem dX2_lastBefore_1 : decode cX2_lastBefore 1 = .ok (.astore_n 3, 1) := by decide +kernel
theorem dX2_lastBefore_2 : decode cX2_lastBefore 2 = .ok (.aload_n 3, 1) := by decide +kernel
theorem dX2_lastBefore_3 : decode cX2_lastBefore 3 = .ok (.getfield 21, 3) := by decide +kernel
theorem dX2_lastBefore_6 : decode cX2_lastBefore 6 = .ok (.ifnull 23, 3) := by decide +kernel
theorem dX2_lastBefore_9 : decode cX2_lastBefore 9 = .ok (.aload_n 3, 1) := by decide +kernel
theorem dX2_lastBefore_10 : decode cX2_lastBefore 10 = .ok (.getfield 21, 3) := by decide +kernel
theorem dX2_lastBefore_13 : decode cX2_lastBefore 13 = .ok (.iload_n 1, 1) := by decide +kernel
theorem dX2_lastBefore_14 : decode cX2_lastBefore 14 = .ok (.iload_n 2, 1) := by decide +kernel
theorem dX2_lastBefore_15 : decode cX2_lastBefore 15 = .ok (.invokevirtual 36, 3) := by decide +kernel
theorem dX2_lastBefore_18 : decode cX2_lastBefore 18 = .ok (.ifCond .eq 11, 3) := by decide +kernel
theorem dX2_lastBefore_21 : decode cX2_lastBefore 21 = .ok (.aload_n 3, 1) := by decide +kernel
theorem dX2_lastBefore_22 : decode cX2_lastBefore 22 = .ok (.getfield 21, 3) := by decide +kernel
theorem dX2_lastBefore_25 : decode cX2_lastBefore 25 = .ok (.astore_n 3, 1) := by decide +kernel
theorem dX2_lastBefore_26 : decode cX2_lastBefore 26 = .ok (.goto (-24), 3) := by decide +kernel
theorem dX2_lastBefore_29 : decode cX2_lastBefore 29 = .ok (.aload_n 3, 1) := by decide +kernel
theorem dX2_lastBefore_30 : decode cX2_lastBefore 30 = .ok (.areturn, 1) := by decide +kernel
theorem dX3_init_0 : decode cX3_init 0 = .ok (.aload_n 0, 1) := by decide +kernel
theorem dX3_init_1 : decode cX3_init 1 = .ok (.invokespecial 3, 3) := by decide +kernel
theorem dX3_init_4 : decode cX3_init 4 = .ok (.aload_n 0, 1) := by decide +kernel
theorem dX3_init_5 : decode cX3_init 5 = .ok (.sipush 2400, 3) := by decide +kernel
theorem dX3_init_8 : decode cX3_init 8 = .ok (.newarray .int, 2) := by decide +kernel
theorem dX3_init_10 : decode cX3_init 10 = .ok (.putfield 11, 3) := by decide +kernel
theorem dX3_init_13 : decode cX3_init 13 = .ok (.aload_n 0, 1) := by decide +kernel
theorem dX3_init_14 : decode cX3_init 14 = .ok (.iconst 0, 1) := by decide +kernel
theorem dX3_init_15 : decode cX3_init 15 = .ok (.putfield 15, 3) := by decide +kernel
theorem dX3_init_18 : decode cX3_init 18 = .ok (.aload_n 0, 1) := by decide +kernel
theorem dX3_init_19 : decode cX3_init 19 = .ok (.iconst 0, 1) := by decide +kernel
theorem dX3_init_20 : decode cX3_init 20 = .ok (.putfield 19, 3) := by decide +kernel
theorem dX3_init_23 : decode cX3_init 23 = .ok (.return_, 1) := by decide +kernel
theorem dX3_clear_0 : decode cX3_clear 0 = .ok (.aload_n 0, 1) := by decide +kernel
theorem dX3_clear_1 : decode cX3_clear 1 = .ok (.iconst 0, 1) := by decide +kernel
theorem dX3_clear_2 : decode cX3_clear 2 = .ok (.putfield 15, 3) := by decide +kernel
theorem dX3_clear_5 : decode cX3_clear 5 = .ok (.aload_n 0, 1) := by decide +kernel
theorem dX3_clear_6 : decode cX3_clear 6 = .ok (.iconst 0, 1) := by decide +kernel
theorem dX3_clear_7 : decode cX3_clear 7 = .ok (.putfield 19, 3) := by decide +kernel
theorem dX3_clear_10 : decode cX3_clear 10 = .ok (.return_, 1) := by decide +kernel
theorem dX3_size_0 : decode cX3_size 0 = .ok (.aload_n 0, 1) := by decide +kernel
theorem dX3_size_1 : decode cX3_size 1 = .ok (.getfield 19, 3) := by decide +kernel
theorem dX3_size_4 : decode cX3_size 4 = .ok (.ireturn, 1) := by decide +kernel
set_option maxRecDepth 20000 in
theorem ggX3_cell_X4_isWithin : GoodIn wsX3_cell wsX4_isWithin := goodIn_r _ [5] (by decide +kernel) (by decide +kernel)
set_option maxRecDepth 20000 in
theorem gX3_cell_X4_isWithin_n22 : GoodIn wsX3_cell (wsX4_isWithin) := ggX3_cell_X4_isWithin
set_option maxRecDepth 20000 in
theorem ggX3_cell_X3_rowOf : GoodIn wsX3_cell wsX3_rowOf := goodIn_r _ [10, 11, 12, 13, 14] (by decide +kernel) (by decide +kernel)
set_option maxRecDepth 20000 in
theorem gX3_cell_X3_rowOf : GoodIn wsX3_cell (wsV RX3 26 RX3 yX3_rowOf wsX3_rowOf) := goodIn_app (goodIn_of _ (by decide +kernel)) ggX3_cell_X3_rowOf
theorem dX3_cell_0 : decode cX3_cell 0 = .ok (.iload_n 1, 1) := by decide +kernel
theorem dX3_cell_1 : decode cX3_cell 1 = .ok (.iconst 0, 1) := by decide +kernel
theorem dX3_cell_2 : decode cX3_cell 2 = .ok (.aload_n 0, 1) := by decide +kernel
theorem dX3_cell_3 : decode cX3_cell 3 = .ok (.getfield 19, 3) := by decide +kernel
theorem dX3_cell_6 : decode cX3_cell 6 = .ok (.iconst 1, 1) := by decide +kernel
theorem dX3_cell_7 : decode cX3_cell 7 = .ok (.isub, 1) := by decide +kernel
theorem dX3_cell_8 : decode cX3_cell 8 = .ok (.invokestatic 22, 3) := by decide +kernel
theorem dX3_cell_11 : decode cX3_cell 11 = .ok (.ifCond .eq 16, 3) := by decide +kernel
theorem dX3_cell_14 : decode cX3_cell 14 = .ok (.iload_n 2, 1) := by decide +kernel
theorem dX3_cell_15 : decode cX3_cell 15 = .ok (.iconst 0, 1) := by decide +kernel
theorem dX3_cell_16 : decode cX3_cell 16 = .ok (.iconst 5, 1) := by decide +kernel
theorem dX3_cell_17 : decode cX3_cell 17 = .ok (.invokestatic 22, 3) := by decide +kernel
theorem dX3_cell_20 : decode cX3_cell 20 = .ok (.ifCond .eq 7, 3) := by decide +kernel
theorem dX3_cell_23 : decode cX3_cell 23 = .ok (.iconst 1, 1) := by decide +kernel
theorem dX3_cell_24 : decode cX3_cell 24 = .ok (.goto 4, 3) := by decide +kernel
theorem dX3_cell_27 : decode cX3_cell 27 = .ok (.iconst 0, 1) := by decide +kernel
theorem dX3_cell_28 : decode cX3_cell 28 = .ok (.istore_n 3, 1) := by decide +kernel
theorem dX3_cell_29 : decode cX3_cell 29 = .ok (.iload_n 3, 1) := by decide +kernel
theorem dX3_cell_30 : decode cX3_cell 30 = .ok (.ifCond .eq 18, 3) := by decide +kernel
theorem dX3_cell_33 : decode cX3_cell 33 = .ok (.aload_n 0, 1) := by decide +kernel
theorem dX3_cell_34 : decode cX3_cell 34 = .ok (.getfield 11, 3) := by decide +kernel
theorem dX3_cell_37 : decode cX3_cell 37 = .ok (.aload_n 0, 1) := by decide +kernel
theorem dX3_cell_38 : decode cX3_cell 38 = .ok (.iload_n 1, 1) := by decide +kernel
theorem dX3_cell_39 : decode cX3_cell 39 = .ok (.invokevirtual 26, 3) := by decide +kernel
theorem dX3_cell_42 : decode cX3_cell 42 = .ok (.iload_n 2, 1) := by decide +kernel
theorem dX3_cell_43 : decode cX3_cell 43 = .ok (.iadd, 1) := by decide +kernel
theorem dX3_cell_44 : decode cX3_cell 44 = .ok (.iaload, 1) := by decide +kernel
theorem dX3_cell_45 : decode cX3_cell 45 = .ok (.goto 4, 3) := by decide +kernel
theorem dX3_cell_48 : decode cX3_cell 48 = .ok (.iconst 0, 1) := by decide +kernel
theorem dX3_cell_49 : decode cX3_cell 49 = .ok (.ireturn, 1) := by decide +kernel
set_option maxRecDepth 20000 in
theorem ggX3_add_X3_rowOf : GoodIn wsX3_add wsX3_rowOf := goodIn_r _ [7, 8, 9, 10, 11] (by decide +kernel) (by decide +kernel)
set_option maxRecDepth 20000 in
theorem gX3_add_X3_rowOf : GoodIn wsX3_add (wsV RX3 26 RX3 yX3_rowOf wsX3_rowOf) := goodIn_app (goodIn_of _ (by decide +kernel)) ggX3_add_X3_rowOf
theorem dX3_add_0 : decode cX3_add 0 = .ok (.aload_n 0, 1) := by decide +kernel
theorem dX3_add_1 : decode cX3_add 1 = .ok (.getfield 19, 3) := by decide +kernel
theorem dX3_add_4 : decode cX3_add 4 = .ok (.sipush 400, 3) := by decide +kernel
theorem dX3_add_7 : decode cX3_add 7 = .ok (.if_icmp .lt 4, 3) := by decide +kernel
theorem dX3_add_10 : decode cX3_add 10 = .ok (.return_, 1) := by decide +kernel
theorem dX3_add_11 : decode cX3_add 11 = .ok (.aload_n 0, 1) := by decide +kernel
theorem dX3_add_12 : decode cX3_add 12 = .ok (.aload_n 0, 1) := by decide +kernel
theorem dX3_add_13 : decode cX3_add 13 = .ok (.getfield 19, 3) := by decide +kernel
theorem dX3_add_16 : decode cX3_add 16 = .ok (.invokevirtual 26, 3) := by decide +kernel
theorem dX3_add_19 : decode cX3_add 19 = .ok (.istore 7, 2) := by decide +kernel
theorem dX3_add_21 : decode cX3_add 21 = .ok (.aload_n 0, 1) := by decide +kernel
theorem dX3_add_22 : decode cX3_add 22 = .ok (.getfield 11, 3) := by decide +kernel
theorem dX3_add_25 : decode cX3_add 25 = .ok (.iload 7, 2) := by decide +kernel
theorem dX3_add_27 : decode cX3_add 27 = .ok (.iload_n 1, 1) := by decide +kernel
theorem dX3_add_28 : decode cX3_add 28 = .ok (.iastore, 1) := by decide +kernel
theorem dX3_add_29 : decode cX3_add 29 = .ok (.aload_n 0, 1) := by decide +kernel
theorem dX3_add_30 : decode cX3_add 30 = .ok (.getfield 11, 3) := by decide +kernel
theorem dX3_add_33 : decode cX3_add 33 = .ok (.iload 7, 2) := by decide +kernel
theorem dX3_add_35 : decode cX3_add 35 = .ok (.iconst 1, 1) := by decide +kernel
theorem dX3_add_36 : decode cX3_add 36 = .ok (.iadd, 1) := by decide +kernel
theorem dX3_add_37 : decode cX3_add 37 = .ok (.iload_n 2, 1) := by decide +kernel
theorem dX3_add_38 : decode cX3_add 38 = .ok (.iastore, 1) := by decide +kernel
theorem dX3_add_39 : decode cX3_add 39 = .ok (.aload_n 0, 1) := by decide +kernel
theorem dX3_add_40 : decode cX3_add 40 = .ok (.getfield 11, 3) := by decide +kernel
theorem dX3_add_43 : decode cX3_add 43 = .ok (.iload 7, 2) := by decide +kernel
theorem dX3_add_45 : decode cX3_add 45 = .ok (.iconst 2, 1) := by decide +kernel
theorem dX3_add_46 : decode cX3_add 46 = .ok (.iadd, 1) := by decide +kernel
theorem dX3_add_47 : decode cX3_add 47 = .ok (.iload_n 3, 1) := by decide +kernel
theorem dX3_add_48 : decode cX3_add 48 = .ok (.iastore, 1) := by decide +kernel
theorem dX3_add_49 : decode cX3_add 49 = .ok (.aload_n 0, 1) := by decide +kernel
theorem dX3_add_50 : decode cX3_add 50 = .ok (.getfield 11, 3) := by decide +kernel
theorem dX3_add_53 : decode cX3_add 53 = .ok (.iload 7, 2) := by decide +kernel
theorem dX3_add_55 : decode cX3_add 55 = .ok (.iconst 3, 1) := by decide +kernel
theorem dX3_add_56 : decode cX3_add 56 = .ok (.iadd, 1) := by decide +kernel
theorem dX3_add_57 : decode cX3_add 57 = .ok (.iload 4, 2) := by decide +kernel
theorem dX3_add_59 : decode cX3_add 59 = .ok (.iastore, 1) := by decide +kernel
theorem dX3_add_60 : decode cX3_add 60 = .ok (.aload_n 0, 1) := by decide +kernel
theorem dX3_add_61 : decode cX3_add 61 = .ok (.getfield 11, 3) := by decide +kernel
theorem dX3_add_64 : decode cX3_add 64 = .ok (.iload 7, 2) := by decide +kernel
theorem dX3_add_66 : decode cX3_add 66 = .ok (.iconst 4, 1) := by decide +kernel
theorem dX3_add_67 : decode cX3_add 67 = .ok (.iadd, 1) := by decide +kernel
theorem dX3_add_68 : decode cX3_add 68 = .ok (.iload 5, 2) := by decide +kernel
theorem dX3_add_70 : decode cX3_add 70 = .ok (.iastore, 1) := by decide +kernel
theorem dX3_add_71 : decode cX3_add 71 = .ok (.aload_n 0, 1) := by decide +kernel
theorem dX3_add_72 : decode cX3_add 72 = .ok (.getfield 11, 3) := by decide +kernel
theorem dX3_add_75 : decode cX3_add 75 = .ok (.iload 7, 2) := by decide +kernel
theorem dX3_add_77 : decode cX3_add 77 = .ok (.iconst 5, 1) := by decide +kernel
theorem dX3_add_78 : decode cX3_add 78 = .ok (.iadd, 1) := by decide +kernel
theorem dX3_add_79 : decode cX3_add 79 = .ok (.iload 6, 2) := by decide +kernel
theorem dX3_add_81 : decode cX3_add 81 = .ok (.iastore, 1) := by decide +kernel
theorem dX3_add_82 : decode cX3_add 82 = .ok (.aload_n 0, 1) := by decide +kernel
theorem dX3_add_83 : decode cX3_add 83 = .ok (.dup, 1) := by decide +kernel
theorem dX3_add_84 : decode cX3_add 84 = .ok (.getfield 19, 3) := by decide +kernel
theorem dX3_add_87 : decode cX3_add 87 = .ok (.iconst 1, 1) := by decide +kernel
theorem dX3_add_88 : decode cX3_add 88 = .ok (.iadd, 1) := by decide +kernel
theorem dX3_add_89 : decode cX3_add 89 = .ok (.putfield 19, 3) := by decide +kernel
theorem dX3_add_92 : decode cX3_add 92 = .ok (.return_, 1) := by decide +kernel
theorem dX3_dropFirst_0 : decode cX3_dropFirst 0 = .ok (.aload_n 0, 1) := by decide +kernel
theorem dX3_dropFirst_1 : decode cX3_dropFirst 1 = .ok (.getfield 19, 3) := by decide +kernel
theorem dX3_dropFirst_4 : decode cX3_dropFirst 4 = .ok (.ifCond .ne 5, 3) := by decide +kernel
theorem dX3_dropFirst_7 : decode cX3_dropFirst 7 = .ok (.iconst 0, 1) := by decide +kernel
theorem dX3_dropFirst_8 : decode cX3_dropFirst 8 = .ok (.ireturn, 1) := by decide +kernel
theorem dX3_dropFirst_9 : decode cX3_dropFirst 9 = .ok (.aload_n 0, 1) := by decide +kernel
theorem dX3_dropFirst_10 : decode cX3_dropFirst 10 = .ok (.aload_n 0, 1) := by decide +kernel
theorem dX3_dropFirst_11 : decode cX3_dropFirst 11 = .ok (.getfield 15, 3) := by decide +kernel
theorem dX3_dropFirst_14 : decode cX3_dropFirst 14 = .ok (.iconst 1, 1) := by decide +kernel
theorem dX3_dropFirst_15 : decode cX3_dropFirst 15 = .ok (.iadd, 1) := by decide +kernel
theorem dX3_dropFirst_16 : decode cX3_dropFirst 16 = .ok (.sipush 400, 3) := by decide +kernel
theorem dX3_dropFirst_19 : decode cX3_dropFirst 19 = .ok (.irem, 1) := by decide +kernel
theorem dX3_dropFirst_20 : decode cX3_dropFirst 20 = .ok (.putfield 15, 3) := by decide +kernel
theorem dX3_dropFirst_23 : decode cX3_dropFirst 23 = .ok (.aload_n 0, 1) := by decide +kernel
theorem dX3_dropFirst_24 : decode cX3_dropFirst 24 = .ok (.dup, 1) := by decide +kernel
theorem dX3_dropFirst_25 : decode cX3_dropFirst 25 = .ok (.getfield 19, 3) := by decide +kernel
theorem dX3_dropFirst_28 : decode cX3_dropFirst 28 = .ok (.iconst 1, 1) := by decide +kernel
theorem dX3_dropFirst_29 : decode cX3_dropFirst 29 = .ok (.isub, 1) := by decide +kernel
theorem dX3_dropFirst_30 : decode cX3_dropFirst 30 = .ok (.putfield 19, 3) := by decide +kernel
theorem dX3_dropFirst_33 : decode cX3_dropFirst 33 = .ok (.iconst 1, 1) := by decide +kernel
theorem dX3_dropFirst_34 : decode cX3_dropFirst 34 = .ok (.ireturn, 1) := by decide +kernel
theorem dX3_rowOf_0 : decode cX3_rowOf 0 = .ok (.aload_n 0, 1) := by decide +kernel
theorem dX3_rowOf_1 : decode cX3_rowOf 1 = .ok (.getfield 15, 3) := by decide +kernel
theorem dX3_rowOf_4 : decode cX3_rowOf 4 = .ok (.iload_n 1, 1) := by decide +kernel
theorem dX3_rowOf_5 : decode cX3_rowOf 5 = .ok (.iadd, 1) := by decide +kernel
theorem dX3_rowOf_6 : decode cX3_rowOf 6 = .ok (.sipush 400, 3) := by decide +kernel
theorem dX3_rowOf_9 : decode cX3_rowOf 9 = .ok (.irem, 1) := by decide +kernel
theorem dX3_rowOf_10 : decode cX3_rowOf 10 = .ok (.bipush 6, 2) := by decide +kernel
theorem dX3_rowOf_12 : decode cX3_rowOf 12 = .ok (.imul, 1) := by decide +kernel
theorem dX3_rowOf_13 : decode cX3_rowOf 13 = .ok (.ireturn, 1) := by decide +kernel
set_option maxRecDepth 20000 in
theorem ggX4_init_X0_init : GoodIn wsX4_init wsX0_init := goodIn_r _ [24, 25, 2, 3, 26, 27, 28, 29, 30, 80, 81, 82, 83] (by decide +kernel) (by decide +kernel)
set_option maxRecDepth 20000 in
theorem gX4_init_X0_init_n9 : GoodIn wsX4_init (wsX0_init) := ggX4_init_X0_init
set_option maxRecDepth 20000 in
theorem ggX4_init_X2_init : GoodIn wsX4_init wsX2_init := goodIn_r _ [32, 33, 2, 3, 34, 35, 36, 37, 38, 39, 40, 41, 42, 43, 44, 45, 46, 47, 48, 49, 104, 105, 106, 107, 108, 109, 100] (by decide +kernel) (by decide +kernel)
set_option maxRecDepth 20000 in
theorem gX4_init_X2_init_n21 : GoodIn wsX4_init (wsX2_init) := ggX4_init_X2_init
set_option maxRecDepth 20000 in
theorem ggX4_init_X3_init : GoodIn wsX4_init wsX3_init := goodIn_r _ [51, 52, 2, 3, 26, 53, 54, 55, 101, 102, 103] (by decide +kernel) (by decide +kernel)
set_option maxRecDepth 20000 in
theorem gX4_init_X3_init_n28 : GoodIn wsX4_init (wsX3_init) := ggX4_init_X3_init
set_option maxRecDepth 20000 in
theorem ggX4_init_X4_startAgain : GoodIn wsX4_init wsX4_startAgain := goodIn_r _ [60, 7, 8, 12, 16, 61, 62, 63, 64, 65, 66, 67, 68, 69, 70, 6, 71, 30, 72, 73, 74, 11, 75, 38, 76, 77, 78, 15, 79, 54, 55, 84, 85, 86, 87, 88, 89, 90, 91, 92, 93, 94, 95, 96, 97, 98, 99, 80, 81, 82, 83, 100, 104, 105, 106, 107, 108, 109, 101, 102, 103] (by decide +kernel) (by decide +kernel)
set_option maxRecDepth 20000 in
theorem gX4_init_X4_startAgain : GoodIn wsX4_init (wsV RX4 52 RX4 yX4_startAgain wsX4_startAgain) := goodIn_app (goodIn_of _ (by decide +kernel)) ggX4_init_X4_startAgain
theorem dX4_init_0 : decode cX4_init 0 = .ok (.aload_n 0, 1) := by decide +kernel
theorem dX4_init_1 : decode cX4_init 1 = .ok (.invokespecial 1, 3) := by decide +kernel
theorem dX4_init_4 : decode cX4_init 4 = .ok (.aload_n 0, 1) := by decide +kernel
theorem dX4_init_5 : decode cX4_init 5 = .ok (.new 7, 3) := by decide +kernel
theorem dX4_init_8 : decode cX4_init 8 = .ok (.dup, 1) := by decide +kernel
theorem dX4_init_9 : decode cX4_init 9 = .ok (.invokespecial 9, 3) := by decide +kernel
theorem dX4_init_12 : decode cX4_init 12 = .ok (.putfield 10, 3) := by decide +kernel
theorem dX4_init_15 : decode cX4_init 15 = .ok (.aload_n 0, 1) := by decide +kernel
theorem dX4_init_16 : decode cX4_init 16 = .ok (.new 7, 3) := by decide +kernel
theorem dX4_init_19 : decode cX4_init 19 = .ok (.dup, 1) := by decide +kernel
theorem dX4_init_20 : decode cX4_init 20 = .ok (.invokespecial 9, 3) := by decide +kernel
theorem dX4_init_23 : decode cX4_init 23 = .ok (.putfield 16, 3) := by decide +kernel
theorem dX4_init_26 : decode cX4_init 26 = .ok (.aload_n 0, 1) := by decide +kernel
theorem dX4_init_27 : decode cX4_init 27 = .ok (.new 19, 3) := by decide +kernel
theorem dX4_init_30 : decode cX4_init 30 = .ok (.dup, 1) := by decide +kernel
theorem dX4_init_31 : decode cX4_init 31 = .ok (.invokespecial 21, 3) := by decide +kernel
theorem dX4_init_34 : decode cX4_init 34 = .ok (.putfield 22, 3) := by decide +kernel
theorem dX4_init_37 : decode cX4_init 37 = .ok (.aload_n 0, 1) := by decide +kernel
theorem dX4_init_38 : decode cX4_init 38 = .ok (.new 26, 3) := by decide +kernel
theorem dX4_init_41 : decode cX4_init 41 = .ok (.dup, 1) := by decide +kernel
theorem dX4_init_42 : decode cX4_init 42 = .ok (.invokespecial 28, 3) := by decide +kernel
theorem dX4_init_45 : decode cX4_init 45 = .ok (.putfield 29, 3) := by decide +kernel
theorem dX4_init_48 : decode cX4_init 48 = .ok (.aload_n 0, 1) := by decide +kernel
theorem dX4_init_49 : decode cX4_init 49 = .ok (.bipush 10, 2) := by decide +kernel
theorem dX4_init_51 : decode cX4_init 51 = .ok (.putfield 33, 3) := by decide +kernel
theorem dX4_init_54 : decode cX4_init 54 = .ok (.aload_n 0, 1) := by decide +kernel
theorem dX4_init_55 : decode cX4_init 55 = .ok (.bipush 10, 2) := by decide +kernel
theorem dX4_init_57 : decode cX4_init 57 = .ok (.putfield 37, 3) := by decide +kernel
theorem dX4_init_60 : decode cX4_init 60 = .ok (.aload_n 0, 1) := by decide +kernel
theorem dX4_init_61 : decode cX4_init 61 = .ok (.iconst 0, 1) := by decide +kernel
theorem dX4_init_62 : decode cX4_init 62 = .ok (.putfield 40, 3) := by decide +kernel
theorem dX4_init_65 : decode cX4_init 65 = .ok (.aload_n 0, 1) := by decide +kernel
theorem dX4_init_66 : decode cX4_init 66 = .ok (.iconst 0, 1) := by decide +kernel
theorem dX4_init_67 : decode cX4_init 67 = .ok (.putfield 43, 3) := by decide +kernel
theorem dX4_init_70 : decode cX4_init 70 = .ok (.aload_n 0, 1) := by decide +kernel
theorem dX4_init_71 : decode cX4_init 71 = .ok (.bipush 100, 2) := by decide +kernel
theorem dX4_init_73 : decode cX4_init 73 = .ok (.putfield 46, 3) := by decide +kernel
theorem dX4_init_76 : decode cX4_init 76 = .ok (.aload_n 0, 1) := by decide +kernel
theorem dX4_init_77 : decode cX4_init 77 = .ok (.sipush 200, 3) := by decide +kernel
theorem dX4_init_80 : decode cX4_init 80 = .ok (.putfield 49, 3) := by decide +kernel
theorem dX4_init_83 : decode cX4_init 83 = .ok (.aload_n 0, 1) := by decide +kernel
theorem dX4_init_84 : decode cX4_init 84 = .ok (.invokevirtual 52, 3) := by decide +kernel
theorem dX4_init_87 : decode cX4_init 87 = .ok (.return_, 1) := by decide +kernel
set_option maxRecDepth 20000 in
theorem ggX4_set_X4_areWindows : GoodIn wsX4_set wsX4_areWindows := goodIn_r _ [11, 1, 12, 13, 10, 14] (by decide +kernel) (by decide +kernel)
set_option maxRecDepth 20000 in
theorem gX4_set_X4_areWindows : GoodIn wsX4_set (va_wsS RX4 55 yX4_areWindows wsX4_areWindows) := goodIn_app (goodIn_of _ (by decide +kernel)) ggX4_set_X4_areWindows
set_option maxRecDepth 20000 in
theorem ggX4_set_X4_isWithin : GoodIn wsX4_set wsX4_isWithin := goodIn_r _ [14] (by decide +kernel) (by decide +kernel)
set_option maxRecDepth 20000 in
theorem gX4_set_X4_isWithin : GoodIn wsX4_set (va_wsS RX4 60 yX4_isWithin wsX4_isWithin) := goodIn_app (goodIn_of _ (by decide +kernel)) ggX4_set_X4_isWithin
set_option maxRecDepth 20000 in
theorem ggX4_set_X4_startAgain : GoodIn wsX4_set wsX4_startAgain := goodIn_r _ [18, 19, 20, 21, 22, 23, 24, 25, 26, 27, 28, 29, 30, 31, 32, 33, 34, 35, 36, 37, 38, 39, 40, 41, 42, 43, 44, 45, 46, 47, 48, 49, 50, 51, 52, 53, 54, 55, 56, 57, 58, 59, 60, 61, 62, 63, 64, 65, 66, 67, 68, 69, 70, 71, 72, 73, 74, 75, 76, 77, 78] (by decide +kernel) (by decide +kernel)
set_option maxRecDepth 20000 in
theorem gX4_set_X4_startAgain : GoodIn wsX4_set (wsV RX4 52 RX4 yX4_startAgain wsX4_startAgain) := goodIn_app (goodIn_of _ (by decide +kernel)) ggX4_set_X4_startAgain
theorem dX4_set_0 : decode cX4_set 0 = .ok (.iload_n 1, 1) := by decide +kernel
theorem dX4_set_1 : decode cX4_set 1 = .ok (.iload_n 2, 1) := by decide +kernel
theorem dX4_set_2 : decode cX4_set 2 = .ok (.invokestatic 55, 3) := by decide +kernel
theorem dX4_set_5 : decode cX4_set 5 = .ok (.ifCond .eq 48, 3) := by decide +kernel
theorem dX4_set_8 : decode cX4_set 8 = .ok (.iload_n 3, 1) := by decide +kernel
theorem dX4_set_9 : decode cX4_set 9 = .ok (.iconst 0, 1) := by decide +kernel
theorem dX4_set_10 : decode cX4_set 10 = .ok (.ldc 59, 2) := by decide +kernel
theorem dX4_set_12 : decode cX4_set 12 = .ok (.invokestatic 60, 3) := by decide +kernel
theorem dX4_set_15 : decode cX4_set 15 = .ok (.ifCond .eq 38, 3) := by decide +kernel
theorem dX4_set_18 : decode cX4_set 18 = .ok (.iload 4, 2) := by decide +kernel
theorem dX4_set_20 : decode cX4_set 20 = .ok (.iconst 0, 1) := by decide +kernel
theorem dX4_set_21 : decode cX4_set 21 = .ok (.ldc 59, 2) := by decide +kernel
theorem dX4_set_23 : decode cX4_set 23 = .ok (.invokestatic 60, 3) := by decide +kernel
theorem dX4_set_26 : decode cX4_set 26 = .ok (.ifCond .eq 27, 3) := by decide +kernel
theorem dX4_set_29 : decode cX4_set 29 = .ok (.iload 5, 2) := by decide +kernel
theorem dX4_set_31 : decode cX4_set 31 = .ok (.iconst 1, 1) := by decide +kernel
theorem dX4_set_32 : decode cX4_set 32 = .ok (.sipush 200, 3) := by decide +kernel
theorem dX4_set_35 : decode cX4_set 35 = .ok (.invokestatic 60, 3) := by decide +kernel
theorem dX4_set_38 : decode cX4_set 38 = .ok (.ifCond .eq 15, 3) := by decide +kernel
theorem dX4_set_41 : decode cX4_set 41 = .ok (.iload 6, 2) := by decide +kernel
theorem dX4_set_43 : decode cX4_set 43 = .ok (.iconst 1, 1) := by decide +kernel
theorem dX4_set_44 : decode cX4_set 44 = .ok (.sipush 400, 3) := by decide +kernel
theorem dX4_set_47 : decode cX4_set 47 = .ok (.invokestatic 60, 3) := by decide +kernel
theorem dX4_set_50 : decode cX4_set 50 = .ok (.ifCond .ne 6, 3) := by decide +kernel
theorem dX4_set_53 : decode cX4_set 53 = .ok (.bipush (-2), 2) := by decide +kernel
theorem dX4_set_55 : decode cX4_set 55 = .ok (.ireturn, 1) := by decide +kernel
theorem dX4_set_56 : decode cX4_set 56 = .ok (.aload_n 0, 1) := by decide +kernel
theorem dX4_set_57 : decode cX4_set 57 = .ok (.iload_n 1, 1) := by decide +kernel
theorem dX4_set_58 : decode cX4_set 58 = .ok (.putfield 33, 3) := by decide +kernel
theorem dX4_set_61 : decode cX4_set 61 = .ok (.aload_n 0, 1) := by decide +kernel
theorem dX4_set_62 : decode cX4_set 62 = .ok (.iload_n 2, 1) := by decide +kernel
theorem dX4_set_63 : decode cX4_set 63 = .ok (.putfield 37, 3) := by decide +kernel
theorem dX4_set_66 : decode cX4_set 66 = .ok (.aload_n 0, 1) := by decide +kernel
theorem dX4_set_67 : decode cX4_set 67 = .ok (.iload_n 3, 1) := by decide +kernel
theorem dX4_set_68 : decode cX4_set 68 = .ok (.putfield 40, 3) := by decide +kernel
theorem dX4_set_71 : decode cX4_set 71 = .ok (.aload_n 0, 1) := by decide +kernel
theorem dX4_set_72 : decode cX4_set 72 = .ok (.iload 4, 2) := by decide +kernel
theorem dX4_set_74 : decode cX4_set 74 = .ok (.putfield 43, 3) := by decide +kernel
theorem dX4_set_77 : decode cX4_set 77 = .ok (.aload_n 0, 1) := by decide +kernel
theorem dX4_set_78 : decode cX4_set 78 = .ok (.iload 5, 2) := by decide +kernel
theorem dX4_set_80 : decode cX4_set 80 = .ok (.putfield 46, 3) := by decide +kernel
theorem dX4_set_83 : decode cX4_set 83 = .ok (.aload_n 0, 1) := by decide +kernel
theorem dX4_set_84 : decode cX4_set 84 = .ok (.iload 6, 2) := by decide +kernel
theorem dX4_set_86 : decode cX4_set 86 = .ok (.putfield 49, 3) := by decide +kernel
theorem dX4_set_89 : decode cX4_set 89 = .ok (.aload_n 0, 1) := by decide +kernel
theorem dX4_set_90 : decode cX4_set 90 = .ok (.invokevirtual 52, 3) := by decide +kernel
theorem dX4_set_93 : decode cX4_set 93 = .ok (.iconst 0, 1) := by decide +kernel
theorem dX4_set_94 : decode cX4_set 94 = .ok (.ireturn, 1) := by decide +kernel
set_option maxRecDepth 20000 in
theorem ggX4_eventA_X4_admit : GoodIn wsX4_eventA wsX4_admit := goodIn_r _ [9, 10, 11, 4, 1, 12, 2, 3, 13, 14, 15, 8, 16, 17, 18, 19, 20, 21, 22, 23, 24, 25, 26, 27, 28, 29, 30, 31, 32, 33, 34, 35, 36, 37, 38, 39, 40, 41, 42, 43, 44, 45, 46, 47, 48, 49, 50, 51, 52, 53, 54, 55, 56, 57, 58, 59, 60, 150, 151, 152, 153, 154, 155, 156, 157, 158, 159, 160, 161, 162, 163, 164, 165, 166, 167, 168, 169, 170, 171, 172] (by decide +kernel) (by decide +kernel)
set_option maxRecDepth 20000 in
theorem gX4_eventA_X4_admit : GoodIn wsX4_eventA (wsV RX4 64 RX4 yX4_admit wsX4_admit) := goodIn_app (goodIn_of _ (by decide +kernel)) ggX4_eventA_X4_admit
set_option maxRecDepth 20000 in
theorem ggX4_eventA_X0_size : GoodIn wsX4_eventA wsX0_size := goodIn_r _ [36, 37, 166, 167, 168, 169] (by decide +kernel) (by decide +kernel)
set_option maxRecDepth 20000 in
theorem gX4_eventA_X0_size : GoodIn wsX4_eventA (wsV RX4 68 RX0 yX0_size wsX0_size) := goodIn_app (goodIn_of _ (by decide +kernel)) ggX4_eventA_X0_size
set_option maxRecDepth 20000 in
theorem ggX4_eventA_X0_isNear : GoodIn wsX4_eventA wsX0_isNear := goodIn_r _ [45, 46, 47, 48, 49, 30, 50, 51, 52, 53, 35, 54, 37, 166, 167, 168, 169] (by decide +kernel) (by decide +kernel)
set_option maxRecDepth 20000 in
theorem gX4_eventA_X0_isNear : GoodIn wsX4_eventA (wsV RX4 72 RX0 yX0_isNear wsX0_isNear) := goodIn_app (goodIn_of _ (by decide +kernel)) ggX4_eventA_X0_isNear
set_option maxRecDepth 20000 in
theorem ggX4_eventA_X0_time : GoodIn wsX4_eventA wsX0_time := goodIn_r _ [65, 47, 51, 52, 53, 35, 54, 37, 166, 167, 168, 169] (by decide +kernel) (by decide +kernel)
set_option maxRecDepth 20000 in
theorem gX4_eventA_X0_time : GoodIn wsX4_eventA (wsV RX4 76 RX0 yX0_time wsX0_time) := goodIn_app (goodIn_of _ (by decide +kernel)) ggX4_eventA_X0_time
set_option maxRecDepth 20000 in
theorem ggX4_eventA_X0_value : GoodIn wsX4_eventA wsX0_value := goodIn_r _ [69, 70, 51, 52, 53, 35, 54, 37, 166, 167, 168, 169] (by decide +kernel) (by decide +kernel)
set_option maxRecDepth 20000 in
theorem gX4_eventA_X0_value : GoodIn wsX4_eventA (wsV RX4 80 RX0 yX0_value wsX0_value) := goodIn_app (goodIn_of _ (by decide +kernel)) ggX4_eventA_X0_value
set_option maxRecDepth 20000 in
theorem ggX4_eventA_X3_add : GoodIn wsX4_eventA wsX3_add := goodIn_r _ [74, 60, 75, 76, 77, 78, 58, 79, 80, 170, 171, 172] (by decide +kernel) (by decide +kernel)
set_option maxRecDepth 20000 in
theorem gX4_eventA_X3_add : GoodIn wsX4_eventA (wsV RX4 83 RX3 yX3_add wsX3_add) := goodIn_app (goodIn_of _ (by decide +kernel)) ggX4_eventA_X3_add
set_option maxRecDepth 20000 in
theorem ggX4_eventA_X0_add : GoodIn wsX4_eventA wsX0_add := goodIn_r _ [84, 37, 47, 46, 70, 166, 167, 168, 169] (by decide +kernel) (by decide +kernel)
set_option maxRecDepth 20000 in
theorem gX4_eventA_X0_add : GoodIn wsX4_eventA (wsV RX4 87 RX0 yX0_add wsX0_add) := goodIn_app (goodIn_of _ (by decide +kernel)) ggX4_eventA_X0_add
set_option maxRecDepth 20000 in
theorem ggX4_eventA_X4_gather : GoodIn wsX4_eventA wsX4_gather := goodIn_r _ [88, 89, 90, 91, 92, 93, 94, 95, 96, 97, 98, 99, 100, 8, 101, 102, 103, 104, 105, 106, 107, 108, 109, 110, 111, 112, 113, 114, 115, 116, 117, 118, 119, 120, 121, 122, 123, 124, 125, 126, 127, 128, 129, 130, 131, 132, 133, 134, 135, 136, 137, 138, 139, 140, 141, 142, 30, 143, 150, 151, 152, 153, 154, 155, 156, 157, 158, 159, 160, 161, 162, 163, 164, 165, 173, 174, 175, 176, 177, 178, 179] (by decide +kernel) (by decide +kernel)
set_option maxRecDepth 20000 in
theorem gX4_eventA_X4_gather : GoodIn wsX4_eventA (wsV RX4 90 RX4 yX4_gather wsX4_gather) := goodIn_app (goodIn_of _ (by decide +kernel)) ggX4_eventA_X4_gather
set_option maxRecDepth 20000 in
theorem ggX4_eventA_X4_countTaken : GoodIn wsX4_eventA wsX4_countTaken := goodIn_r _ [147, 148, 149, 150, 151, 152, 153, 154, 155, 156, 157, 158, 159, 160, 161, 162, 163, 164, 165] (by decide +kernel) (by decide +kernel)
set_option maxRecDepth 20000 in
theorem gX4_eventA_X4_countTaken : GoodIn wsX4_eventA (wsV RX4 93 RX4 yX4_countTaken wsX4_countTaken) := goodIn_app (goodIn_of _ (by decide +kernel)) ggX4_eventA_X4_countTaken
theorem dX4_eventA_0 : decode cX4_eventA 0 = .ok (.aload_n 0, 1) := by decide +kernel
theorem dX4_eventA_1 : decode cX4_eventA 1 = .ok (.aload_n 0, 1) := by decide +kernel
theorem dX4_eventA_2 : decode cX4_eventA 2 = .ok (.getfield 16, 3) := by decide +kernel
theorem dX4_eventA_5 : decode cX4_eventA 5 = .ok (.iload_n 1, 1) := by decide +kernel
theorem dX4_eventA_6 : decode cX4_eventA 6 = .ok (.iload_n 2, 1) := by decide +kernel
theorem dX4_eventA_7 : decode cX4_eventA 7 = .ok (.invokevirtual 64, 3) := by decide +kernel
theorem dX4_eventA_10 : decode cX4_eventA 10 = .ok (.istore 4, 2) := by decide +kernel
theorem dX4_eventA_12 : decode cX4_eventA 12 = .ok (.iload 4, 2) := by decide +kernel
theorem dX4_eventA_14 : decode cX4_eventA 14 = .ok (.ifCond .ge 6, 3) := by decide +kernel
theorem dX4_eventA_17 : decode cX4_eventA 17 = .ok (.iload 4, 2) := by decide +kernel
theorem dX4_eventA_19 : decode cX4_eventA 19 = .ok (.ireturn, 1) := by decide +kernel
theorem dX4_eventA_20 : decode cX4_eventA 20 = .ok (.iconst 0, 1) := by decide +kernel
theorem dX4_eventA_21 : decode cX4_eventA 21 = .ok (.istore 5, 2) := by decide +kernel
theorem dX4_eventA_23 : decode cX4_eventA 23 = .ok (.iload 5, 2) := by decide +kernel
theorem dX4_eventA_25 : decode cX4_eventA 25 = .ok (.aload_n 0, 1) := by decide +kernel
theorem dX4_eventA_26 : decode cX4_eventA 26 = .ok (.getfield 16, 3) := by decide +kernel
theorem dX4_eventA_29 : decode cX4_eventA 29 = .ok (.invokevirtual 68, 3) := by decide +kernel
theorem dX4_eventA_32 : decode cX4_eventA 32 = .ok (.if_icmp .ge 56, 3) := by decide +kernel
theorem dX4_eventA_35 : decode cX4_eventA 35 = .ok (.aload_n 0, 1) := by decide +kernel
theorem dX4_eventA_36 : decode cX4_eventA 36 = .ok (.getfield 16, 3) := by decide +kernel
theorem dX4_eventA_39 : decode cX4_eventA 39 = .ok (.iload 5, 2) := by decide +kernel
theorem dX4_eventA_41 : decode cX4_eventA 41 = .ok (.iload_n 1, 1) := by decide +kernel
theorem dX4_eventA_42 : decode cX4_eventA 42 = .ok (.iload_n 2, 1) := by decide +kernel
theorem dX4_eventA_43 : decode cX4_eventA 43 = .ok (.aload_n 0, 1) := by decide +kernel
theorem dX4_eventA_44 : decode cX4_eventA 44 = .ok (.getfield 43, 3) := by decide +kernel
theorem dX4_eventA_47 : decode cX4_eventA 47 = .ok (.invokevirtual 72, 3) := by decide +kernel
theorem dX4_eventA_50 : decode cX4_eventA 50 = .ok (.ifCond .eq 32, 3) := by decide +kernel
theorem dX4_eventA_53 : decode cX4_eventA 53 = .ok (.aload_n 0, 1) := by decide +kernel
theorem dX4_eventA_54 : decode cX4_eventA 54 = .ok (.getfield 29, 3) := by decide +kernel
theorem dX4_eventA_57 : decode cX4_eventA 57 = .ok (.iconst 2, 1) := by decide +kernel
theorem dX4_eventA_58 : decode cX4_eventA 58 = .ok (.iload_n 1, 1) := by decide +kernel
theorem dX4_eventA_59 : decode cX4_eventA 59 = .ok (.aload_n 0, 1) := by decide +kernel
theorem dX4_eventA_60 : decode cX4_eventA 60 = .ok (.getfield 16, 3) := by decide +kernel
theorem dX4_eventA_63 : decode cX4_eventA 63 = .ok (.iload 5, 2) := by decide +kernel
theorem dX4_eventA_65 : decode cX4_eventA 65 = .ok (.invokevirtual 76, 3) := by decide +kernel
theorem dX4_eventA_68 : decode cX4_eventA 68 = .ok (.iload_n 2, 1) := by decide +kernel
theorem dX4_eventA_69 : decode cX4_eventA 69 = .ok (.iload_n 3, 1) := by decide +kernel
theorem dX4_eventA_70 : decode cX4_eventA 70 = .ok (.aload_n 0, 1) := by decide +kernel
theorem dX4_eventA_71 : decode cX4_eventA 71 = .ok (.getfield 16, 3) := by decide +kernel
theorem dX4_eventA_74 : decode cX4_eventA 74 = .ok (.iload 5, 2) := by decide +kernel
theorem dX4_eventA_76 : decode cX4_eventA 76 = .ok (.invokevirtual 80, 3) := by decide +kernel
theorem dX4_eventA_79 : decode cX4_eventA 79 = .ok (.invokevirtual 83, 3) := by decide +kernel
theorem dX4_eventA_82 : decode cX4_eventA 82 = .ok (.iinc 5 1, 3) := by decide +kernel
theorem dX4_eventA_85 : decode cX4_eventA 85 = .ok (.goto (-62), 3) := by decide +kernel
theorem dX4_eventA_88 : decode cX4_eventA 88 = .ok (.aload_n 0, 1) := by decide +kernel
theorem dX4_eventA_89 : decode cX4_eventA 89 = .ok (.getfield 10, 3) := by decide +kernel
theorem dX4_eventA_92 : decode cX4_eventA 92 = .ok (.iload_n 1, 1) := by decide +kernel
theorem dX4_eventA_93 : decode cX4_eventA 93 = .ok (.iload_n 2, 1) := by decide +kernel
theorem dX4_eventA_94 : decode cX4_eventA 94 = .ok (.iload_n 3, 1) := by decide +kernel
theorem dX4_eventA_95 : decode cX4_eventA 95 = .ok (.invokevirtual 87, 3) := by decide +kernel
theorem dX4_eventA_98 : decode cX4_eventA 98 = .ok (.aload_n 0, 1) := by decide +kernel
theorem dX4_eventA_99 : decode cX4_eventA 99 = .ok (.iload_n 1, 1) := by decide +kernel
theorem dX4_eventA_100 : decode cX4_eventA 100 = .ok (.iload_n 2, 1) := by decide +kernel
theorem dX4_eventA_101 : decode cX4_eventA 101 = .ok (.iload_n 3, 1) := by decide +kernel
theorem dX4_eventA_102 : decode cX4_eventA 102 = .ok (.invokevirtual 90, 3) := by decide +kernel
theorem dX4_eventA_105 : decode cX4_eventA 105 = .ok (.aload_n 0, 1) := by decide +kernel
theorem dX4_eventA_106 : decode cX4_eventA 106 = .ok (.iload 4, 2) := by decide +kernel
theorem dX4_eventA_108 : decode cX4_eventA 108 = .ok (.invokevirtual 93, 3) := by decide +kernel
theorem dX4_eventA_111 : decode cX4_eventA 111 = .ok (.iload 4, 2) := by decide +kernel
theorem dX4_eventA_113 : decode cX4_eventA 113 = .ok (.ireturn, 1) := by decide +kernel
set_option maxRecDepth 20000 in
theorem ggX4_eventB_X4_admit : GoodIn wsX4_eventB wsX4_admit := goodIn_r _ [9, 10, 11, 1, 4, 12, 2, 3, 13, 14, 15, 8, 16, 17, 18, 19, 20, 21, 22, 23, 24, 25, 26, 27, 28, 29, 30, 31, 32, 33, 34, 35, 36, 37, 38, 39, 40, 41, 42, 43, 44, 45, 46, 47, 48, 49, 50, 51, 52, 53, 54, 55, 56, 57, 58, 59, 60, 91, 92, 93, 94, 95, 96, 97, 98, 99, 100, 101, 102, 103, 104, 105, 106, 107, 108, 109, 110, 111, 112, 113] (by decide +kernel) (by decide +kernel)
set_option maxRecDepth 20000 in
theorem gX4_eventB_X4_admit : GoodIn wsX4_eventB (wsV RX4 64 RX4 yX4_admit wsX4_admit) := goodIn_app (goodIn_of _ (by decide +kernel)) ggX4_eventB_X4_admit
set_option maxRecDepth 20000 in
theorem ggX4_eventB_X0_size : GoodIn wsX4_eventB wsX0_size := goodIn_r _ [36, 37, 107, 108, 109, 110] (by decide +kernel) (by decide +kernel)
set_option maxRecDepth 20000 in
theorem gX4_eventB_X0_size : GoodIn wsX4_eventB (wsV RX4 68 RX0 yX0_size wsX0_size) := goodIn_app (goodIn_of _ (by decide +kernel)) ggX4_eventB_X0_size
set_option maxRecDepth 20000 in
theorem ggX4_eventB_X0_isNear : GoodIn wsX4_eventB wsX0_isNear := goodIn_r _ [45, 46, 47, 48, 49, 30, 50, 51, 52, 53, 35, 54, 37, 107, 108, 109, 110] (by decide +kernel) (by decide +kernel)
set_option maxRecDepth 20000 in
theorem gX4_eventB_X0_isNear : GoodIn wsX4_eventB (wsV RX4 72 RX0 yX0_isNear wsX0_isNear) := goodIn_app (goodIn_of _ (by decide +kernel)) ggX4_eventB_X0_isNear
set_option maxRecDepth 20000 in
theorem ggX4_eventB_X0_time : GoodIn wsX4_eventB wsX0_time := goodIn_r _ [65, 47, 51, 52, 53, 35, 54, 37, 107, 108, 109, 110] (by decide +kernel) (by decide +kernel)
set_option maxRecDepth 20000 in
theorem gX4_eventB_X0_time : GoodIn wsX4_eventB (wsV RX4 76 RX0 yX0_time wsX0_time) := goodIn_app (goodIn_of _ (by decide +kernel)) ggX4_eventB_X0_time
set_option maxRecDepth 20000 in
theorem ggX4_eventB_X0_value : GoodIn wsX4_eventB wsX0_value := goodIn_r _ [69, 70, 51, 52, 53, 35, 54, 37, 107, 108, 109, 110] (by decide +kernel) (by decide +kernel)
set_option maxRecDepth 20000 in
theorem gX4_eventB_X0_value : GoodIn wsX4_eventB (wsV RX4 80 RX0 yX0_value wsX0_value) := goodIn_app (goodIn_of _ (by decide +kernel)) ggX4_eventB_X0_value
set_option maxRecDepth 20000 in
theorem ggX4_eventB_X3_add : GoodIn wsX4_eventB wsX3_add := goodIn_r _ [74, 60, 75, 76, 77, 78, 58, 79, 80, 111, 112, 113] (by decide +kernel) (by decide +kernel)
set_option maxRecDepth 20000 in
theorem gX4_eventB_X3_add : GoodIn wsX4_eventB (wsV RX4 83 RX3 yX3_add wsX3_add) := goodIn_app (goodIn_of _ (by decide +kernel)) ggX4_eventB_X3_add
set_option maxRecDepth 20000 in
theorem ggX4_eventB_X0_add : GoodIn wsX4_eventB wsX0_add := goodIn_r _ [84, 37, 47, 46, 70, 107, 108, 109, 110] (by decide +kernel) (by decide +kernel)
set_option maxRecDepth 20000 in
theorem gX4_eventB_X0_add : GoodIn wsX4_eventB (wsV RX4 87 RX0 yX0_add wsX0_add) := goodIn_app (goodIn_of _ (by decide +kernel)) ggX4_eventB_X0_add
set_option maxRecDepth 20000 in
theorem ggX4_eventB_X4_countTaken : GoodIn wsX4_eventB wsX4_countTaken := goodIn_r _ [88, 89, 90, 91, 92, 93, 94, 95, 96, 97, 98, 99, 100, 101, 102, 103, 104, 105, 106] (by decide +kernel) (by decide +kernel)
set_option maxRecDepth 20000 in
theorem gX4_eventB_X4_countTaken : GoodIn wsX4_eventB (wsV RX4 93 RX4 yX4_countTaken wsX4_countTaken) := goodIn_app (goodIn_of _ (by decide +kernel)) ggX4_eventB_X4_countTaken
theorem dX4_eventB_0 : decode cX4_eventB 0 = .ok (.aload_n 0, 1) := by decide +kernel
theorem dX4_eventB_1 : decode cX4_eventB 1 = .ok (.aload_n 0, 1) := by decide +kernel
theorem dX4_eventB_2 : decode cX4_eventB 2 = .ok (.getfield 10, 3) := by decide +kernel
theorem dX4_eventB_5 : decode cX4_eventB 5 = .ok (.iload_n 1, 1) := by decide +kernel
theorem dX4_eventB_6 : decode cX4_eventB 6 = .ok (.iload_n 2, 1) := by decide +kernel
theorem dX4_eventB_7 : decode cX4_eventB 7 = .ok (.invokevirtual 64, 3) := by decide +kernel
theorem dX4_eventB_10 : decode cX4_eventB 10 = .ok (.istore 4, 2) := by decide +kernel
theorem dX4_eventB_12 : decode cX4_eventB 12 = .ok (.iload 4, 2) := by decide +kernel
theorem dX4_eventB_14 : decode cX4_eventB 14 = .ok (.ifCond .ge 6, 3) := by decide +kernel
theorem dX4_eventB_17 : decode cX4_eventB 17 = .ok (.iload 4, 2) := by decide +kernel
theorem dX4_eventB_19 : decode cX4_eventB 19 = .ok (.ireturn, 1) := by decide +kernel
theorem dX4_eventB_20 : decode cX4_eventB 20 = .ok (.iconst 0, 1) := by decide +kernel
theorem dX4_eventB_21 : decode cX4_eventB 21 = .ok (.istore 5, 2) := by decide +kernel
theorem dX4_eventB_23 : decode cX4_eventB 23 = .ok (.iload 5, 2) := by decide +kernel
theorem dX4_eventB_25 : decode cX4_eventB 25 = .ok (.aload_n 0, 1) := by decide +kernel
theorem dX4_eventB_26 : decode cX4_eventB 26 = .ok (.getfield 10, 3) := by decide +kernel
theorem dX4_eventB_29 : decode cX4_eventB 29 = .ok (.invokevirtual 68, 3) := by decide +kernel
theorem dX4_eventB_32 : decode cX4_eventB 32 = .ok (.if_icmp .ge 56, 3) := by decide +kernel
theorem dX4_eventB_35 : decode cX4_eventB 35 = .ok (.aload_n 0, 1) := by decide +kernel
theorem dX4_eventB_36 : decode cX4_eventB 36 = .ok (.getfield 10, 3) := by decide +kernel
theorem dX4_eventB_39 : decode cX4_eventB 39 = .ok (.iload 5, 2) := by decide +kernel
theorem dX4_eventB_41 : decode cX4_eventB 41 = .ok (.iload_n 1, 1) := by decide +kernel
theorem dX4_eventB_42 : decode cX4_eventB 42 = .ok (.iload_n 2, 1) := by decide +kernel
theorem dX4_eventB_43 : decode cX4_eventB 43 = .ok (.aload_n 0, 1) := by decide +kernel
theorem dX4_eventB_44 : decode cX4_eventB 44 = .ok (.getfield 43, 3) := by decide +kernel
theorem dX4_eventB_47 : decode cX4_eventB 47 = .ok (.invokevirtual 72, 3) := by decide +kernel
theorem dX4_eventB_50 : decode cX4_eventB 50 = .ok (.ifCond .eq 32, 3) := by decide +kernel
theorem dX4_eventB_53 : decode cX4_eventB 53 = .ok (.aload_n 0, 1) := by decide +kernel
theorem dX4_eventB_54 : decode cX4_eventB 54 = .ok (.getfield 29, 3) := by decide +kernel
theorem dX4_eventB_57 : decode cX4_eventB 57 = .ok (.iconst 2, 1) := by decide +kernel
theorem dX4_eventB_58 : decode cX4_eventB 58 = .ok (.aload_n 0, 1) := by decide +kernel
theorem dX4_eventB_59 : decode cX4_eventB 59 = .ok (.getfield 10, 3) := by decide +kernel
theorem dX4_eventB_62 : decode cX4_eventB 62 = .ok (.iload 5, 2) := by decide +kernel
theorem dX4_eventB_64 : decode cX4_eventB 64 = .ok (.invokevirtual 76, 3) := by decide +kernel
theorem dX4_eventB_67 : decode cX4_eventB 67 = .ok (.iload_n 1, 1) := by decide +kernel
theorem dX4_eventB_68 : decode cX4_eventB 68 = .ok (.iload_n 2, 1) := by decide +kernel
theorem dX4_eventB_69 : decode cX4_eventB 69 = .ok (.aload_n 0, 1) := by decide +kernel
theorem dX4_eventB_70 : decode cX4_eventB 70 = .ok (.getfield 10, 3) := by decide +kernel
theorem dX4_eventB_73 : decode cX4_eventB 73 = .ok (.iload 5, 2) := by decide +kernel
theorem dX4_eventB_75 : decode cX4_eventB 75 = .ok (.invokevirtual 80, 3) := by decide +kernel
theorem dX4_eventB_78 : decode cX4_eventB 78 = .ok (.iload_n 3, 1) := by decide +kernel
theorem dX4_eventB_79 : decode cX4_eventB 79 = .ok (.invokevirtual 83, 3) := by decide +kernel
theorem dX4_eventB_82 : decode cX4_eventB 82 = .ok (.iinc 5 1, 3) := by decide +kernel
theorem dX4_eventB_85 : decode cX4_eventB 85 = .ok (.goto (-62), 3) := by decide +kernel
theorem dX4_eventB_88 : decode cX4_eventB 88 = .ok (.aload_n 0, 1) := by decide +kernel
theorem dX4_eventB_89 : decode cX4_eventB 89 = .ok (.getfield 16, 3) := by decide +kernel
theorem dX4_eventB_92 : decode cX4_eventB 92 = .ok (.iload_n 1, 1) := by decide +kernel
theorem dX4_eventB_93 : decode cX4_eventB 93 = .ok (.iload_n 2, 1) := by decide +kernel
theorem dX4_eventB_94 : decode cX4_eventB 94 = .ok (.iload_n 3, 1) := by decide +kernel
theorem dX4_eventB_95 : decode cX4_eventB 95 = .ok (.invokevirtual 87, 3) := by decide +kernel
theorem dX4_eventB_98 : decode cX4_eventB 98 = .ok (.aload_n 0, 1) := by decide +kernel
theorem dX4_eventB_99 : decode cX4_eventB 99 = .ok (.iload 4, 2) := by decide +kernel
theorem dX4_eventB_101 : decode cX4_eventB 101 = .ok (.invokevirtual 93, 3) := by decide +kernel
theorem dX4_eventB_104 : decode cX4_eventB 104 = .ok (.iload 4, 2) := by decide +kernel
theorem dX4_eventB_106 : decode cX4_eventB 106 = .ok (.ireturn, 1) := by decide +kernel
set_option maxRecDepth 20000 in
theorem ggX4_markA_X4_refusalOfMark : GoodIn wsX4_markA wsX4_refusalOfMark := goodIn_r _ [10, 11, 12, 9, 13, 14, 15, 16, 17, 18] (by decide +kernel) (by decide +kernel)
set_option maxRecDepth 20000 in
theorem gX4_markA_X4_refusalOfMark : GoodIn wsX4_markA (va_wsS RX4 100 yX4_refusalOfMark wsX4_refusalOfMark) := goodIn_app (goodIn_of _ (by decide +kernel)) ggX4_markA_X4_refusalOfMark
set_option maxRecDepth 20000 in
theorem ggX4_markA_X4_tellWindows : GoodIn wsX4_markA wsX4_tellWindows := goodIn_r _ [22, 23, 24, 25, 26, 27, 28, 29, 30, 31, 32, 33, 34, 35, 36, 37, 38, 39, 40, 41, 42, 43, 44, 45, 46, 47, 48, 49, 50, 51, 52, 53, 54, 55, 56, 57, 92, 93, 94, 95, 96, 97, 98, 99, 100, 101, 102, 103, 104, 105, 106, 107, 108, 109, 110, 111, 112, 113, 114, 115, 116, 117] (by decide +kernel) (by decide +kernel)
set_option maxRecDepth 20000 in
theorem gX4_markA_X4_tellWindows : GoodIn wsX4_markA (wsV RX4 112 RX4 yX4_tellWindows wsX4_tellWindows) := goodIn_app (goodIn_of _ (by decide +kernel)) ggX4_markA_X4_tellWindows
set_option maxRecDepth 20000 in
theorem ggX4_markA_X4_dropEvents : GoodIn wsX4_markA wsX4_dropEvents := goodIn_r _ [61, 23, 62, 63, 64, 3, 4, 5, 6, 65, 66, 67, 68, 9, 69, 1, 2, 70, 71, 72, 73, 74, 75, 76, 77, 78, 79, 80, 81, 82, 83, 84, 85, 86, 87, 88, 89, 90, 91, 92, 93, 94, 95, 96, 97, 98, 99, 100, 101, 102, 103, 104, 105, 106, 107, 118, 119, 120, 121] (by decide +kernel) (by decide +kernel)
set_option maxRecDepth 20000 in
theorem gX4_markA_X4_dropEvents : GoodIn wsX4_markA (wsV RX4 115 RX4 yX4_dropEvents wsX4_dropEvents) := goodIn_app (goodIn_of _ (by decide +kernel)) ggX4_markA_X4_dropEvents
theorem dX4_markA_0 : decode cX4_markA 0 = .ok (.iload_n 1, 1) := by decide +kernel
theorem dX4_markA_1 : decode cX4_markA 1 = .ok (.aload_n 0, 1) := by decide +kernel
theorem dX4_markA_2 : decode cX4_markA 2 = .ok (.getfield 97, 3) := by decide +kernel
theorem dX4_markA_5 : decode cX4_markA 5 = .ok (.invokestatic 100, 3) := by decide +kernel
theorem dX4_markA_8 : decode cX4_markA 8 = .ok (.istore_n 2, 1) := by decide +kernel
theorem dX4_markA_9 : decode cX4_markA 9 = .ok (.iload_n 2, 1) := by decide +kernel
theorem dX4_markA_10 : decode cX4_markA 10 = .ok (.ifCond .eq 5, 3) := by decide +kernel
theorem dX4_markA_13 : decode cX4_markA 13 = .ok (.iload_n 2, 1) := by decide +kernel
theorem dX4_markA_14 : decode cX4_markA 14 = .ok (.ireturn, 1) := by decide +kernel
theorem dX4_markA_15 : decode cX4_markA 15 = .ok (.aload_n 0, 1) := by decide +kernel
theorem dX4_markA_16 : decode cX4_markA 16 = .ok (.iload_n 1, 1) := by decide +kernel
theorem dX4_markA_17 : decode cX4_markA 17 = .ok (.aload_n 0, 1) := by decide +kernel
theorem dX4_markA_18 : decode cX4_markA 18 = .ok (.getfield 104, 3) := by decide +kernel
theorem dX4_markA_21 : decode cX4_markA 21 = .ok (.invokestatic 107, 3) := by decide +kernel
theorem dX4_markA_24 : decode cX4_markA 24 = .ok (.invokevirtual 112, 3) := by decide +kernel
theorem dX4_markA_27 : decode cX4_markA 27 = .ok (.istore_n 3, 1) := by decide +kernel
theorem dX4_markA_28 : decode cX4_markA 28 = .ok (.iload_n 3, 1) := by decide +kernel
theorem dX4_markA_29 : decode cX4_markA 29 = .ok (.bipush (-3), 2) := by decide +kernel
theorem dX4_markA_31 : decode cX4_markA 31 = .ok (.if_icmp .ne 6, 3) := by decide +kernel
theorem dX4_markA_34 : decode cX4_markA 34 = .ok (.bipush (-3), 2) := by decide +kernel
theorem dX4_markA_36 : decode cX4_markA 36 = .ok (.ireturn, 1) := by decide +kernel
theorem dX4_markA_37 : decode cX4_markA 37 = .ok (.aload_n 0, 1) := by decide +kernel
theorem dX4_markA_38 : decode cX4_markA 38 = .ok (.iload_n 1, 1) := by decide +kernel
theorem dX4_markA_39 : decode cX4_markA 39 = .ok (.putfield 97, 3) := by decide +kernel
theorem dX4_markA_42 : decode cX4_markA 42 = .ok (.aload_n 0, 1) := by decide +kernel
theorem dX4_markA_43 : decode cX4_markA 43 = .ok (.invokevirtual 115, 3) := by decide +kernel
theorem dX4_markA_46 : decode cX4_markA 46 = .ok (.iload_n 3, 1) := by decide +kernel
theorem dX4_markA_47 : decode cX4_markA 47 = .ok (.ireturn, 1) := by decide +kernel
set_option maxRecDepth 20000 in
theorem ggX4_markB_X4_refusalOfMark : GoodIn wsX4_markB wsX4_refusalOfMark := goodIn_r _ [10, 11, 12, 9, 13, 14, 15, 16, 17, 18] (by decide +kernel) (by decide +kernel)
set_option maxRecDepth 20000 in
theorem gX4_markB_X4_refusalOfMark : GoodIn wsX4_markB (va_wsS RX4 100 yX4_refusalOfMark wsX4_refusalOfMark) := goodIn_app (goodIn_of _ (by decide +kernel)) ggX4_markB_X4_refusalOfMark
set_option maxRecDepth 20000 in
theorem ggX4_markB_X4_tellWindows : GoodIn wsX4_markB wsX4_tellWindows := goodIn_r _ [22, 23, 24, 25, 26, 27, 28, 29, 30, 31, 32, 33, 34, 35, 36, 37, 38, 39, 40, 41, 42, 43, 44, 45, 46, 47, 48, 49, 50, 51, 52, 53, 54, 55, 56, 57, 92, 93, 94, 95, 96, 97, 98, 99, 100, 101, 102, 103, 104, 105, 106, 107, 108, 109, 110, 111, 112, 113, 114, 115, 116, 117] (by decide +kernel) (by decide +kernel)
set_option maxRecDepth 20000 in
theorem gX4_markB_X4_tellWindows : GoodIn wsX4_markB (wsV RX4 112 RX4 yX4_tellWindows wsX4_tellWindows) := goodIn_app (goodIn_of _ (by decide +kernel)) ggX4_markB_X4_tellWindows
set_option maxRecDepth 20000 in
theorem ggX4_markB_X4_dropEvents : GoodIn wsX4_markB wsX4_dropEvents := goodIn_r _ [61, 23, 62, 63, 64, 3, 4, 5, 6, 65, 66, 67, 68, 9, 69, 2, 1, 70, 71, 72, 73, 74, 75, 76, 77, 78, 79, 80, 81, 82, 83, 84, 85, 86, 87, 88, 89, 90, 91, 92, 93, 94, 95, 96, 97, 98, 99, 100, 101, 102, 103, 104, 105, 106, 107, 118, 119, 120, 121] (by decide +kernel) (by decide +kernel)
set_option maxRecDepth 20000 in
theorem gX4_markB_X4_dropEvents : GoodIn wsX4_markB (wsV RX4 115 RX4 yX4_dropEvents wsX4_dropEvents) := goodIn_app (goodIn_of _ (by decide +kernel)) ggX4_markB_X4_dropEvents
theorem dX4_markB_0 : decode cX4_markB 0 = .ok (.iload_n 1, 1) := by decide +kernel
theorem dX4_markB_1 : decode cX4_markB 1 = .ok (.aload_n 0, 1) := by decide +kernel
theorem dX4_markB_2 : decode cX4_markB 2 = .ok (.getfield 104, 3) := by decide +kernel
theorem dX4_markB_5 : decode cX4_markB 5 = .ok (.invokestatic 100, 3) := by decide +kernel
theorem dX4_markB_8 : decode cX4_markB 8 = .ok (.istore_n 2, 1) := by decide +kernel
theorem dX4_markB_9 : decode cX4_markB 9 = .ok (.iload_n 2, 1) := by decide +kernel
theorem dX4_markB_10 : decode cX4_markB 10 = .ok (.ifCond .eq 5, 3) := by decide +kernel
theorem dX4_markB_13 : decode cX4_markB 13 = .ok (.iload_n 2, 1) := by decide +kernel
theorem dX4_markB_14 : decode cX4_markB 14 = .ok (.ireturn, 1) := by decide +kernel
theorem dX4_markB_15 : decode cX4_markB 15 = .ok (.aload_n 0, 1) := by decide +kernel
theorem dX4_markB_16 : decode cX4_markB 16 = .ok (.aload_n 0, 1) := by decide +kernel
theorem dX4_markB_17 : decode cX4_markB 17 = .ok (.getfield 97, 3) := by decide +kernel
theorem dX4_markB_20 : decode cX4_markB 20 = .ok (.iload_n 1, 1) := by decide +kernel
theorem dX4_markB_21 : decode cX4_markB 21 = .ok (.invokestatic 107, 3) := by decide +kernel
theorem dX4_markB_24 : decode cX4_markB 24 = .ok (.invokevirtual 112, 3) := by decide +kernel
theorem dX4_markB_27 : decode cX4_markB 27 = .ok (.istore_n 3, 1) := by decide +kernel
theorem dX4_markB_28 : decode cX4_markB 28 = .ok (.iload_n 3, 1) := by decide +kernel
theorem dX4_markB_29 : decode cX4_markB 29 = .ok (.bipush (-3), 2) := by decide +kernel
theorem dX4_markB_31 : decode cX4_markB 31 = .ok (.if_icmp .ne 6, 3) := by decide +kernel
theorem dX4_markB_34 : decode cX4_markB 34 = .ok (.bipush (-3), 2) := by decide +kernel
theorem dX4_markB_36 : decode cX4_markB 36 = .ok (.ireturn, 1) := by decide +kernel
theorem dX4_markB_37 : decode cX4_markB 37 = .ok (.aload_n 0, 1) := by decide +kernel
theorem dX4_markB_38 : decode cX4_markB 38 = .ok (.iload_n 1, 1) := by decide +kernel
theorem dX4_markB_39 : decode cX4_markB 39 = .ok (.putfield 104, 3) := by decide +kernel
theorem dX4_markB_42 : decode cX4_markB 42 = .ok (.aload_n 0, 1) := by decide +kernel
theorem dX4_markB_43 : decode cX4_markB 43 = .ok (.invokevirtual 115, 3) := by decide +kernel
theorem dX4_markB_46 : decode cX4_markB 46 = .ok (.iload_n 3, 1) := by decide +kernel
theorem dX4_markB_47 : decode cX4_markB 47 = .ok (.ireturn, 1) := by decide +kernel
theorem dX4_mark_0 : decode cX4_mark 0 = .ok (.aload_n 0, 1) := by decide +kernel
theorem dX4_mark_1 : decode cX4_mark 1 = .ok (.getfield 97, 3) := by decide +kernel
theorem dX4_mark_4 : decode cX4_mark 4 = .ok (.aload_n 0, 1) := by decide +kernel
theorem dX4_mark_5 : decode cX4_mark 5 = .ok (.getfield 104, 3) := by decide +kernel
theorem dX4_mark_8 : decode cX4_mark 8 = .ok (.invokestatic 107, 3) := by decide +kernel
theorem dX4_mark_11 : decode cX4_mark 11 = .ok (.ireturn, 1) := by decide +kernel
set_option maxRecDepth 20000 in
theorem ggX4_available_X3_size : GoodIn wsX4_available wsX3_size := goodIn_r _ [6, 7, 24, 25, 26] (by decide +kernel) (by decide +kernel)
set_option maxRecDepth 20000 in
theorem gX4_available_X3_size : GoodIn wsX4_available (wsV RX4 118 RX3 yX3_size wsX3_size) := goodIn_app (goodIn_of _ (by decide +kernel)) ggX4_available_X3_size
theorem dX4_available_0 : decode cX4_available 0 = .ok (.aload_n 0, 1) := by decide +kernel
theorem dX4_available_1 : decode cX4_available 1 = .ok (.getfield 29, 3) := by decide +kernel
theorem dX4_available_4 : decode cX4_available 4 = .ok (.invokevirtual 118, 3) := by decide +kernel
theorem dX4_available_7 : decode cX4_available 7 = .ok (.ireturn, 1) := by decide +kernel
set_option maxRecDepth 20000 in
theorem ggX4_kind_X3_cell : GoodIn wsX4_kind wsX3_cell := goodIn_r _ [6, 7, 8, 9, 10, 11, 12, 13, 14, 5, 15, 16, 33, 34, 35] (by decide +kernel) (by decide +kernel)
set_option maxRecDepth 20000 in
theorem gX4_kind_X3_cell : GoodIn wsX4_kind (wsV RX4 119 RX3 yX3_cell wsX3_cell) := goodIn_app (goodIn_of _ (by decide +kernel)) ggX4_kind_X3_cell
theorem dX4_kind_0 : decode cX4_kind 0 = .ok (.aload_n 0, 1) := by decide +kernel
theorem dX4_kind_1 : decode cX4_kind 1 = .ok (.getfield 29, 3) := by decide +kernel
theorem dX4_kind_4 : decode cX4_kind 4 = .ok (.iload_n 1, 1) := by decide +kernel
theorem dX4_kind_5 : decode cX4_kind 5 = .ok (.iconst 0, 1) := by decide +kernel
theorem dX4_kind_6 : decode cX4_kind 6 = .ok (.invokevirtual 119, 3) := by decide +kernel
theorem dX4_kind_9 : decode cX4_kind 9 = .ok (.ireturn, 1) := by decide +kernel
set_option maxRecDepth 20000 in
theorem ggX4_field_X4_isWithin : GoodIn wsX4_field wsX4_isWithin := goodIn_r _ [5] (by decide +kernel) (by decide +kernel)
set_option maxRecDepth 20000 in
theorem gX4_field_X4_isWithin : GoodIn wsX4_field (va_wsS RX4 60 yX4_isWithin wsX4_isWithin) := goodIn_app (goodIn_of _ (by decide +kernel)) ggX4_field_X4_isWithin
set_option maxRecDepth 20000 in
theorem ggX4_field_X3_cell : GoodIn wsX4_field wsX3_cell := goodIn_r _ [10, 11, 12, 3, 4, 5, 13, 14, 15, 9, 16, 17, 34, 35, 36] (by decide +kernel) (by decide +kernel)
set_option maxRecDepth 20000 in
theorem gX4_field_X3_cell : GoodIn wsX4_field (wsV RX4 119 RX3 yX3_cell wsX3_cell) := goodIn_app (goodIn_of _ (by decide +kernel)) ggX4_field_X3_cell
theorem dX4_field_0 : decode cX4_field 0 = .ok (.iload_n 2, 1) := by decide +kernel
theorem dX4_field_1 : decode cX4_field 1 = .ok (.iconst 0, 1) := by decide +kernel
theorem dX4_field_2 : decode cX4_field 2 = .ok (.iconst 4, 1) := by decide +kernel
theorem dX4_field_3 : decode cX4_field 3 = .ok (.invokestatic 60, 3) := by decide +kernel
theorem dX4_field_6 : decode cX4_field 6 = .ok (.ifCond .eq 17, 3) := by decide +kernel
theorem dX4_field_9 : decode cX4_field 9 = .ok (.aload_n 0, 1) := by decide +kernel
theorem dX4_field_10 : decode cX4_field 10 = .ok (.getfield 29, 3) := by decide +kernel
theorem dX4_field_13 : decode cX4_field 13 = .ok (.iload_n 1, 1) := by decide +kernel
theorem dX4_field_14 : decode cX4_field 14 = .ok (.iload_n 2, 1) := by decide +kernel
theorem dX4_field_15 : decode cX4_field 15 = .ok (.iconst 1, 1) := by decide +kernel
theorem dX4_field_16 : decode cX4_field 16 = .ok (.iadd, 1) := by decide +kernel
theorem dX4_field_17 : decode cX4_field 17 = .ok (.invokevirtual 119, 3) := by decide +kernel
theorem dX4_field_20 : decode cX4_field 20 = .ok (.goto 4, 3) := by decide +kernel
theorem dX4_field_23 : decode cX4_field 23 = .ok (.iconst 0, 1) := by decide +kernel
theorem dX4_field_24 : decode cX4_field 24 = .ok (.ireturn, 1) := by decide +kernel
set_option maxRecDepth 20000 in
theorem ggX4_pop_X3_dropFirst : GoodIn wsX4_pop wsX3_dropFirst := goodIn_r _ [6, 7, 8, 25, 26, 27] (by decide +kernel) (by decide +kernel)
set_option maxRecDepth 20000 in
theorem gX4_pop_X3_dropFirst : GoodIn wsX4_pop (wsV RX4 122 RX3 yX3_dropFirst wsX3_dropFirst) := goodIn_app (goodIn_of _ (by decide +kernel)) ggX4_pop_X3_dropFirst
theorem dX4_pop_0 : decode cX4_pop 0 = .ok (.aload_n 0, 1) := by decide +kernel
theorem dX4_pop_1 : decode cX4_pop 1 = .ok (.getfield 29, 3) := by decide +kernel
theorem dX4_pop_4 : decode cX4_pop 4 = .ok (.invokevirtual 122, 3) := by decide +kernel
theorem dX4_pop_7 : decode cX4_pop 7 = .ok (.ireturn, 1) := by decide +kernel
set_option maxRecDepth 20000 in
theorem ggX4_look_X2_find : GoodIn wsX4_look wsX2_find := goodIn_r _ [6, 7, 8, 9, 5, 10, 11, 12, 13, 14, 15, 16, 17, 18, 19, 20, 21, 44, 38, 39, 40, 41, 42, 43] (by decide +kernel) (by decide +kernel)
set_option maxRecDepth 20000 in
theorem gX4_look_X2_find : GoodIn wsX4_look (wsV RX4 126 RX2 yX2_find wsX2_find) := goodIn_app (goodIn_of _ (by decide +kernel)) ggX4_look_X2_find
theorem dX4_look_0 : decode cX4_look 0 = .ok (.aload_n 0, 1) := by decide +kernel
theorem dX4_look_1 : decode cX4_look 1 = .ok (.getfield 22, 3) := by decide +kernel
theorem dX4_look_4 : decode cX4_look 4 = .ok (.iload_n 1, 1) := by decide +kernel
theorem dX4_look_5 : decode cX4_look 5 = .ok (.iload_n 2, 1) := by decide +kernel
theorem dX4_look_6 : decode cX4_look 6 = .ok (.invokevirtual 126, 3) := by decide +kernel
theorem dX4_look_9 : decode cX4_look 9 = .ok (.astore 4, 2) := by decide +kernel
theorem dX4_look_11 : decode cX4_look 11 = .ok (.aload 4, 2) := by decide +kernel
theorem dX4_look_13 : decode cX4_look 13 = .ok (.ifnonnull 5, 3) := by decide +kernel
theorem dX4_look_16 : decode cX4_look 16 = .ok (.iconst 0, 1) := by decide +kernel
theorem dX4_look_17 : decode cX4_look 17 = .ok (.ireturn, 1) := by decide +kernel
theorem dX4_look_18 : decode cX4_look 18 = .ok (.iload_n 3, 1) := by decide +kernel
theorem dX4_look_19 : decode cX4_look 19 = .ok (.tableswitch 43 0 2 #[25, 31, 37], 25) := by decide +kernel
theorem dX4_look_44 : decode cX4_look 44 = .ok (.aload 4, 2) := by decide +kernel
theorem dX4_look_46 : decode cX4_look 46 = .ok (.getfield 130, 3) := by decide +kernel
theorem dX4_look_49 : decode cX4_look 49 = .ok (.ireturn, 1) := by decide +kernel
theorem dX4_look_50 : decode cX4_look 50 = .ok (.aload 4, 2) := by decide +kernel
theorem dX4_look_52 : decode cX4_look 52 = .ok (.getfield 135, 3) := by decide +kernel
theorem dX4_look_55 : decode cX4_look 55 = .ok (.ireturn, 1) := by decide +kernel
theorem dX4_look_56 : decode cX4_look 56 = .ok (.aload 4, 2) := by decide +kernel
theorem dX4_look_58 : decode cX4_look 58 = .ok (.getfield 138, 3) := by decide +kernel
theorem dX4_look_61 : decode cX4_look 61 = .ok (.ireturn, 1) := by decide +kernel
theorem dX4_look_62 : decode cX4_look 62 = .ok (.iconst 0, 1) := by decide +kernel
theorem dX4_look_63 : decode cX4_look 63 = .ok (.ireturn, 1) := by decide +kernel
set_option maxRecDepth 20000 in
theorem ggX4_event_X4_isWithin : GoodIn wsX4_event wsX4_isWithin := goodIn_r _ [6] (by decide +kernel) (by decide +kernel)
set_option maxRecDepth 20000 in
theorem gX4_event_X4_isWithin : GoodIn wsX4_event (va_wsS RX4 60 yX4_isWithin wsX4_isWithin) := goodIn_app (goodIn_of _ (by decide +kernel)) ggX4_event_X4_isWithin
set_option maxRecDepth 20000 in
theorem ggX4_event_X0_time : GoodIn wsX4_event wsX0_time := goodIn_r _ [11, 12, 13, 14, 15, 10, 16, 17, 44, 45, 46, 47] (by decide +kernel) (by decide +kernel)
set_option maxRecDepth 20000 in
theorem gX4_event_X0_time : GoodIn wsX4_event (wsV RX4 76 RX0 yX0_time wsX0_time) := goodIn_app (goodIn_of _ (by decide +kernel)) ggX4_event_X0_time
set_option maxRecDepth 20000 in
theorem ggX4_event_X0_key : GoodIn wsX4_event wsX0_key := goodIn_r _ [21, 22, 13, 14, 15, 10, 16, 17, 44, 45, 46, 47] (by decide +kernel) (by decide +kernel)
set_option maxRecDepth 20000 in
theorem gX4_event_X0_key : GoodIn wsX4_event (wsV RX4 141 RX0 yX0_key wsX0_key) := goodIn_app (goodIn_of _ (by decide +kernel)) ggX4_event_X0_key
set_option maxRecDepth 20000 in
theorem ggX4_event_X0_value : GoodIn wsX4_event wsX0_value := goodIn_r _ [26, 27, 13, 14, 15, 10, 16, 17, 44, 45, 46, 47] (by decide +kernel) (by decide +kernel)
set_option maxRecDepth 20000 in
theorem gX4_event_X0_value : GoodIn wsX4_event (wsV RX4 80 RX0 yX0_value wsX0_value) := goodIn_app (goodIn_of _ (by decide +kernel)) ggX4_event_X0_value
theorem dX4_event_0 : decode cX4_event 0 = .ok (.iload_n 1, 1) := by decide +kernel
theorem dX4_event_1 : decode cX4_event 1 = .ok (.iconst 0, 1) := by decide +kernel
theorem dX4_event_2 : decode cX4_event 2 = .ok (.iconst 1, 1) := by decide +kernel
theorem dX4_event_3 : decode cX4_event 3 = .ok (.invokestatic 60, 3) := by decide +kernel
theorem dX4_event_6 : decode cX4_event 6 = .ok (.ifCond .ne 5, 3) := by decide +kernel
theorem dX4_event_9 : decode cX4_event 9 = .ok (.iconst 0, 1) := by decide +kernel
theorem dX4_event_10 : decode cX4_event 10 = .ok (.ireturn, 1) := by decide +kernel
theorem dX4_event_11 : decode cX4_event 11 = .ok (.iload_n 1, 1) := by decide +kernel
theorem dX4_event_12 : decode cX4_event 12 = .ok (.ifCond .ne 10, 3) := by decide +kernel
theorem dX4_event_15 : decode cX4_event 15 = .ok (.aload_n 0, 1) := by decide +kernel
theorem dX4_event_16 : decode cX4_event 16 = .ok (.getfield 10, 3) := by decide +kernel
theorem dX4_event_19 : decode cX4_event 19 = .ok (.goto 7, 3) := by decide +kernel
theorem dX4_event_22 : decode cX4_event 22 = .ok (.aload_n 0, 1) := by decide +kernel
theorem dX4_event_23 : decode cX4_event 23 = .ok (.getfield 16, 3) := by decide +kernel
theorem dX4_event_26 : decode cX4_event 26 = .ok (.astore 4, 2) := by decide +kernel
theorem dX4_event_28 : decode cX4_event 28 = .ok (.iload_n 3, 1) := by decide +kernel
theorem dX4_event_29 : decode cX4_event 29 = .ok (.tableswitch 48 0 2 #[27, 34, 41], 27) := by decide +kernel
theorem dX4_event_56 : decode cX4_event 56 = .ok (.aload 4, 2) := by decide +kernel
theorem dX4_event_58 : decode cX4_event 58 = .ok (.iload_n 2, 1) := by decide +kernel
theorem dX4_event_59 : decode cX4_event 59 = .ok (.invokevirtual 76, 3) := by decide +kernel
theorem dX4_event_62 : decode cX4_event 62 = .ok (.ireturn, 1) := by decide +kernel
theorem dX4_event_63 : decode cX4_event 63 = .ok (.aload 4, 2) := by decide +kernel
theorem dX4_event_65 : decode cX4_event 65 = .ok (.iload_n 2, 1) := by decide +kernel
theorem dX4_event_66 : decode cX4_event 66 = .ok (.invokevirtual 141, 3) := by decide +kernel
theorem dX4_event_69 : decode cX4_event 69 = .ok (.ireturn, 1) := by decide +kernel
theorem dX4_event_70 : decode cX4_event 70 = .ok (.aload 4, 2) := by decide +kernel
theorem dX4_event_72 : decode cX4_event 72 = .ok (.iload_n 2, 1) := by decide +kernel
theorem dX4_event_73 : decode cX4_event 73 = .ok (.invokevirtual 80, 3) := by decide +kernel
theorem dX4_event_76 : decode cX4_event 76 = .ok (.ireturn, 1) := by decide +kernel
theorem dX4_event_77 : decode cX4_event 77 = .ok (.iconst 0, 1) := by decide +kernel
theorem dX4_event_78 : decode cX4_event 78 = .ok (.ireturn, 1) := by decide +kernel
set_option maxRecDepth 20000 in
theorem ggX4_count_X0_size : GoodIn wsX4_count wsX0_size := goodIn_r _ [15, 16, 39, 40, 41, 42] (by decide +kernel) (by decide +kernel)
set_option maxRecDepth 20000 in
theorem gX4_count_X0_size : GoodIn wsX4_count (wsV RX4 68 RX0 yX0_size wsX0_size) := goodIn_app (goodIn_of _ (by decide +kernel)) ggX4_count_X0_size
set_option maxRecDepth 20000 in
theorem ggX4_count_X2_windowsUpTo : GoodIn wsX4_count wsX2_windowsUpTo := goodIn_r _ [21, 22, 43, 44, 45, 46, 47, 48, 49] (by decide +kernel) (by decide +kernel)
set_option maxRecDepth 20000 in
theorem gX4_count_X2_windowsUpTo : GoodIn wsX4_count (wsV RX4 150 RX2 yX2_windowsUpTo wsX2_windowsUpTo) := goodIn_app (goodIn_of _ (by decide +kernel)) ggX4_count_X2_windowsUpTo
theorem dX4_count_0 : decode cX4_count 0 = .ok (.iload_n 1, 1) := by decide +kernel
theorem dX4_count_1 : decode cX4_count 1 = .ok (.tableswitch 107 0 8 #[51, 59, 67, 72, 77, 82, 92, 97, 102], 51) := by decide +kernel
theorem dX4_count_52 : decode cX4_count 52 = .ok (.aload_n 0, 1) := by decide +kernel
theorem dX4_count_53 : decode cX4_count 53 = .ok (.getfield 10, 3) := by decide +kernel
theorem dX4_count_56 : decode cX4_count 56 = .ok (.invokevirtual 68, 3) := by decide +kernel
theorem dX4_count_59 : decode cX4_count 59 = .ok (.ireturn, 1) := by decide +kernel
theorem dX4_count_60 : decode cX4_count 60 = .ok (.aload_n 0, 1) := by decide +kernel
theorem dX4_count_61 : decode cX4_count 61 = .ok (.getfield 16, 3) := by decide +kernel
theorem dX4_count_64 : decode cX4_count 64 = .ok (.invokevirtual 68, 3) := by decide +kernel
theorem dX4_count_67 : decode cX4_count 67 = .ok (.ireturn, 1) := by decide +kernel
theorem dX4_count_68 : decode cX4_count 68 = .ok (.aload_n 0, 1) := by decide +kernel
theorem dX4_count_69 : decode cX4_count 69 = .ok (.getfield 144, 3) := by decide +kernel
theorem dX4_count_72 : decode cX4_count 72 = .ok (.ireturn, 1) := by decide +kernel
theorem dX4_count_73 : decode cX4_count 73 = .ok (.aload_n 0, 1) := by decide +kernel
theorem dX4_count_74 : decode cX4_count 74 = .ok (.getfield 97, 3) := by decide +kernel
theorem dX4_count_77 : decode cX4_count 77 = .ok (.ireturn, 1) := by decide +kernel
theorem dX4_count_78 : decode cX4_count 78 = .ok (.aload_n 0, 1) := by decide +kernel
theorem dX4_count_79 : decode cX4_count 79 = .ok (.getfield 104, 3) := by decide +kernel
theorem dX4_count_82 : decode cX4_count 82 = .ok (.ireturn, 1) := by decide +kernel
theorem dX4_count_83 : decode cX4_count 83 = .ok (.aload_n 0, 1) := by decide +kernel
theorem dX4_count_84 : decode cX4_count 84 = .ok (.getfield 22, 3) := by decide +kernel
theorem dX4_count_87 : decode cX4_count 87 = .ok (.ldc 149, 2) := by decide +kernel
theorem dX4_count_89 : decode cX4_count 89 = .ok (.invokevirtual 150, 3) := by decide +kernel
theorem dX4_count_92 : decode cX4_count 92 = .ok (.ireturn, 1) := by decide +kernel
theorem dX4_count_93 : decode cX4_count 93 = .ok (.aload_n 0, 1) := by decide +kernel
theorem dX4_count_94 : decode cX4_count 94 = .ok (.getfield 153, 3) := by decide +kernel
theorem dX4_count_97 : decode cX4_count 97 = .ok (.ireturn, 1) := by decide +kernel
theorem dX4_count_98 : decode cX4_count 98 = .ok (.aload_n 0, 1) := by decide +kernel
theorem dX4_count_99 : decode cX4_count 99 = .ok (.getfield 156, 3) := by decide +kernel
theorem dX4_count_102 : decode cX4_count 102 = .ok (.ireturn, 1) := by decide +kernel
theorem dX4_count_103 : decode cX4_count 103 = .ok (.aload_n 0, 1) := by decide +kernel
theorem dX4_count_104 : decode cX4_count 104 = .ok (.getfield 159, 3) := by decide +kernel
theorem dX4_count_107 : decode cX4_count 107 = .ok (.ireturn, 1) := by decide +kernel
theorem dX4_count_108 : decode cX4_count 108 = .ok (.bipush (-2), 2) := by decide +kernel
theorem dX4_count_110 : decode cX4_count 110 = .ok (.ireturn, 1) := by decide +kernel
set_option maxRecDepth 20000 in
theorem ggX4_startAgain_X0_clear : GoodIn wsX4_startAgain wsX0_clear := goodIn_r _ [16, 17, 47, 48, 49, 50] (by decide +kernel) (by decide +kernel)
set_option maxRecDepth 20000 in
theorem gX4_startAgain_X0_clear : GoodIn wsX4_startAgain (wsV RX4 162 RX0 yX0_clear wsX0_clear) := goodIn_app (goodIn_of _ (by decide +kernel)) ggX4_startAgain_X0_clear
set_option maxRecDepth 20000 in
theorem ggX4_startAgain_X2_clear : GoodIn wsX4_startAgain wsX2_clear := goodIn_r _ [22, 23, 51, 52, 53, 54, 55, 56, 57] (by decide +kernel) (by decide +kernel)
set_option maxRecDepth 20000 in
theorem gX4_startAgain_X2_clear : GoodIn wsX4_startAgain (wsV RX4 165 RX2 yX2_clear wsX2_clear) := goodIn_app (goodIn_of _ (by decide +kernel)) ggX4_startAgain_X2_clear
set_option maxRecDepth 20000 in
theorem ggX4_startAgain_X3_clear : GoodIn wsX4_startAgain wsX3_clear := goodIn_r _ [28, 29, 30, 58, 59, 60] (by decide +kernel) (by decide +kernel)
set_option maxRecDepth 20000 in
theorem gX4_startAgain_X3_clear : GoodIn wsX4_startAgain (wsV RX4 166 RX3 yX3_clear wsX3_clear) := goodIn_app (goodIn_of _ (by decide +kernel)) ggX4_startAgain_X3_clear
