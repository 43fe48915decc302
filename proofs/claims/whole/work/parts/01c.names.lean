set_option maxRecDepth 20000 in
theorem gX4_breakingPlace_X8_weight : GoodIn wsX4_breakingPlace (wsV RX4 83 RX8 yX8_weight wsX8_weight) := goodIn_app (goodIn_of _ (by decide +kernel)) ggX4_breakingPlace_X8_weight
set_option maxRecDepth 20000 in
theorem ggX4_breakingPlace_X2_bearing : GoodIn wsX4_breakingPlace wsX2_bearing := goodIn_r _ [30, 31, 32, 33, 29, 34, 35, 36, 37, 38, 39, 40, 41, 42, 43, 56] (by decide +kernel) (by decide +kernel)
set_option maxRecDepth 20000 in
theorem gX4_breakingPlace_X2_bearing : GoodIn wsX4_breakingPlace (wsV RX4 90 RX2 yX2_bearing wsX2_bearing) := goodIn_app (goodIn_of _ (by decide +kernel)) ggX4_breakingPlace_X2_bearing
theorem dX4_breakingPlace_0 : decode cX4_breakingPlace 0 = .ok (.iconst 0, 1) := by decide +kernel
theorem dX4_breakingPlace_1 : decode cX4_breakingPlace 1 = .ok (.istore_n 2, 1) := by decide +kernel
theorem dX4_breakingPlace_2 : decode cX4_breakingPlace 2 = .ok (.iload_n 2, 1) := by decide +kernel
theorem dX4_breakingPlace_3 : decode cX4_breakingPlace 3 = .ok (.aload_n 0, 1) := by decide +kernel
theorem dX4_breakingPlace_4 : decode cX4_breakingPlace 4 = .ok (.getfield 28, 3) := by decide +kernel
theorem dX4_breakingPlace_7 : decode cX4_breakingPlace 7 = .ok (.getfield 78, 3) := by decide +kernel
theorem dX4_breakingPlace_10 : decode cX4_breakingPlace 10 = .ok (.if_icmp .ge 51, 3) := by decide +kernel
theorem dX4_breakingPlace_13 : decode cX4_breakingPlace 13 = .ok (.aload_n 0, 1) := by decide +kernel
theorem dX4_breakingPlace_14 : decode cX4_breakingPlace 14 = .ok (.getfield 21, 3) := by decide +kernel
theorem dX4_breakingPlace_17 : decode cX4_breakingPlace 17 = .ok (.iload_n 1, 1) := by decide +kernel
theorem dX4_breakingPlace_18 : decode cX4_breakingPlace 18 = .ok (.iload_n 2, 1) := by decide +kernel
theorem dX4_breakingPlace_19 : decode cX4_breakingPlace 19 = .ok (.invokevirtual 79, 3) := by decide +kernel
theorem dX4_breakingPlace_22 : decode cX4_breakingPlace 22 = .ok (.ifCond .ne 31, 3) := by decide +kernel
theorem dX4_breakingPlace_25 : decode cX4_breakingPlace 25 = .ok (.aload_n 0, 1) := by decide +kernel
theorem dX4_breakingPlace_26 : decode cX4_breakingPlace 26 = .ok (.getfield 21, 3) := by decide +kernel
theorem dX4_breakingPlace_29 : decode cX4_breakingPlace 29 = .ok (.iload_n 1, 1) := by decide +kernel
theorem dX4_breakingPlace_30 : decode cX4_breakingPlace 30 = .ok (.iload_n 2, 1) := by decide +kernel
theorem dX4_breakingPlace_31 : decode cX4_breakingPlace 31 = .ok (.invokevirtual 83, 3) := by decide +kernel
theorem dX4_breakingPlace_34 : decode cX4_breakingPlace 34 = .ok (.aload_n 0, 1) := by decide +kernel
theorem dX4_breakingPlace_35 : decode cX4_breakingPlace 35 = .ok (.getfield 12, 3) := by decide +kernel
theorem dX4_breakingPlace_38 : decode cX4_breakingPlace 38 = .ok (.aload_n 0, 1) := by decide +kernel
theorem dX4_breakingPlace_39 : decode cX4_breakingPlace 39 = .ok (.getfield 28, 3) := by decide +kernel
theorem dX4_breakingPlace_42 : decode cX4_breakingPlace 42 = .ok (.getfield 86, 3) := by decide +kernel
theorem dX4_breakingPlace_45 : decode cX4_breakingPlace 45 = .ok (.iload_n 2, 1) := by decide +kernel
theorem dX4_breakingPlace_46 : decode cX4_breakingPlace 46 = .ok (.iaload, 1) := by decide +kernel
theorem dX4_breakingPlace_47 : decode cX4_breakingPlace 47 = .ok (.invokevirtual 90, 3) := by decide +kernel
theorem dX4_breakingPlace_50 : decode cX4_breakingPlace 50 = .ok (.if_icmp .le 5, 3) := by decide +kernel
theorem dX4_breakingPlace_53 : decode cX4_breakingPlace 53 = .ok (.iload_n 2, 1) := by decide +kernel
theorem dX4_breakingPlace_54 : decode cX4_breakingPlace 54 = .ok (.ireturn, 1) := by decide +kernel
theorem dX4_breakingPlace_55 : decode cX4_breakingPlace 55 = .ok (.iinc 2 1, 3) := by decide +kernel
theorem dX4_breakingPlace_58 : decode cX4_breakingPlace 58 = .ok (.goto (-56), 3) := by decide +kernel
theorem dX4_breakingPlace_61 : decode cX4_breakingPlace 61 = .ok (.iconst (-1), 1) := by decide +kernel
theorem dX4_breakingPlace_62 : decode cX4_breakingPlace 62 = .ok (.ireturn, 1) := by decide +kernel
theorem dX5_init_0 : decode cX5_init 0 = .ok (.aload_n 0, 1) := by decide +kernel
theorem dX5_init_1 : decode cX5_init 1 = .ok (.invokespecial 3, 3) := by decide +kernel
theorem dX5_init_4 : decode cX5_init 4 = .ok (.aload_n 0, 1) := by decide +kernel
theorem dX5_init_5 : decode cX5_init 5 = .ok (.bipush 24, 2) := by decide +kernel
theorem dX5_init_7 : decode cX5_init 7 = .ok (.newarray .boolean, 2) := by decide +kernel
theorem dX5_init_9 : decode cX5_init 9 = .ok (.putfield 9, 3) := by decide +kernel
theorem dX5_init_12 : decode cX5_init 12 = .ok (.aload_n 0, 1) := by decide +kernel
theorem dX5_init_13 : decode cX5_init 13 = .ok (.bipush 24, 2) := by decide +kernel
theorem dX5_init_15 : decode cX5_init 15 = .ok (.newarray .byte, 2) := by decide +kernel
theorem dX5_init_17 : decode cX5_init 17 = .ok (.putfield 15, 3) := by decide +kernel
theorem dX5_init_20 : decode cX5_init 20 = .ok (.aload_n 0, 1) := by decide +kernel
theorem dX5_init_21 : decode cX5_init 21 = .ok (.bipush 24, 2) := by decide +kernel
theorem dX5_init_23 : decode cX5_init 23 = .ok (.newarray .long, 2) := by decide +kernel
theorem dX5_init_25 : decode cX5_init 25 = .ok (.putfield 19, 3) := by decide +kernel
theorem dX5_init_28 : decode cX5_init 28 = .ok (.aload_n 0, 1) := by decide +kernel
theorem dX5_init_29 : decode cX5_init 29 = .ok (.iconst (-1), 1) := by decide +kernel
theorem dX5_init_30 : decode cX5_init 30 = .ok (.putfield 23, 3) := by decide +kernel
theorem dX5_init_33 : decode cX5_init 33 = .ok (.aload_n 0, 1) := by decide +kernel
theorem dX5_init_34 : decode cX5_init 34 = .ok (.iconst 0, 1) := by decide +kernel
theorem dX5_init_35 : decode cX5_init 35 = .ok (.putfield 27, 3) := by decide +kernel
theorem dX5_init_38 : decode cX5_init 38 = .ok (.return_, 1) := by decide +kernel
set_option maxRecDepth 20000 in
theorem ggX5_renew_X5_put : GoodIn wsX5_renew wsX5_put := goodIn_r _ [7, 1, 8, 9, 10, 11, 12, 13, 14, 15] (by decide +kernel) (by decide +kernel)
set_option maxRecDepth 20000 in
theorem gX5_renew_X5_put : GoodIn wsX5_renew (wsV RX5 30 RX5 yX5_put wsX5_put) := goodIn_app (goodIn_of _ (by decide +kernel)) ggX5_renew_X5_put
theorem dX5_renew_0 : decode cX5_renew 0 = .ok (.aload_n 0, 1) := by decide +kernel
theorem dX5_renew_1 : decode cX5_renew 1 = .ok (.iload_n 1, 1) := by decide +kernel
theorem dX5_renew_2 : decode cX5_renew 2 = .ok (.putfield 23, 3) := by decide +kernel
theorem dX5_renew_5 : decode cX5_renew 5 = .ok (.aload_n 0, 1) := by decide +kernel
theorem dX5_renew_6 : decode cX5_renew 6 = .ok (.iload_n 2, 1) := by decide +kernel
theorem dX5_renew_7 : decode cX5_renew 7 = .ok (.putfield 27, 3) := by decide +kernel
theorem dX5_renew_10 : decode cX5_renew 10 = .ok (.iconst 0, 1) := by decide +kernel
theorem dX5_renew_11 : decode cX5_renew 11 = .ok (.istore_n 3, 1) := by decide +kernel
theorem dX5_renew_12 : decode cX5_renew 12 = .ok (.iload_n 3, 1) := by decide +kernel
theorem dX5_renew_13 : decode cX5_renew 13 = .ok (.iload_n 2, 1) := by decide +kernel
theorem dX5_renew_14 : decode cX5_renew 14 = .ok (.if_icmp .ge 15, 3) := by decide +kernel
theorem dX5_renew_17 : decode cX5_renew 17 = .ok (.aload_n 0, 1) := by decide +kernel
theorem dX5_renew_18 : decode cX5_renew 18 = .ok (.iload_n 3, 1) := by decide +kernel
theorem dX5_renew_19 : decode cX5_renew 19 = .ok (.lconst 0, 1) := by decide +kernel
theorem dX5_renew_20 : decode cX5_renew 20 = .ok (.invokevirtual 30, 3) := by decide +kernel
theorem dX5_renew_23 : decode cX5_renew 23 = .ok (.iinc 3 1, 3) := by decide +kernel
theorem dX5_renew_26 : decode cX5_renew 26 = .ok (.goto (-14), 3) := by decide +kernel
theorem dX5_renew_29 : decode cX5_renew 29 = .ok (.return_, 1) := by decide +kernel
theorem dX5_refusal_0 : decode cX5_refusal 0 = .ok (.aload_n 0, 1) := by decide +kernel
theorem dX5_refusal_1 : decode cX5_refusal 1 = .ok (.getfield 23, 3) := by decide +kernel
theorem dX5_refusal_4 : decode cX5_refusal 4 = .ok (.iconst (-1), 1) := by decide +kernel
theorem dX5_refusal_5 : decode cX5_refusal 5 = .ok (.if_icmp .ne 6, 3) := by decide +kernel
theorem dX5_refusal_8 : decode cX5_refusal 8 = .ok (.bipush (-11), 2) := by decide +kernel
theorem dX5_refusal_10 : decode cX5_refusal 10 = .ok (.ireturn, 1) := by decide +kernel
theorem dX5_refusal_11 : decode cX5_refusal 11 = .ok (.aload_n 0, 1) := by decide +kernel
theorem dX5_refusal_12 : decode cX5_refusal 12 = .ok (.getfield 23, 3) := by decide +kernel
theorem dX5_refusal_15 : decode cX5_refusal 15 = .ok (.iload_n 1, 1) := by decide +kernel
theorem dX5_refusal_16 : decode cX5_refusal 16 = .ok (.if_icmp .eq 6, 3) := by decide +kernel
theorem dX5_refusal_19 : decode cX5_refusal 19 = .ok (.bipush (-12), 2) := by decide +kernel
theorem dX5_refusal_21 : decode cX5_refusal 21 = .ok (.ireturn, 1) := by decide +kernel
theorem dX5_refusal_22 : decode cX5_refusal 22 = .ok (.iload_n 2, 1) := by decide +kernel
theorem dX5_refusal_23 : decode cX5_refusal 23 = .ok (.ifCond .lt 13, 3) := by decide +kernel
theorem dX5_refusal_26 : decode cX5_refusal 26 = .ok (.iload_n 2, 1) := by decide +kernel
theorem dX5_refusal_27 : decode cX5_refusal 27 = .ok (.aload_n 0, 1) := by decide +kernel
theorem dX5_refusal_28 : decode cX5_refusal 28 = .ok (.getfield 27, 3) := by decide +kernel
theorem dX5_refusal_31 : decode cX5_refusal 31 = .ok (.iload_n 3, 1) := by decide +kernel
theorem dX5_refusal_32 : decode cX5_refusal 32 = .ok (.isub, 1) := by decide +kernel
theorem dX5_refusal_33 : decode cX5_refusal 33 = .ok (.if_icmp .le 8, 3) := by decide +kernel
theorem dX5_refusal_36 : decode cX5_refusal 36 = .ok (.bipush (-13), 2) := by decide +kernel
theorem dX5_refusal_38 : decode cX5_refusal 38 = .ok (.goto 4, 3) := by decide +kernel
theorem dX5_refusal_41 : decode cX5_refusal 41 = .ok (.iconst 0, 1) := by decide +kernel
theorem dX5_refusal_42 : decode cX5_refusal 42 = .ok (.ireturn, 1) := by decide +kernel
theorem dX5_put_0 : decode cX5_put 0 = .ok (.aload_n 0, 1) := by decide +kernel
theorem dX5_put_1 : decode cX5_put 1 = .ok (.getfield 23, 3) := by decide +kernel
theorem dX5_put_4 : decode cX5_put 4 = .ok (.ifCond .ne 23, 3) := by decide +kernel
theorem dX5_put_7 : decode cX5_put 7 = .ok (.aload_n 0, 1) := by decide +kernel
theorem dX5_put_8 : decode cX5_put 8 = .ok (.getfield 9, 3) := by decide +kernel
theorem dX5_put_11 : decode cX5_put 11 = .ok (.iload_n 1, 1) := by decide +kernel
theorem dX5_put_12 : decode cX5_put 12 = .ok (.lload_n 2, 1) := by decide +kernel
theorem dX5_put_13 : decode cX5_put 13 = .ok (.lconst 0, 1) := by decide +kernel
theorem dX5_put_14 : decode cX5_put 14 = .ok (.lcmp, 1) := by decide +kernel
theorem dX5_put_15 : decode cX5_put 15 = .ok (.ifCond .eq 7, 3) := by decide +kernel
theorem dX5_put_18 : decode cX5_put 18 = .ok (.iconst 1, 1) := by decide +kernel
theorem dX5_put_19 : decode cX5_put 19 = .ok (.goto 4, 3) := by decide +kernel
theorem dX5_put_22 : decode cX5_put 22 = .ok (.iconst 0, 1) := by decide +kernel
theorem dX5_put_23 : decode cX5_put 23 = .ok (.bastore, 1) := by decide +kernel
theorem dX5_put_24 : decode cX5_put 24 = .ok (.goto 30, 3) := by decide +kernel
theorem dX5_put_27 : decode cX5_put 27 = .ok (.aload_n 0, 1) := by decide +kernel
theorem dX5_put_28 : decode cX5_put 28 = .ok (.getfield 23, 3) := by decide +kernel
theorem dX5_put_31 : decode cX5_put 31 = .ok (.iconst 1, 1) := by decide +kernel
theorem dX5_put_32 : decode cX5_put 32 = .ok (.if_icmp .ne 15, 3) := by decide +kernel
theorem dX5_put_35 : decode cX5_put 35 = .ok (.aload_n 0, 1) := by decide +kernel
theorem dX5_put_36 : decode cX5_put 36 = .ok (.getfield 15, 3) := by decide +kernel
theorem dX5_put_39 : decode cX5_put 39 = .ok (.iload_n 1, 1) := by decide +kernel
theorem dX5_put_40 : decode cX5_put 40 = .ok (.lload_n 2, 1) := by decide +kernel
theorem dX5_put_41 : decode cX5_put 41 = .ok (.l2i, 1) := by decide +kernel
theorem dX5_put_42 : decode cX5_put 42 = .ok (.i2b, 1) := by decide +kernel
theorem dX5_put_43 : decode cX5_put 43 = .ok (.bastore, 1) := by decide +kernel
theorem dX5_put_44 : decode cX5_put 44 = .ok (.goto 10, 3) := by decide +kernel
theorem dX5_put_47 : decode cX5_put 47 = .ok (.aload_n 0, 1) := by decide +kernel
theorem dX5_put_48 : decode cX5_put 48 = .ok (.getfield 19, 3) := by decide +kernel
theorem dX5_put_51 : decode cX5_put 51 = .ok (.iload_n 1, 1) := by decide +kernel
theorem dX5_put_52 : decode cX5_put 52 = .ok (.lload_n 2, 1) := by decide +kernel
theorem dX5_put_53 : decode cX5_put 53 = .ok (.lastore, 1) := by decide +kernel
theorem dX5_put_54 : decode cX5_put 54 = .ok (.return_, 1) := by decide +kernel
theorem dX5_value_0 : decode cX5_value 0 = .ok (.aload_n 0, 1) := by decide +kernel
theorem dX5_value_1 : decode cX5_value 1 = .ok (.getfield 23, 3) := by decide +kernel
theorem dX5_value_4 : decode cX5_value 4 = .ok (.iconst 1, 1) := by decide +kernel
theorem dX5_value_5 : decode cX5_value 5 = .ok (.if_icmp .ne 13, 3) := by decide +kernel
theorem dX5_value_8 : decode cX5_value 8 = .ok (.aload_n 0, 1) := by decide +kernel
theorem dX5_value_9 : decode cX5_value 9 = .ok (.getfield 15, 3) := by decide +kernel
theorem dX5_value_12 : decode cX5_value 12 = .ok (.iload_n 1, 1) := by decide +kernel
theorem dX5_value_13 : decode cX5_value 13 = .ok (.baload, 1) := by decide +kernel
theorem dX5_value_14 : decode cX5_value 14 = .ok (.i2l, 1) := by decide +kernel
theorem dX5_value_15 : decode cX5_value 15 = .ok (.goto 9, 3) := by decide +kernel
theorem dX5_value_18 : decode cX5_value 18 = .ok (.aload_n 0, 1) := by decide +kernel
theorem dX5_value_19 : decode cX5_value 19 = .ok (.getfield 19, 3) := by decide +kernel
theorem dX5_value_22 : decode cX5_value 22 = .ok (.iload_n 1, 1) := by decide +kernel
theorem dX5_value_23 : decode cX5_value 23 = .ok (.laload, 1) := by decide +kernel
theorem dX5_value_24 : decode cX5_value 24 = .ok (.lreturn, 1) := by decide +kernel
set_option maxRecDepth 20000 in
theorem ggX5_isWay_X5_value : GoodIn wsX5_isWay wsX5_value := goodIn_r _ [5, 6, 7, 8, 22, 23, 24, 25, 26] (by decide +kernel) (by decide +kernel)
set_option maxRecDepth 20000 in
theorem gX5_isWay_X5_value : GoodIn wsX5_isWay (wsV RX5 34 RX5 yX5_value wsX5_value) := goodIn_app (goodIn_of _ (by decide +kernel)) ggX5_isWay_X5_value
set_option maxRecDepth 20000 in
theorem ggX5_isWay_X10_isSquare : GoodIn wsX5_isWay wsX10_isSquare := goodIn_r _ [11, 12, 13, 10, 14] (by decide +kernel) (by decide +kernel)
set_option maxRecDepth 20000 in
theorem gX5_isWay_X10_isSquare_n38 : GoodIn wsX5_isWay (wsX10_isSquare) := ggX5_isWay_X10_isSquare
set_option maxRecDepth 20000 in
theorem ggX5_isWay_X10_areNext : GoodIn wsX5_isWay wsX10_areNext := goodIn_r _ [16, 17, 18, 10, 19, 20, 21] (by decide +kernel) (by decide +kernel)
set_option maxRecDepth 20000 in
theorem gX5_isWay_X10_areNext_n42 : GoodIn wsX5_isWay (wsX10_areNext) := ggX5_isWay_X10_areNext
theorem dX5_isWay_0 : decode cX5_isWay 0 = .ok (.iload_n 1, 1) := by decide +kernel
theorem dX5_isWay_1 : decode cX5_isWay 1 = .ok (.istore_n 3, 1) := by decide +kernel
theorem dX5_isWay_2 : decode cX5_isWay 2 = .ok (.iload_n 3, 1) := by decide +kernel
theorem dX5_isWay_3 : decode cX5_isWay 3 = .ok (.iload_n 1, 1) := by decide +kernel
theorem dX5_isWay_4 : decode cX5_isWay 4 = .ok (.iload_n 2, 1) := by decide +kernel
theorem dX5_isWay_5 : decode cX5_isWay 5 = .ok (.iadd, 1) := by decide +kernel
theorem dX5_isWay_6 : decode cX5_isWay 6 = .ok (.if_icmp .ge 47, 3) := by decide +kernel
theorem dX5_isWay_9 : decode cX5_isWay 9 = .ok (.aload_n 0, 1) := by decide +kernel
theorem dX5_isWay_10 : decode cX5_isWay 10 = .ok (.iload_n 3, 1) := by decide +kernel
theorem dX5_isWay_11 : decode cX5_isWay 11 = .ok (.invokevirtual 34, 3) := by decide +kernel
theorem dX5_isWay_14 : decode cX5_isWay 14 = .ok (.invokestatic 38, 3) := by decide +kernel
theorem dX5_isWay_17 : decode cX5_isWay 17 = .ok (.ifCond .eq 28, 3) := by decide +kernel
theorem dX5_isWay_20 : decode cX5_isWay 20 = .ok (.iload_n 3, 1) := by decide +kernel
theorem dX5_isWay_21 : decode cX5_isWay 21 = .ok (.iload_n 1, 1) := by decide +kernel
theorem dX5_isWay_22 : decode cX5_isWay 22 = .ok (.if_icmp .le 25, 3) := by decide +kernel
theorem dX5_isWay_25 : decode cX5_isWay 25 = .ok (.aload_n 0, 1) := by decide +kernel
theorem dX5_isWay_26 : decode cX5_isWay 26 = .ok (.iload_n 3, 1) := by decide +kernel
theorem dX5_isWay_27 : decode cX5_isWay 27 = .ok (.iconst 1, 1) := by decide +kernel
theorem dX5_isWay_28 : decode cX5_isWay 28 = .ok (.isub, 1) := by decide +kernel
theorem dX5_isWay_29 : decode cX5_isWay 29 = .ok (.invokevirtual 34, 3) := by decide +kernel
theorem dX5_isWay_32 : decode cX5_isWay 32 = .ok (.l2i, 1) := by decide +kernel
theorem dX5_isWay_33 : decode cX5_isWay 33 = .ok (.aload_n 0, 1) := by decide +kernel
theorem dX5_isWay_34 : decode cX5_isWay 34 = .ok (.iload_n 3, 1) := by decide +kernel
theorem dX5_isWay_35 : decode cX5_isWay 35 = .ok (.invokevirtual 34, 3) := by decide +kernel
theorem dX5_isWay_38 : decode cX5_isWay 38 = .ok (.l2i, 1) := by decide +kernel
theorem dX5_isWay_39 : decode cX5_isWay 39 = .ok (.invokestatic 42, 3) := by decide +kernel
theorem dX5_isWay_42 : decode cX5_isWay 42 = .ok (.ifCond .ne 5, 3) := by decide +kernel
theorem dX5_isWay_45 : decode cX5_isWay 45 = .ok (.iconst 0, 1) := by decide +kernel
theorem dX5_isWay_46 : decode cX5_isWay 46 = .ok (.ireturn, 1) := by decide +kernel
theorem dX5_isWay_47 : decode cX5_isWay 47 = .ok (.iinc 3 1, 3) := by decide +kernel
theorem dX5_isWay_50 : decode cX5_isWay 50 = .ok (.goto (-48), 3) := by decide +kernel
theorem dX5_isWay_53 : decode cX5_isWay 53 = .ok (.iconst 1, 1) := by decide +kernel
theorem dX5_isWay_54 : decode cX5_isWay 54 = .ok (.ireturn, 1) := by decide +kernel
theorem dX6_init_0 : decode cX6_init 0 = .ok (.aload_n 0, 1) := by decide +kernel
theorem dX6_init_1 : decode cX6_init 1 = .ok (.invokespecial 3, 3) := by decide +kernel
theorem dX6_init_4 : decode cX6_init 4 = .ok (.aload_n 0, 1) := by decide +kernel
theorem dX6_init_5 : decode cX6_init 5 = .ok (.bipush 64, 2) := by decide +kernel
theorem dX6_init_7 : decode cX6_init 7 = .ok (.newarray .int, 2) := by decide +kernel
theorem dX6_init_9 : decode cX6_init 9 = .ok (.putfield 9, 3) := by decide +kernel
theorem dX6_init_12 : decode cX6_init 12 = .ok (.aload_n 0, 1) := by decide +kernel
theorem dX6_init_13 : decode cX6_init 13 = .ok (.bipush 64, 2) := by decide +kernel
theorem dX6_init_15 : decode cX6_init 15 = .ok (.newarray .int, 2) := by decide +kernel
theorem dX6_init_17 : decode cX6_init 17 = .ok (.putfield 15, 3) := by decide +kernel
theorem dX6_init_20 : decode cX6_init 20 = .ok (.return_, 1) := by decide +kernel
set_option maxRecDepth 20000 in
theorem ggX6_find_J7_fill_53178 : GoodIn wsX6_find wsJ7_fill_53178 := goodIn_r _ [10] (by decide +kernel) (by decide +kernel)
set_option maxRecDepth 20000 in
theorem gX6_find_J7_fill_53178 : GoodIn wsX6_find (va_wsS RX6 18 yJ7_fill_53178 wsJ7_fill_53178) := goodIn_app (goodIn_of _ (by decide +kernel)) ggX6_find_J7_fill_53178
set_option maxRecDepth 20000 in
theorem ggX6_find_X6_fit : GoodIn wsX6_find wsX6_fit := goodIn_r _ [15, 3, 16, 17, 5, 18, 19, 1, 20, 21, 22, 23, 2, 24, 25, 26, 27, 28, 29, 30, 31, 32, 50, 51, 52, 53, 54, 55, 56, 57, 58, 59, 60, 48, 49, 61] (by decide +kernel) (by decide +kernel)
set_option maxRecDepth 20000 in
theorem gX6_find_X6_fit : GoodIn wsX6_find (wsV RX6 39 RX6 yX6_fit wsX6_fit) := goodIn_app (goodIn_of _ (by decide +kernel)) ggX6_find_X6_fit
set_option maxRecDepth 20000 in
theorem ggX6_find_X6_narrow : GoodIn wsX6_find wsX6_narrow := goodIn_r _ [36, 37, 38, 39, 40, 41, 42, 14, 43, 1, 20, 21, 22, 23, 2, 24, 25, 26, 48, 49] (by decide +kernel) (by decide +kernel)
set_option maxRecDepth 20000 in
theorem gX6_find_X6_narrow : GoodIn wsX6_find (wsV RX6 46 RX6 yX6_narrow wsX6_narrow) := goodIn_app (goodIn_of _ (by decide +kernel)) ggX6_find_X6_narrow
set_option maxRecDepth 20000 in
theorem ggX6_find_X6_areOpen : GoodIn wsX6_find wsX6_areOpen := goodIn_r _ [47, 1, 2, 48, 49] (by decide +kernel) (by decide +kernel)
set_option maxRecDepth 20000 in
theorem gX6_find_X6_areOpen : GoodIn wsX6_find (wsV RX6 50 RX6 yX6_areOpen wsX6_areOpen) := goodIn_app (goodIn_of _ (by decide +kernel)) ggX6_find_X6_areOpen
theorem dX6_find_0 : decode cX6_find 0 = .ok (.aload_n 0, 1) := by decide +kernel
theorem dX6_find_1 : decode cX6_find 1 = .ok (.getfield 9, 3) := by decide +kernel
theorem dX6_find_4 : decode cX6_find 4 = .ok (.iconst 1, 1) := by decide +kernel
theorem dX6_find_5 : decode cX6_find 5 = .ok (.invokestatic 18, 3) := by decide +kernel
theorem dX6_find_8 : decode cX6_find 8 = .ok (.aload_n 0, 1) := by decide +kernel
theorem dX6_find_9 : decode cX6_find 9 = .ok (.getfield 15, 3) := by decide +kernel
theorem dX6_find_12 : decode cX6_find 12 = .ok (.bipush 99, 2) := by decide +kernel
theorem dX6_find_14 : decode cX6_find 14 = .ok (.invokestatic 18, 3) := by decide +kernel
theorem dX6_find_17 : decode cX6_find 17 = .ok (.iconst 0, 1) := by decide +kernel
theorem dX6_find_18 : decode cX6_find 18 = .ok (.istore_n 3, 1) := by decide +kernel
theorem dX6_find_19 : decode cX6_find 19 = .ok (.iload_n 3, 1) := by decide +kernel
theorem dX6_find_20 : decode cX6_find 20 = .ok (.aload_n 1, 1) := by decide +kernel
theorem dX6_find_21 : decode cX6_find 21 = .ok (.getfield 24, 3) := by decide +kernel
theorem dX6_find_24 : decode cX6_find 24 = .ok (.getfield 30, 3) := by decide +kernel
theorem dX6_find_27 : decode cX6_find 27 = .ok (.if_icmp .ge 31, 3) := by decide +kernel
theorem dX6_find_30 : decode cX6_find 30 = .ok (.iload_n 2, 1) := by decide +kernel
theorem dX6_find_31 : decode cX6_find 31 = .ok (.aload_n 1, 1) := by decide +kernel
theorem dX6_find_32 : decode cX6_find 32 = .ok (.getfield 24, 3) := by decide +kernel
theorem dX6_find_35 : decode cX6_find 35 = .ok (.getfield 36, 3) := by decide +kernel
theorem dX6_find_38 : decode cX6_find 38 = .ok (.iload_n 3, 1) := by decide +kernel
theorem dX6_find_39 : decode cX6_find 39 = .ok (.iaload, 1) := by decide +kernel
theorem dX6_find_40 : decode cX6_find 40 = .ok (.ishr, 1) := by decide +kernel
theorem dX6_find_41 : decode cX6_find 41 = .ok (.iconst 1, 1) := by decide +kernel
theorem dX6_find_42 : decode cX6_find 42 = .ok (.iand, 1) := by decide +kernel
theorem dX6_find_43 : decode cX6_find 43 = .ok (.ifCond .eq 9, 3) := by decide +kernel
theorem dX6_find_46 : decode cX6_find 46 = .ok (.aload_n 0, 1) := by decide +kernel
theorem dX6_find_47 : decode cX6_find 47 = .ok (.aload_n 1, 1) := by decide +kernel
theorem dX6_find_48 : decode cX6_find 48 = .ok (.iload_n 3, 1) := by decide +kernel
theorem dX6_find_49 : decode cX6_find 49 = .ok (.invokevirtual 39, 3) := by decide +kernel
theorem dX6_find_52 : decode cX6_find 52 = .ok (.iinc 3 1, 3) := by decide +kernel
theorem dX6_find_55 : decode cX6_find 55 = .ok (.goto (-36), 3) := by decide +kernel
theorem dX6_find_58 : decode cX6_find 58 = .ok (.aload_n 0, 1) := by decide +kernel
theorem dX6_find_59 : decode cX6_find 59 = .ok (.aload_n 1, 1) := by decide +kernel
theorem dX6_find_60 : decode cX6_find 60 = .ok (.getfield 43, 3) := by decide +kernel
theorem dX6_find_63 : decode cX6_find 63 = .ok (.invokevirtual 46, 3) := by decide +kernel
theorem dX6_find_66 : decode cX6_find 66 = .ok (.aload_n 0, 1) := by decide +kernel
theorem dX6_find_67 : decode cX6_find 67 = .ok (.invokevirtual 50, 3) := by decide +kernel
theorem dX6_find_70 : decode cX6_find 70 = .ok (.ireturn, 1) := by decide +kernel
set_option maxRecDepth 20000 in
theorem ggX6_fit_X2_trait : GoodIn wsX6_fit wsX2_trait := goodIn_r _ [20, 21, 35] (by decide +kernel) (by decide +kernel)
set_option maxRecDepth 20000 in
theorem gX6_fit_X2_trait : GoodIn wsX6_fit (wsV RX6 67 RX2 yX2_trait wsX2_trait) := goodIn_app (goodIn_of _ (by decide +kernel)) ggX6_fit_X2_trait
theorem dX6_fit_0 : decode cX6_fit 0 = .ok (.aload_n 1, 1) := by decide +kernel
theorem dX6_fit_1 : decode cX6_fit 1 = .ok (.getfield 24, 3) := by decide +kernel
theorem dX6_fit_4 : decode cX6_fit 4 = .ok (.getfield 54, 3) := by decide +kernel
theorem dX6_fit_7 : decode cX6_fit 7 = .ok (.iload_n 2, 1) := by decide +kernel
theorem dX6_fit_8 : decode cX6_fit 8 = .ok (.iaload, 1) := by decide +kernel
theorem dX6_fit_9 : decode cX6_fit 9 = .ok (.istore_n 3, 1) := by decide +kernel
theorem dX6_fit_10 : decode cX6_fit 10 = .ok (.aload_n 1, 1) := by decide +kernel
theorem dX6_fit_11 : decode cX6_fit 11 = .ok (.getfield 24, 3) := by decide +kernel
theorem dX6_fit_14 : decode cX6_fit 14 = .ok (.getfield 57, 3) := by decide +kernel
theorem dX6_fit_17 : decode cX6_fit 17 = .ok (.aload_n 1, 1) := by decide +kernel
theorem dX6_fit_18 : decode cX6_fit 18 = .ok (.getfield 24, 3) := by decide +kernel
theorem dX6_fit_21 : decode cX6_fit 21 = .ok (.getfield 36, 3) := by decide +kernel
theorem dX6_fit_24 : decode cX6_fit 24 = .ok (.iload_n 2, 1) := by decide +kernel
theorem dX6_fit_25 : decode cX6_fit 25 = .ok (.iaload, 1) := by decide +kernel
theorem dX6_fit_26 : decode cX6_fit 26 = .ok (.iaload, 1) := by decide +kernel
theorem dX6_fit_27 : decode cX6_fit 27 = .ok (.istore 4, 2) := by decide +kernel
theorem dX6_fit_29 : decode cX6_fit 29 = .ok (.aload_n 1, 1) := by decide +kernel
theorem dX6_fit_30 : decode cX6_fit 30 = .ok (.getfield 24, 3) := by decide +kernel
theorem dX6_fit_33 : decode cX6_fit 33 = .ok (.getfield 60, 3) := by decide +kernel
theorem dX6_fit_36 : decode cX6_fit 36 = .ok (.iload_n 2, 1) := by decide +kernel
theorem dX6_fit_37 : decode cX6_fit 37 = .ok (.iaload, 1) := by decide +kernel
theorem dX6_fit_38 : decode cX6_fit 38 = .ok (.bipush 7, 2) := by decide +kernel
theorem dX6_fit_40 : decode cX6_fit 40 = .ok (.aload_n 1, 1) := by decide +kernel
theorem dX6_fit_41 : decode cX6_fit 41 = .ok (.getfield 63, 3) := by decide +kernel
theorem dX6_fit_44 : decode cX6_fit 44 = .ok (.iload_n 3, 1) := by decide +kernel
theorem dX6_fit_45 : decode cX6_fit 45 = .ok (.iconst 1, 1) := by decide +kernel
theorem dX6_fit_46 : decode cX6_fit 46 = .ok (.invokevirtual 67, 3) := by decide +kernel
theorem dX6_fit_49 : decode cX6_fit 49 = .ok (.imul, 1) := by decide +kernel
theorem dX6_fit_50 : decode cX6_fit 50 = .ok (.isub, 1) := by decide +kernel
theorem dX6_fit_51 : decode cX6_fit 51 = .ok (.istore 5, 2) := by decide +kernel
theorem dX6_fit_53 : decode cX6_fit 53 = .ok (.iload 5, 2) := by decide +kernel
theorem dX6_fit_55 : decode cX6_fit 55 = .ok (.iload 4, 2) := by decide +kernel
theorem dX6_fit_57 : decode cX6_fit 57 = .ok (.iadd, 1) := by decide +kernel
theorem dX6_fit_58 : decode cX6_fit 58 = .ok (.istore 6, 2) := by decide +kernel
theorem dX6_fit_60 : decode cX6_fit 60 = .ok (.iload 5, 2) := by decide +kernel
theorem dX6_fit_62 : decode cX6_fit 62 = .ok (.iload 4, 2) := by decide +kernel
theorem dX6_fit_64 : decode cX6_fit 64 = .ok (.isub, 1) := by decide +kernel
theorem dX6_fit_65 : decode cX6_fit 65 = .ok (.istore 7, 2) := by decide +kernel
theorem dX6_fit_67 : decode cX6_fit 67 = .ok (.iload 6, 2) := by decide +kernel
theorem dX6_fit_69 : decode cX6_fit 69 = .ok (.ifCond .lt 16, 3) := by decide +kernel
theorem dX6_fit_72 : decode cX6_fit 72 = .ok (.sipush 9000, 3) := by decide +kernel
theorem dX6_fit_75 : decode cX6_fit 75 = .ok (.iload 6, 2) := by decide +kernel
theorem dX6_fit_77 : decode cX6_fit 77 = .ok (.iconst 1, 1) := by decide +kernel
theorem dX6_fit_78 : decode cX6_fit 78 = .ok (.iadd, 1) := by decide +kernel
theorem dX6_fit_79 : decode cX6_fit 79 = .ok (.idiv, 1) := by decide +kernel
theorem dX6_fit_80 : decode cX6_fit 80 = .ok (.iconst 1, 1) := by decide +kernel
theorem dX6_fit_81 : decode cX6_fit 81 = .ok (.iadd, 1) := by decide +kernel
theorem dX6_fit_82 : decode cX6_fit 82 = .ok (.goto 5, 3) := by decide +kernel
theorem dX6_fit_85 : decode cX6_fit 85 = .ok (.bipush 100, 2) := by decide +kernel
theorem dX6_fit_87 : decode cX6_fit 87 = .ok (.istore 8, 2) := by decide +kernel
theorem dX6_fit_89 : decode cX6_fit 89 = .ok (.iload 7, 2) := by decide +kernel
theorem dX6_fit_91 : decode cX6_fit 91 = .ok (.ifCond .le 12, 3) := by decide +kernel
theorem dX6_fit_94 : decode cX6_fit 94 = .ok (.sipush 9000, 3) := by decide +kernel
theorem dX6_fit_97 : decode cX6_fit 97 = .ok (.iload 7, 2) := by decide +kernel
theorem dX6_fit_99 : decode cX6_fit 99 = .ok (.idiv, 1) := by decide +kernel
theorem dX6_fit_100 : decode cX6_fit 100 = .ok (.goto 5, 3) := by decide +kernel
theorem dX6_fit_103 : decode cX6_fit 103 = .ok (.bipush 99, 2) := by decide +kernel
theorem dX6_fit_105 : decode cX6_fit 105 = .ok (.istore 9, 2) := by decide +kernel
theorem dX6_fit_107 : decode cX6_fit 107 = .ok (.aload_n 0, 1) := by decide +kernel
theorem dX6_fit_108 : decode cX6_fit 108 = .ok (.getfield 9, 3) := by decide +kernel
theorem dX6_fit_111 : decode cX6_fit 111 = .ok (.iload_n 3, 1) := by decide +kernel
theorem dX6_fit_112 : decode cX6_fit 112 = .ok (.aload_n 0, 1) := by decide +kernel
theorem dX6_fit_113 : decode cX6_fit 113 = .ok (.getfield 9, 3) := by decide +kernel
theorem dX6_fit_116 : decode cX6_fit 116 = .ok (.iload_n 3, 1) := by decide +kernel
theorem dX6_fit_117 : decode cX6_fit 117 = .ok (.iaload, 1) := by decide +kernel
theorem dX6_fit_118 : decode cX6_fit 118 = .ok (.iload 8, 2) := by decide +kernel
theorem dX6_fit_120 : decode cX6_fit 120 = .ok (.invokestatic 73, 3) := by decide +kernel
theorem dX6_fit_123 : decode cX6_fit 123 = .ok (.iastore, 1) := by decide +kernel
theorem dX6_fit_124 : decode cX6_fit 124 = .ok (.aload_n 0, 1) := by decide +kernel
theorem dX6_fit_125 : decode cX6_fit 125 = .ok (.getfield 15, 3) := by decide +kernel
theorem dX6_fit_128 : decode cX6_fit 128 = .ok (.iload_n 3, 1) := by decide +kernel
theorem dX6_fit_129 : decode cX6_fit 129 = .ok (.aload_n 0, 1) := by decide +kernel
theorem dX6_fit_130 : decode cX6_fit 130 = .ok (.getfield 15, 3) := by decide +kernel
theorem dX6_fit_133 : decode cX6_fit 133 = .ok (.iload_n 3, 1) := by decide +kernel
theorem dX6_fit_134 : decode cX6_fit 134 = .ok (.iaload, 1) := by decide +kernel
theorem dX6_fit_135 : decode cX6_fit 135 = .ok (.iload 9, 2) := by decide +kernel
theorem dX6_fit_137 : decode cX6_fit 137 = .ok (.invokestatic 78, 3) := by decide +kernel
theorem dX6_fit_140 : decode cX6_fit 140 = .ok (.iastore, 1) := by decide +kernel
theorem dX6_fit_141 : decode cX6_fit 141 = .ok (.return_, 1) := by decide +kernel
set_option maxRecDepth 20000 in
theorem ggX6_narrow_X10_beside : GoodIn wsX6_narrow wsX10_beside := goodIn_r _ [3] (by decide +kernel) (by decide +kernel)
set_option maxRecDepth 20000 in
theorem gX6_narrow_X10_beside_n81 : GoodIn wsX6_narrow (wsX10_beside) := ggX6_narrow_X10_beside
set_option maxRecDepth 20000 in
theorem ggX6_narrow_X6_draw : GoodIn wsX6_narrow wsX6_draw := goodIn_r _ [8, 9, 10, 11, 12, 13, 14, 15, 16, 17, 18, 19] (by decide +kernel) (by decide +kernel)
set_option maxRecDepth 20000 in
theorem gX6_narrow_X6_draw : GoodIn wsX6_narrow (wsV RX6 84 RX6 yX6_draw wsX6_draw) := goodIn_app (goodIn_of _ (by decide +kernel)) ggX6_narrow_X6_draw
theorem dX6_narrow_0 : decode cX6_narrow 0 = .ok (.iconst 0, 1) := by decide +kernel
theorem dX6_narrow_1 : decode cX6_narrow 1 = .ok (.istore_n 2, 1) := by decide +kernel
theorem dX6_narrow_2 : decode cX6_narrow 2 = .ok (.iload_n 2, 1) := by decide +kernel
theorem dX6_narrow_3 : decode cX6_narrow 3 = .ok (.bipush 64, 2) := by decide +kernel
theorem dX6_narrow_5 : decode cX6_narrow 5 = .ok (.if_icmp .ge 31, 3) := by decide +kernel
theorem dX6_narrow_8 : decode cX6_narrow 8 = .ok (.aload_n 0, 1) := by decide +kernel
theorem dX6_narrow_9 : decode cX6_narrow 9 = .ok (.iload_n 2, 1) := by decide +kernel
theorem dX6_narrow_10 : decode cX6_narrow 10 = .ok (.iload_n 2, 1) := by decide +kernel
theorem dX6_narrow_11 : decode cX6_narrow 11 = .ok (.iconst 0, 1) := by decide +kernel
theorem dX6_narrow_12 : decode cX6_narrow 12 = .ok (.invokestatic 81, 3) := by decide +kernel
theorem dX6_narrow_15 : decode cX6_narrow 15 = .ok (.iload_n 1, 1) := by decide +kernel
theorem dX6_narrow_16 : decode cX6_narrow 16 = .ok (.invokevirtual 84, 3) := by decide +kernel
theorem dX6_narrow_19 : decode cX6_narrow 19 = .ok (.aload_n 0, 1) := by decide +kernel
theorem dX6_narrow_20 : decode cX6_narrow 20 = .ok (.iload_n 2, 1) := by decide +kernel
theorem dX6_narrow_21 : decode cX6_narrow 21 = .ok (.iload_n 2, 1) := by decide +kernel
theorem dX6_narrow_22 : decode cX6_narrow 22 = .ok (.iconst 1, 1) := by decide +kernel
theorem dX6_narrow_23 : decode cX6_narrow 23 = .ok (.invokestatic 81, 3) := by decide +kernel
theorem dX6_narrow_26 : decode cX6_narrow 26 = .ok (.iload_n 1, 1) := by decide +kernel
theorem dX6_narrow_27 : decode cX6_narrow 27 = .ok (.invokevirtual 84, 3) := by decide +kernel
theorem dX6_narrow_30 : decode cX6_narrow 30 = .ok (.iinc 2 1, 3) := by decide +kernel
theorem dX6_narrow_33 : decode cX6_narrow 33 = .ok (.goto (-31), 3) := by decide +kernel
theorem dX6_narrow_36 : decode cX6_narrow 36 = .ok (.bipush 63, 2) := by decide +kernel
theorem dX6_narrow_38 : decode cX6_narrow 38 = .ok (.istore_n 2, 1) := by decide +kernel
theorem dX6_narrow_39 : decode cX6_narrow 39 = .ok (.iload_n 2, 1) := by decide +kernel
theorem dX6_narrow_40 : decode cX6_narrow 40 = .ok (.ifCond .lt 31, 3) := by decide +kernel
theorem dX6_narrow_43 : decode cX6_narrow 43 = .ok (.aload_n 0, 1) := by decide +kernel
theorem dX6_narrow_44 : decode cX6_narrow 44 = .ok (.iload_n 2, 1) := by decide +kernel
theorem dX6_narrow_45 : decode cX6_narrow 45 = .ok (.iload_n 2, 1) := by decide +kernel
theorem dX6_narrow_46 : decode cX6_narrow 46 = .ok (.iconst 3, 1) := by decide +kernel
theorem dX6_narrow_47 : decode cX6_narrow 47 = .ok (.invokestatic 81, 3) := by decide +kernel
theorem dX6_narrow_50 : decode cX6_narrow 50 = .ok (.iload_n 1, 1) := by decide +kernel
theorem dX6_narrow_51 : decode cX6_narrow 51 = .ok (.invokevirtual 84, 3) := by decide +kernel
theorem dX6_narrow_54 : decode cX6_narrow 54 = .ok (.aload_n 0, 1) := by decide +kernel
theorem dX6_narrow_55 : decode cX6_narrow 55 = .ok (.iload_n 2, 1) := by decide +kernel
theorem dX6_narrow_56 : decode cX6_narrow 56 = .ok (.iload_n 2, 1) := by decide +kernel
theorem dX6_narrow_57 : decode cX6_narrow 57 = .ok (.iconst 2, 1) := by decide +kernel
theorem dX6_narrow_58 : decode cX6_narrow 58 = .ok (.invokestatic 81, 3) := by decide +kernel
theorem dX6_narrow_61 : decode cX6_narrow 61 = .ok (.iload_n 1, 1) := by decide +kernel
theorem dX6_narrow_62 : decode cX6_narrow 62 = .ok (.invokevirtual 84, 3) := by decide +kernel
theorem dX6_narrow_65 : decode cX6_narrow 65 = .ok (.iinc 2 (-1), 3) := by decide +kernel
theorem dX6_narrow_68 : decode cX6_narrow 68 = .ok (.goto (-29), 3) := by decide +kernel
theorem dX6_narrow_71 : decode cX6_narrow 71 = .ok (.return_, 1) := by decide +kernel
theorem dX6_draw_0 : decode cX6_draw 0 = .ok (.iload_n 2, 1) := by decide +kernel
theorem dX6_draw_1 : decode cX6_draw 1 = .ok (.iconst (-1), 1) := by decide +kernel
theorem dX6_draw_2 : decode cX6_draw 2 = .ok (.if_icmp .eq 49, 3) := by decide +kernel
theorem dX6_draw_5 : decode cX6_draw 5 = .ok (.aload_n 0, 1) := by decide +kernel
theorem dX6_draw_6 : decode cX6_draw 6 = .ok (.getfield 9, 3) := by decide +kernel
theorem dX6_draw_9 : decode cX6_draw 9 = .ok (.iload_n 1, 1) := by decide +kernel
theorem dX6_draw_10 : decode cX6_draw 10 = .ok (.aload_n 0, 1) := by decide +kernel
theorem dX6_draw_11 : decode cX6_draw 11 = .ok (.getfield 9, 3) := by decide +kernel
theorem dX6_draw_14 : decode cX6_draw 14 = .ok (.iload_n 1, 1) := by decide +kernel
theorem dX6_draw_15 : decode cX6_draw 15 = .ok (.iaload, 1) := by decide +kernel
theorem dX6_draw_16 : decode cX6_draw 16 = .ok (.aload_n 0, 1) := by decide +kernel
theorem dX6_draw_17 : decode cX6_draw 17 = .ok (.getfield 9, 3) := by decide +kernel
theorem dX6_draw_20 : decode cX6_draw 20 = .ok (.iload_n 2, 1) := by decide +kernel
theorem dX6_draw_21 : decode cX6_draw 21 = .ok (.iaload, 1) := by decide +kernel
theorem dX6_draw_22 : decode cX6_draw 22 = .ok (.iload_n 3, 1) := by decide +kernel
theorem dX6_draw_23 : decode cX6_draw 23 = .ok (.isub, 1) := by decide +kernel
theorem dX6_draw_24 : decode cX6_draw 24 = .ok (.invokestatic 73, 3) := by decide +kernel
theorem dX6_draw_27 : decode cX6_draw 27 = .ok (.iastore, 1) := by decide +kernel
theorem dX6_draw_28 : decode cX6_draw 28 = .ok (.aload_n 0, 1) := by decide +kernel
theorem dX6_draw_29 : decode cX6_draw 29 = .ok (.getfield 15, 3) := by decide +kernel
theorem dX6_draw_32 : decode cX6_draw 32 = .ok (.iload_n 1, 1) := by decide +kernel
theorem dX6_draw_33 : decode cX6_draw 33 = .ok (.aload_n 0, 1) := by decide +kernel
theorem dX6_draw_34 : decode cX6_draw 34 = .ok (.getfield 15, 3) := by decide +kernel
theorem dX6_draw_37 : decode cX6_draw 37 = .ok (.iload_n 1, 1) := by decide +kernel
theorem dX6_draw_38 : decode cX6_draw 38 = .ok (.iaload, 1) := by decide +kernel
theorem dX6_draw_39 : decode cX6_draw 39 = .ok (.aload_n 0, 1) := by decide +kernel
theorem dX6_draw_40 : decode cX6_draw 40 = .ok (.getfield 15, 3) := by decide +kernel
theorem dX6_draw_43 : decode cX6_draw 43 = .ok (.iload_n 2, 1) := by decide +kernel
theorem dX6_draw_44 : decode cX6_draw 44 = .ok (.iaload, 1) := by decide +kernel
theorem dX6_draw_45 : decode cX6_draw 45 = .ok (.iload_n 3, 1) := by decide +kernel
theorem dX6_draw_46 : decode cX6_draw 46 = .ok (.iadd, 1) := by decide +kernel
theorem dX6_draw_47 : decode cX6_draw 47 = .ok (.invokestatic 78, 3) := by decide +kernel
theorem dX6_draw_50 : decode cX6_draw 50 = .ok (.iastore, 1) := by decide +kernel
theorem dX6_draw_51 : decode cX6_draw 51 = .ok (.return_, 1) := by decide +kernel
theorem dX6_areOpen_0 : decode cX6_areOpen 0 = .ok (.iconst 0, 1) := by decide +kernel
theorem dX6_areOpen_1 : decode cX6_areOpen 1 = .ok (.istore_n 1, 1) := by decide +kernel
theorem dX6_areOpen_2 : decode cX6_areOpen 2 = .ok (.iload_n 1, 1) := by decide +kernel
theorem dX6_areOpen_3 : decode cX6_areOpen 3 = .ok (.bipush 64, 2) := by decide +kernel
theorem dX6_areOpen_5 : decode cX6_areOpen 5 = .ok (.if_icmp .ge 26, 3) := by decide +kernel
theorem dX6_areOpen_8 : decode cX6_areOpen 8 = .ok (.aload_n 0, 1) := by decide +kernel
theorem dX6_areOpen_9 : decode cX6_areOpen 9 = .ok (.getfield 9, 3) := by decide +kernel
theorem dX6_areOpen_12 : decode cX6_areOpen 12 = .ok (.iload_n 1, 1) := by decide +kernel
theorem dX6_areOpen_13 : decode cX6_areOpen 13 = .ok (.iaload, 1) := by decide +kernel
theorem dX6_areOpen_14 : decode cX6_areOpen 14 = .ok (.aload_n 0, 1) := by decide +kernel
theorem dX6_areOpen_15 : decode cX6_areOpen 15 = .ok (.getfield 15, 3) := by decide +kernel
theorem dX6_areOpen_18 : decode cX6_areOpen 18 = .ok (.iload_n 1, 1) := by decide +kernel
theorem dX6_areOpen_19 : decode cX6_areOpen 19 = .ok (.iaload, 1) := by decide +kernel
theorem dX6_areOpen_20 : decode cX6_areOpen 20 = .ok (.if_icmp .le 5, 3) := by decide +kernel
theorem dX6_areOpen_23 : decode cX6_areOpen 23 = .ok (.iconst 0, 1) := by decide +kernel
theorem dX6_areOpen_24 : decode cX6_areOpen 24 = .ok (.ireturn, 1) := by decide +kernel
theorem dX6_areOpen_25 : decode cX6_areOpen 25 = .ok (.iinc 1 1, 3) := by decide +kernel
theorem dX6_areOpen_28 : decode cX6_areOpen 28 = .ok (.goto (-26), 3) := by decide +kernel
theorem dX6_areOpen_31 : decode cX6_areOpen 31 = .ok (.iconst 1, 1) := by decide +kernel
theorem dX6_areOpen_32 : decode cX6_areOpen 32 = .ok (.ireturn, 1) := by decide +kernel
theorem dX6_widest_0 : decode cX6_widest 0 = .ok (.iconst 0, 1) := by decide +kernel
theorem dX6_widest_1 : decode cX6_widest 1 = .ok (.istore_n 1, 1) := by decide +kernel
theorem dX6_widest_2 : decode cX6_widest 2 = .ok (.iconst 1, 1) := by decide +kernel
theorem dX6_widest_3 : decode cX6_widest 3 = .ok (.istore_n 2, 1) := by decide +kernel
theorem dX6_widest_4 : decode cX6_widest 4 = .ok (.iload_n 2, 1) := by decide +kernel
theorem dX6_widest_5 : decode cX6_widest 5 = .ok (.bipush 64, 2) := by decide +kernel
theorem dX6_widest_7 : decode cX6_widest 7 = .ok (.if_icmp .ge 40, 3) := by decide +kernel
theorem dX6_widest_10 : decode cX6_widest 10 = .ok (.aload_n 0, 1) := by decide +kernel
theorem dX6_widest_11 : decode cX6_widest 11 = .ok (.getfield 15, 3) := by decide +kernel
theorem dX6_widest_14 : decode cX6_widest 14 = .ok (.iload_n 2, 1) := by decide +kernel
theorem dX6_widest_15 : decode cX6_widest 15 = .ok (.iaload, 1) := by decide +kernel
theorem dX6_widest_16 : decode cX6_widest 16 = .ok (.aload_n 0, 1) := by decide +kernel
theorem dX6_widest_17 : decode cX6_widest 17 = .ok (.getfield 9, 3) := by decide +kernel
theorem dX6_widest_20 : decode cX6_widest 20 = .ok (.iload_n 2, 1) := by decide +kernel
theorem dX6_widest_21 : decode cX6_widest 21 = .ok (.iaload, 1) := by decide +kernel
theorem dX6_widest_22 : decode cX6_widest 22 = .ok (.isub, 1) := by decide +kernel
theorem dX6_widest_23 : decode cX6_widest 23 = .ok (.aload_n 0, 1) := by decide +kernel
theorem dX6_widest_24 : decode cX6_widest 24 = .ok (.getfield 15, 3) := by decide +kernel
theorem dX6_widest_27 : decode cX6_widest 27 = .ok (.iload_n 1, 1) := by decide +kernel
theorem dX6_widest_28 : decode cX6_widest 28 = .ok (.iaload, 1) := by decide +kernel
theorem dX6_widest_29 : decode cX6_widest 29 = .ok (.aload_n 0, 1) := by decide +kernel
theorem dX6_widest_30 : decode cX6_widest 30 = .ok (.getfield 9, 3) := by decide +kernel
theorem dX6_widest_33 : decode cX6_widest 33 = .ok (.iload_n 1, 1) := by decide +kernel
theorem dX6_widest_34 : decode cX6_widest 34 = .ok (.iaload, 1) := by decide +kernel
theorem dX6_widest_35 : decode cX6_widest 35 = .ok (.isub, 1) := by decide +kernel
theorem dX6_widest_36 : decode cX6_widest 36 = .ok (.if_icmp .le 5, 3) := by decide +kernel
theorem dX6_widest_39 : decode cX6_widest 39 = .ok (.iload_n 2, 1) := by decide +kernel
theorem dX6_widest_40 : decode cX6_widest 40 = .ok (.istore_n 1, 1) := by decide +kernel
theorem dX6_widest_41 : decode cX6_widest 41 = .ok (.iinc 2 1, 3) := by decide +kernel
theorem dX6_widest_44 : decode cX6_widest 44 = .ok (.goto (-40), 3) := by decide +kernel
theorem dX6_widest_47 : decode cX6_widest 47 = .ok (.iload_n 1, 1) := by decide +kernel
theorem dX6_widest_48 : decode cX6_widest 48 = .ok (.ireturn, 1) := by decide +kernel
theorem dX7_init_0 : decode cX7_init 0 = .ok (.aload_n 0, 1) := by decide +kernel
theorem dX7_init_1 : decode cX7_init 1 = .ok (.invokespecial 3, 3) := by decide +kernel
theorem dX7_init_4 : decode cX7_init 4 = .ok (.aload_n 0, 1) := by decide +kernel
theorem dX7_init_5 : decode cX7_init 5 = .ok (.sipush 140, 3) := by decide +kernel
theorem dX7_init_8 : decode cX7_init 8 = .ok (.newarray .byte, 2) := by decide +kernel
theorem dX7_init_10 : decode cX7_init 10 = .ok (.putfield 9, 3) := by decide +kernel
theorem dX7_init_13 : decode cX7_init 13 = .ok (.aload_n 0, 1) := by decide +kernel
theorem dX7_init_14 : decode cX7_init 14 = .ok (.iconst 0, 1) := by decide +kernel
theorem dX7_init_15 : decode cX7_init 15 = .ok (.putfield 15, 3) := by decide +kernel
theorem dX7_init_18 : decode cX7_init 18 = .ok (.aload_n 0, 1) := by decide +kernel
theorem dX7_init_19 : decode cX7_init 19 = .ok (.iconst 0, 1) := by decide +kernel
theorem dX7_init_20 : decode cX7_init 20 = .ok (.putfield 19, 3) := by decide +kernel
theorem dX7_init_23 : decode cX7_init 23 = .ok (.return_, 1) := by decide +kernel
theorem dX7_add_0 : decode cX7_add 0 = .ok (.aload_n 0, 1) := by decide +kernel
theorem dX7_add_1 : decode cX7_add 1 = .ok (.getfield 9, 3) := by decide +kernel
theorem dX7_add_4 : decode cX7_add 4 = .ok (.aload_n 0, 1) := by decide +kernel
theorem dX7_add_5 : decode cX7_add 5 = .ok (.getfield 15, 3) := by decide +kernel
theorem dX7_add_8 : decode cX7_add 8 = .ok (.iload_n 1, 1) := by decide +kernel
theorem dX7_add_9 : decode cX7_add 9 = .ok (.i2b, 1) := by decide +kernel
theorem dX7_add_10 : decode cX7_add 10 = .ok (.bastore, 1) := by decide +kernel
theorem dX7_add_11 : decode cX7_add 11 = .ok (.aload_n 0, 1) := by decide +kernel
theorem dX7_add_12 : decode cX7_add 12 = .ok (.dup, 1) := by decide +kernel
theorem dX7_add_13 : decode cX7_add 13 = .ok (.getfield 15, 3) := by decide +kernel
theorem dX7_add_16 : decode cX7_add 16 = .ok (.iconst 1, 1) := by decide +kernel
theorem dX7_add_17 : decode cX7_add 17 = .ok (.iadd, 1) := by decide +kernel
theorem dX7_add_18 : decode cX7_add 18 = .ok (.putfield 15, 3) := by decide +kernel
theorem dX7_add_21 : decode cX7_add 21 = .ok (.return_, 1) := by decide +kernel
set_option maxRecDepth 20000 in
theorem ggX7_rewind_X7_skipBlanks : GoodIn wsX7_rewind wsX7_skipBlanks := goodIn_r _ [6, 1, 7, 8, 9, 10, 11] (by decide +kernel) (by decide +kernel)
set_option maxRecDepth 20000 in
theorem gX7_rewind_X7_skipBlanks : GoodIn wsX7_rewind (wsV RX7 22 RX7 yX7_skipBlanks wsX7_skipBlanks) := goodIn_app (goodIn_of _ (by decide +kernel)) ggX7_rewind_X7_skipBlanks
theorem dX7_rewind_0 : decode cX7_rewind 0 = .ok (.aload_n 0, 1) := by decide +kernel
theorem dX7_rewind_1 : decode cX7_rewind 1 = .ok (.iconst 0, 1) := by decide +kernel
theorem dX7_rewind_2 : decode cX7_rewind 2 = .ok (.putfield 19, 3) := by decide +kernel
theorem dX7_rewind_5 : decode cX7_rewind 5 = .ok (.aload_n 0, 1) := by decide +kernel
theorem dX7_rewind_6 : decode cX7_rewind 6 = .ok (.invokevirtual 22, 3) := by decide +kernel
theorem dX7_rewind_9 : decode cX7_rewind 9 = .ok (.return_, 1) := by decide +kernel
theorem dX7_skipBlanks_0 : decode cX7_skipBlanks 0 = .ok (.aload_n 0, 1) := by decide +kernel
theorem dX7_skipBlanks_1 : decode cX7_skipBlanks 1 = .ok (.getfield 19, 3) := by decide +kernel
theorem dX7_skipBlanks_4 : decode cX7_skipBlanks 4 = .ok (.aload_n 0, 1) := by decide +kernel
theorem dX7_skipBlanks_5 : decode cX7_skipBlanks 5 = .ok (.getfield 15, 3) := by decide +kernel
theorem dX7_skipBlanks_8 : decode cX7_skipBlanks 8 = .ok (.if_icmp .ge 30, 3) := by decide +kernel
theorem dX7_skipBlanks_11 : decode cX7_skipBlanks 11 = .ok (.aload_n 0, 1) := by decide +kernel
theorem dX7_skipBlanks_12 : decode cX7_skipBlanks 12 = .ok (.getfield 9, 3) := by decide +kernel
theorem dX7_skipBlanks_15 : decode cX7_skipBlanks 15 = .ok (.aload_n 0, 1) := by decide +kernel
theorem dX7_skipBlanks_16 : decode cX7_skipBlanks 16 = .ok (.getfield 19, 3) := by decide +kernel
theorem dX7_skipBlanks_19 : decode cX7_skipBlanks 19 = .ok (.baload, 1) := by decide +kernel
theorem dX7_skipBlanks_20 : decode cX7_skipBlanks 20 = .ok (.bipush 32, 2) := by decide +kernel
theorem dX7_skipBlanks_22 : decode cX7_skipBlanks 22 = .ok (.if_icmp .ne 16, 3) := by decide +kernel
theorem dX7_skipBlanks_25 : decode cX7_skipBlanks 25 = .ok (.aload_n 0, 1) := by decide +kernel
theorem dX7_skipBlanks_26 : decode cX7_skipBlanks 26 = .ok (.dup, 1) := by decide +kernel
theorem dX7_skipBlanks_27 : decode cX7_skipBlanks 27 = .ok (.getfield 19, 3) := by decide +kernel
theorem dX7_skipBlanks_30 : decode cX7_skipBlanks 30 = .ok (.iconst 1, 1) := by decide +kernel
theorem dX7_skipBlanks_31 : decode cX7_skipBlanks 31 = .ok (.iadd, 1) := by decide +kernel
theorem dX7_skipBlanks_32 : decode cX7_skipBlanks 32 = .ok (.putfield 19, 3) := by decide +kernel
theorem dX7_skipBlanks_35 : decode cX7_skipBlanks 35 = .ok (.goto (-35), 3) := by decide +kernel
theorem dX7_skipBlanks_38 : decode cX7_skipBlanks 38 = .ok (.return_, 1) := by decide +kernel
theorem dX7_sign_0 : decode cX7_sign 0 = .ok (.aload_n 0, 1) := by decide +kernel
theorem dX7_sign_1 : decode cX7_sign 1 = .ok (.getfield 19, 3) := by decide +kernel
theorem dX7_sign_4 : decode cX7_sign 4 = .ok (.aload_n 0, 1) := by decide +kernel
theorem dX7_sign_5 : decode cX7_sign 5 = .ok (.getfield 15, 3) := by decide +kernel
theorem dX7_sign_8 : decode cX7_sign 8 = .ok (.if_icmp .ge 15, 3) := by decide +kernel
theorem dX7_sign_11 : decode cX7_sign 11 = .ok (.aload_n 0, 1) := by decide +kernel
theorem dX7_sign_12 : decode cX7_sign 12 = .ok (.getfield 9, 3) := by decide +kernel
theorem dX7_sign_15 : decode cX7_sign 15 = .ok (.aload_n 0, 1) := by decide +kernel
theorem dX7_sign_16 : decode cX7_sign 16 = .ok (.getfield 19, 3) := by decide +kernel
theorem dX7_sign_19 : decode cX7_sign 19 = .ok (.baload, 1) := by decide +kernel
theorem dX7_sign_20 : decode cX7_sign 20 = .ok (.goto 4, 3) := by decide +kernel
theorem dX7_sign_23 : decode cX7_sign 23 = .ok (.iconst (-1), 1) := by decide +kernel
theorem dX7_sign_24 : decode cX7_sign 24 = .ok (.ireturn, 1) := by decide +kernel
set_option maxRecDepth 20000 in
theorem ggX7_isDigit_X7_sign : GoodIn wsX7_isDigit wsX7_sign := goodIn_r _ [5, 6, 7, 8, 12, 13, 14] (by decide +kernel) (by decide +kernel)
set_option maxRecDepth 20000 in
theorem gX7_isDigit_X7_sign : GoodIn wsX7_isDigit (wsV RX7 25 RX7 yX7_sign wsX7_sign) := goodIn_app (goodIn_of _ (by decide +kernel)) ggX7_isDigit_X7_sign
set_option maxRecDepth 20000 in
theorem ggX7_isDigit_X10_isWithin : GoodIn wsX7_isDigit wsX10_isWithin := goodIn_r _ [11] (by decide +kernel) (by decide +kernel)
set_option maxRecDepth 20000 in
theorem gX7_isDigit_X10_isWithin_n29 : GoodIn wsX7_isDigit (wsX10_isWithin) := ggX7_isDigit_X10_isWithin
theorem dX7_isDigit_0 : decode cX7_isDigit 0 = .ok (.aload_n 0, 1) := by decide +kernel
theorem dX7_isDigit_1 : decode cX7_isDigit 1 = .ok (.invokevirtual 25, 3) := by decide +kernel
theorem dX7_isDigit_4 : decode cX7_isDigit 4 = .ok (.i2l, 1) := by decide +kernel
theorem dX7_isDigit_5 : decode cX7_isDigit 5 = .ok (.bipush 48, 2) := by decide +kernel
theorem dX7_isDigit_7 : decode cX7_isDigit 7 = .ok (.bipush 57, 2) := by decide +kernel
theorem dX7_isDigit_9 : decode cX7_isDigit 9 = .ok (.invokestatic 29, 3) := by decide +kernel
theorem dX7_isDigit_12 : decode cX7_isDigit 12 = .ok (.ireturn, 1) := by decide +kernel
set_option maxRecDepth 20000 in
theorem ggX7_pass_X7_skipBlanks : GoodIn wsX7_pass wsX7_skipBlanks := goodIn_r _ [6, 1, 7, 8, 9, 10, 11] (by decide +kernel) (by decide +kernel)
set_option maxRecDepth 20000 in
theorem gX7_pass_X7_skipBlanks : GoodIn wsX7_pass (wsV RX7 22 RX7 yX7_skipBlanks wsX7_skipBlanks) := goodIn_app (goodIn_of _ (by decide +kernel)) ggX7_pass_X7_skipBlanks
theorem dX7_pass_0 : decode cX7_pass 0 = .ok (.aload_n 0, 1) := by decide +kernel
theorem dX7_pass_1 : decode cX7_pass 1 = .ok (.dup, 1) := by decide +kernel
theorem dX7_pass_2 : decode cX7_pass 2 = .ok (.getfield 19, 3) := by decide +kernel
theorem dX7_pass_5 : decode cX7_pass 5 = .ok (.iconst 1, 1) := by decide +kernel
theorem dX7_pass_6 : decode cX7_pass 6 = .ok (.iadd, 1) := by decide +kernel
theorem dX7_pass_7 : decode cX7_pass 7 = .ok (.putfield 19, 3) := by decide +kernel
theorem dX7_pass_10 : decode cX7_pass 10 = .ok (.aload_n 0, 1) := by decide +kernel
theorem dX7_pass_11 : decode cX7_pass 11 = .ok (.invokevirtual 22, 3) := by decide +kernel
theorem dX7_pass_14 : decode cX7_pass 14 = .ok (.return_, 1) := by decide +kernel
set_option maxRecDepth 20000 in
theorem ggX7_takes_X7_sign : GoodIn wsX7_takes wsX7_sign := goodIn_r _ [5, 6, 7, 8, 17, 18, 19] (by decide +kernel) (by decide +kernel)
set_option maxRecDepth 20000 in
theorem gX7_takes_X7_sign : GoodIn wsX7_takes (wsV RX7 25 RX7 yX7_sign wsX7_sign) := goodIn_app (goodIn_of _ (by decide +kernel)) ggX7_takes_X7_sign
set_option maxRecDepth 20000 in
theorem ggX7_takes_X7_pass : GoodIn wsX7_takes wsX7_pass := goodIn_r _ [12, 6, 13, 14, 15, 4, 16, 7, 8, 17, 18, 19] (by decide +kernel) (by decide +kernel)
set_option maxRecDepth 20000 in
theorem gX7_takes_X7_pass : GoodIn wsX7_takes (wsV RX7 33 RX7 yX7_pass wsX7_pass) := goodIn_app (goodIn_of _ (by decide +kernel)) ggX7_takes_X7_pass
theorem dX7_takes_0 : decode cX7_takes 0 = .ok (.aload_n 0, 1) := by decide +kernel
theorem dX7_takes_1 : decode cX7_takes 1 = .ok (.invokevirtual 25, 3) := by decide +kernel
theorem dX7_takes_4 : decode cX7_takes 4 = .ok (.iload_n 1, 1) := by decide +kernel
theorem dX7_takes_5 : decode cX7_takes 5 = .ok (.if_icmp .ne 7, 3) := by decide +kernel
theorem dX7_takes_8 : decode cX7_takes 8 = .ok (.iconst 1, 1) := by decide +kernel
theorem dX7_takes_9 : decode cX7_takes 9 = .ok (.goto 4, 3) := by decide +kernel
theorem dX7_takes_12 : decode cX7_takes 12 = .ok (.iconst 0, 1) := by decide +kernel
theorem dX7_takes_13 : decode cX7_takes 13 = .ok (.istore_n 2, 1) := by decide +kernel
theorem dX7_takes_14 : decode cX7_takes 14 = .ok (.iload_n 2, 1) := by decide +kernel
theorem dX7_takes_15 : decode cX7_takes 15 = .ok (.ifCond .eq 7, 3) := by decide +kernel
theorem dX7_takes_18 : decode cX7_takes 18 = .ok (.aload_n 0, 1) := by decide +kernel
theorem dX7_takes_19 : decode cX7_takes 19 = .ok (.invokevirtual 33, 3) := by decide +kernel
theorem dX7_takes_22 : decode cX7_takes 22 = .ok (.iload_n 2, 1) := by decide +kernel
theorem dX7_takes_23 : decode cX7_takes 23 = .ok (.ireturn, 1) := by decide +kernel
theorem dX7_fault_0 : decode cX7_fault 0 = .ok (.bipush (-20), 2) := by decide +kernel
theorem dX7_fault_2 : decode cX7_fault 2 = .ok (.aload_n 0, 1) := by decide +kernel
theorem dX7_fault_3 : decode cX7_fault 3 = .ok (.getfield 19, 3) := by decide +kernel
theorem dX7_fault_6 : decode cX7_fault 6 = .ok (.isub, 1) := by decide +kernel
theorem dX7_fault_7 : decode cX7_fault 7 = .ok (.ireturn, 1) := by decide +kernel
set_option maxRecDepth 20000 in
theorem ggX7_number_X7_isDigit : GoodIn wsX7_number wsX7_isDigit := goodIn_r _ [11, 12, 13, 14, 10, 15, 1, 2, 16, 17, 18, 19, 24, 25, 26] (by decide +kernel) (by decide +kernel)
set_option maxRecDepth 20000 in
theorem gX7_number_X7_isDigit : GoodIn wsX7_number (wsV RX7 36 RX7 yX7_isDigit wsX7_isDigit) := goodIn_app (goodIn_of _ (by decide +kernel)) ggX7_number_X7_isDigit
set_option maxRecDepth 20000 in
theorem ggX7_number_X7_sign : GoodIn wsX7_number wsX7_sign := goodIn_r _ [15, 1, 2, 16, 24, 25, 26] (by decide +kernel) (by decide +kernel)
set_option maxRecDepth 20000 in
theorem gX7_number_X7_sign : GoodIn wsX7_number (wsV RX7 25 RX7 yX7_sign wsX7_sign) := goodIn_app (goodIn_of _ (by decide +kernel)) ggX7_number_X7_sign
set_option maxRecDepth 20000 in
theorem ggX7_number_X10_isWithin : GoodIn wsX7_number wsX10_isWithin := goodIn_r _ [19] (by decide +kernel) (by decide +kernel)
set_option maxRecDepth 20000 in
theorem gX7_number_X10_isWithin_n29 : GoodIn wsX7_number (wsX10_isWithin) := ggX7_number_X10_isWithin
set_option maxRecDepth 20000 in
theorem ggX7_number_X7_skipBlanks : GoodIn wsX7_number wsX7_skipBlanks := goodIn_r _ [23, 1, 2, 16, 24, 25, 26] (by decide +kernel) (by decide +kernel)
set_option maxRecDepth 20000 in
theorem gX7_number_X7_skipBlanks : GoodIn wsX7_number (wsV RX7 22 RX7 yX7_skipBlanks wsX7_skipBlanks) := goodIn_app (goodIn_of _ (by decide +kernel)) ggX7_number_X7_skipBlanks
theorem dX7_number_0 : decode cX7_number 0 = .ok (.aload_n 0, 1) := by decide +kernel
theorem dX7_number_1 : decode cX7_number 1 = .ok (.getfield 19, 3) := by decide +kernel
theorem dX7_number_4 : decode cX7_number 4 = .ok (.istore_n 3, 1) := by decide +kernel
theorem dX7_number_5 : decode cX7_number 5 = .ok (.iconst 0, 1) := by decide +kernel
theorem dX7_number_6 : decode cX7_number 6 = .ok (.istore 4, 2) := by decide +kernel
theorem dX7_number_8 : decode cX7_number 8 = .ok (.aload_n 0, 1) := by decide +kernel
theorem dX7_number_9 : decode cX7_number 9 = .ok (.getfield 19, 3) := by decide +kernel
theorem dX7_number_12 : decode cX7_number 12 = .ok (.aload_n 0, 1) := by decide +kernel
theorem dX7_number_13 : decode cX7_number 13 = .ok (.getfield 15, 3) := by decide +kernel
theorem dX7_number_16 : decode cX7_number 16 = .ok (.if_icmp .ge 44, 3) := by decide +kernel
theorem dX7_number_19 : decode cX7_number 19 = .ok (.aload_n 0, 1) := by decide +kernel
theorem dX7_number_20 : decode cX7_number 20 = .ok (.invokevirtual 36, 3) := by decide +kernel
theorem dX7_number_23 : decode cX7_number 23 = .ok (.ifCond .eq 37, 3) := by decide +kernel
theorem dX7_number_26 : decode cX7_number 26 = .ok (.sipush 1000, 3) := by decide +kernel
theorem dX7_number_29 : decode cX7_number 29 = .ok (.bipush 10, 2) := by decide +kernel
theorem dX7_number_31 : decode cX7_number 31 = .ok (.iload 4, 2) := by decide +kernel
theorem dX7_number_33 : decode cX7_number 33 = .ok (.imul, 1) := by decide +kernel
theorem dX7_number_34 : decode cX7_number 34 = .ok (.aload_n 0, 1) := by decide +kernel
theorem dX7_number_35 : decode cX7_number 35 = .ok (.invokevirtual 25, 3) := by decide +kernel
theorem dX7_number_38 : decode cX7_number 38 = .ok (.iadd, 1) := by decide +kernel
theorem dX7_number_39 : decode cX7_number 39 = .ok (.bipush 48, 2) := by decide +kernel
theorem dX7_number_41 : decode cX7_number 41 = .ok (.isub, 1) := by decide +kernel
theorem dX7_number_42 : decode cX7_number 42 = .ok (.invokestatic 40, 3) := by decide +kernel
theorem dX7_number_45 : decode cX7_number 45 = .ok (.istore 4, 2) := by decide +kernel
theorem dX7_number_47 : decode cX7_number 47 = .ok (.aload_n 0, 1) := by decide +kernel
theorem dX7_number_48 : decode cX7_number 48 = .ok (.dup, 1) := by decide +kernel
theorem dX7_number_49 : decode cX7_number 49 = .ok (.getfield 19, 3) := by decide +kernel
theorem dX7_number_52 : decode cX7_number 52 = .ok (.iconst 1, 1) := by decide +kernel
theorem dX7_number_53 : decode cX7_number 53 = .ok (.iadd, 1) := by decide +kernel
theorem dX7_number_54 : decode cX7_number 54 = .ok (.putfield 19, 3) := by decide +kernel
theorem dX7_number_57 : decode cX7_number 57 = .ok (.goto (-49), 3) := by decide +kernel
theorem dX7_number_60 : decode cX7_number 60 = .ok (.aload_n 0, 1) := by decide +kernel
theorem dX7_number_61 : decode cX7_number 61 = .ok (.getfield 19, 3) := by decide +kernel
theorem dX7_number_64 : decode cX7_number 64 = .ok (.iload_n 3, 1) := by decide +kernel
theorem dX7_number_65 : decode cX7_number 65 = .ok (.if_icmp .eq 14, 3) := by decide +kernel
theorem dX7_number_68 : decode cX7_number 68 = .ok (.iload 4, 2) := by decide +kernel
theorem dX7_number_70 : decode cX7_number 70 = .ok (.i2l, 1) := by decide +kernel
theorem dX7_number_71 : decode cX7_number 71 = .ok (.iload_n 1, 1) := by decide +kernel
theorem dX7_number_72 : decode cX7_number 72 = .ok (.iload_n 2, 1) := by decide +kernel
theorem dX7_number_73 : decode cX7_number 73 = .ok (.invokestatic 29, 3) := by decide +kernel
theorem dX7_number_76 : decode cX7_number 76 = .ok (.ifCond .ne 11, 3) := by decide +kernel
theorem dX7_number_79 : decode cX7_number 79 = .ok (.aload_n 0, 1) := by decide +kernel
theorem dX7_number_80 : decode cX7_number 80 = .ok (.iload_n 3, 1) := by decide +kernel
theorem dX7_number_81 : decode cX7_number 81 = .ok (.putfield 19, 3) := by decide +kernel
theorem dX7_number_84 : decode cX7_number 84 = .ok (.bipush (-4), 2) := by decide +kernel
theorem dX7_number_86 : decode cX7_number 86 = .ok (.ireturn, 1) := by decide +kernel
theorem dX7_number_87 : decode cX7_number 87 = .ok (.aload_n 0, 1) := by decide +kernel
theorem dX7_number_88 : decode cX7_number 88 = .ok (.invokevirtual 22, 3) := by decide +kernel
theorem dX7_number_91 : decode cX7_number 91 = .ok (.iload 4, 2) := by decide +kernel
theorem dX7_number_93 : decode cX7_number 93 = .ok (.ireturn, 1) := by decide +kernel
theorem dX8_init_0 : decode cX8_init 0 = .ok (.aload_n 0, 1) := by decide +kernel
theorem dX8_init_1 : decode cX8_init 1 = .ok (.invokespecial 3, 3) := by decide +kernel
theorem dX8_init_4 : decode cX8_init 4 = .ok (.aload_n 0, 1) := by decide +kernel
theorem dX8_init_5 : decode cX8_init 5 = .ok (.bipush 6, 2) := by decide +kernel
theorem dX8_init_7 : decode cX8_init 7 = .ok (.newarray .int, 2) := by decide +kernel
theorem dX8_init_9 : decode cX8_init 9 = .ok (.putfield 9, 3) := by decide +kernel
theorem dX8_init_12 : decode cX8_init 12 = .ok (.aload_n 0, 1) := by decide +kernel
theorem dX8_init_13 : decode cX8_init 13 = .ok (.bipush 6, 2) := by decide +kernel
theorem dX8_init_15 : decode cX8_init 15 = .ok (.newarray .int, 2) := by decide +kernel
theorem dX8_init_17 : decode cX8_init 17 = .ok (.putfield 15, 3) := by decide +kernel
theorem dX8_init_20 : decode cX8_init 20 = .ok (.aload_n 0, 1) := by decide +kernel
theorem dX8_init_21 : decode cX8_init 21 = .ok (.bipush 6, 2) := by decide +kernel
theorem dX8_init_23 : decode cX8_init 23 = .ok (.newarray .int, 2) := by decide +kernel
theorem dX8_init_25 : decode cX8_init 25 = .ok (.putfield 18, 3) := by decide +kernel
theorem dX8_init_28 : decode cX8_init 28 = .ok (.aload_n 0, 1) := by decide +kernel
theorem dX8_init_29 : decode cX8_init 29 = .ok (.iconst 0, 1) := by decide +kernel
theorem dX8_init_30 : decode cX8_init 30 = .ok (.putfield 21, 3) := by decide +kernel
theorem dX8_init_33 : decode cX8_init 33 = .ok (.return_, 1) := by decide +kernel
theorem dX8_copy_0 : decode cX8_copy 0 = .ok (.aload_n 1, 1) := by decide +kernel
theorem dX8_copy_1 : decode cX8_copy 1 = .ok (.getfield 9, 3) := by decide +kernel
theorem dX8_copy_4 : decode cX8_copy 4 = .ok (.iconst 0, 1) := by decide +kernel
theorem dX8_copy_5 : decode cX8_copy 5 = .ok (.aload_n 0, 1) := by decide +kernel
theorem dX8_copy_6 : decode cX8_copy 6 = .ok (.getfield 9, 3) := by decide +kernel
theorem dX8_copy_9 : decode cX8_copy 9 = .ok (.iconst 0, 1) := by decide +kernel
theorem dX8_copy_10 : decode cX8_copy 10 = .ok (.bipush 6, 2) := by decide +kernel
theorem dX8_copy_12 : decode cX8_copy 12 = .ok (.invokestatic 25, 3) := by decide +kernel
theorem dX8_copy_15 : decode cX8_copy 15 = .ok (.aload_n 1, 1) := by decide +kernel
theorem dX8_copy_16 : decode cX8_copy 16 = .ok (.getfield 15, 3) := by decide +kernel
theorem dX8_copy_19 : decode cX8_copy 19 = .ok (.iconst 0, 1) := by decide +kernel
theorem dX8_copy_20 : decode cX8_copy 20 = .ok (.aload_n 0, 1) := by decide +kernel
theorem dX8_copy_21 : decode cX8_copy 21 = .ok (.getfield 15, 3) := by decide +kernel
theorem dX8_copy_24 : decode cX8_copy 24 = .ok (.iconst 0, 1) := by decide +kernel
theorem dX8_copy_25 : decode cX8_copy 25 = .ok (.bipush 6, 2) := by decide +kernel
theorem dX8_copy_27 : decode cX8_copy 27 = .ok (.invokestatic 25, 3) := by decide +kernel
theorem dX8_copy_30 : decode cX8_copy 30 = .ok (.aload_n 1, 1) := by decide +kernel
theorem dX8_copy_31 : decode cX8_copy 31 = .ok (.getfield 18, 3) := by decide +kernel
theorem dX8_copy_34 : decode cX8_copy 34 = .ok (.iconst 0, 1) := by decide +kernel
theorem dX8_copy_35 : decode cX8_copy 35 = .ok (.aload_n 0, 1) := by decide +kernel
theorem dX8_copy_36 : decode cX8_copy 36 = .ok (.getfield 18, 3) := by decide +kernel
theorem dX8_copy_39 : decode cX8_copy 39 = .ok (.iconst 0, 1) := by decide +kernel
theorem dX8_copy_40 : decode cX8_copy 40 = .ok (.bipush 6, 2) := by decide +kernel
theorem dX8_copy_42 : decode cX8_copy 42 = .ok (.invokestatic 25, 3) := by decide +kernel
theorem dX8_copy_45 : decode cX8_copy 45 = .ok (.aload_n 0, 1) := by decide +kernel
theorem dX8_copy_46 : decode cX8_copy 46 = .ok (.aload_n 1, 1) := by decide +kernel
theorem dX8_copy_47 : decode cX8_copy 47 = .ok (.getfield 21, 3) := by decide +kernel
theorem dX8_copy_50 : decode cX8_copy 50 = .ok (.putfield 21, 3) := by decide +kernel
theorem dX8_copy_53 : decode cX8_copy 53 = .ok (.return_, 1) := by decide +kernel
theorem dX8_add_0 : decode cX8_add 0 = .ok (.aload_n 0, 1) := by decide +kernel
theorem dX8_add_1 : decode cX8_add 1 = .ok (.getfield 9, 3) := by decide +kernel
theorem dX8_add_4 : decode cX8_add 4 = .ok (.aload_n 0, 1) := by decide +kernel
theorem dX8_add_5 : decode cX8_add 5 = .ok (.getfield 21, 3) := by decide +kernel
theorem dX8_add_8 : decode cX8_add 8 = .ok (.iload_n 1, 1) := by decide +kernel
theorem dX8_add_9 : decode cX8_add 9 = .ok (.iastore, 1) := by decide +kernel
theorem dX8_add_10 : decode cX8_add 10 = .ok (.aload_n 0, 1) := by decide +kernel
theorem dX8_add_11 : decode cX8_add 11 = .ok (.getfield 15, 3) := by decide +kernel
theorem dX8_add_14 : decode cX8_add 14 = .ok (.aload_n 0, 1) := by decide +kernel
theorem dX8_add_15 : decode cX8_add 15 = .ok (.getfield 21, 3) := by decide +kernel
theorem dX8_add_18 : decode cX8_add 18 = .ok (.iload_n 2, 1) := by decide +kernel
theorem dX8_add_19 : decode cX8_add 19 = .ok (.iastore, 1) := by decide +kernel
theorem dX8_add_20 : decode cX8_add 20 = .ok (.aload_n 0, 1) := by decide +kernel
theorem dX8_add_21 : decode cX8_add 21 = .ok (.getfield 18, 3) := by decide +kernel
theorem dX8_add_24 : decode cX8_add 24 = .ok (.aload_n 0, 1) := by decide +kernel
theorem dX8_add_25 : decode cX8_add 25 = .ok (.getfield 21, 3) := by decide +kernel
theorem dX8_add_28 : decode cX8_add 28 = .ok (.iload_n 3, 1) := by decide +kernel
theorem dX8_add_29 : decode cX8_add 29 = .ok (.iastore, 1) := by decide +kernel
theorem dX8_add_30 : decode cX8_add 30 = .ok (.aload_n 0, 1) := by decide +kernel
theorem dX8_add_31 : decode cX8_add 31 = .ok (.dup, 1) := by decide +kernel
theorem dX8_add_32 : decode cX8_add 32 = .ok (.getfield 21, 3) := by decide +kernel
theorem dX8_add_35 : decode cX8_add 35 = .ok (.iconst 1, 1) := by decide +kernel
theorem dX8_add_36 : decode cX8_add 36 = .ok (.iadd, 1) := by decide +kernel
theorem dX8_add_37 : decode cX8_add 37 = .ok (.putfield 21, 3) := by decide +kernel
theorem dX8_add_40 : decode cX8_add 40 = .ok (.return_, 1) := by decide +kernel
theorem dX8_minute_0 : decode cX8_minute 0 = .ok (.aload_n 0, 1) := by decide +kernel
theorem dX8_minute_1 : decode cX8_minute 1 = .ok (.getfield 18, 3) := by decide +kernel
theorem dX8_minute_4 : decode cX8_minute 4 = .ok (.iload_n 1, 1) := by decide +kernel
theorem dX8_minute_5 : decode cX8_minute 5 = .ok (.iaload, 1) := by decide +kernel
theorem dX8_minute_6 : decode cX8_minute 6 = .ok (.iload_n 2, 1) := by decide +kernel
theorem dX8_minute_7 : decode cX8_minute 7 = .ok (.bipush 10, 2) := by decide +kernel
theorem dX8_minute_9 : decode cX8_minute 9 = .ok (.aload_n 0, 1) := by decide +kernel
theorem dX8_minute_10 : decode cX8_minute 10 = .ok (.getfield 15, 3) := by decide +kernel
theorem dX8_minute_13 : decode cX8_minute 13 = .ok (.iload_n 1, 1) := by decide +kernel
theorem dX8_minute_14 : decode cX8_minute 14 = .ok (.iaload, 1) := by decide +kernel
theorem dX8_minute_15 : decode cX8_minute 15 = .ok (.isub, 1) := by decide +kernel
theorem dX8_minute_16 : decode cX8_minute 16 = .ok (.imul, 1) := by decide +kernel
theorem dX8_minute_17 : decode cX8_minute 17 = .ok (.iadd, 1) := by decide +kernel
theorem dX8_minute_18 : decode cX8_minute 18 = .ok (.ireturn, 1) := by decide +kernel
set_option maxRecDepth 20000 in
theorem ggX8_meets_X8_minute : GoodIn wsX8_meets wsX8_minute := goodIn_r _ [5, 6, 7, 8, 9, 10, 11] (by decide +kernel) (by decide +kernel)
set_option maxRecDepth 20000 in
theorem gX8_meets_X8_minute : GoodIn wsX8_meets (wsV RX8 31 RX8 yX8_minute wsX8_minute) := goodIn_app (goodIn_of _ (by decide +kernel)) ggX8_meets_X8_minute
theorem dX8_meets_0 : decode cX8_meets 0 = .ok (.iconst 0, 1) := by decide +kernel
theorem dX8_meets_1 : decode cX8_meets 1 = .ok (.istore_n 3, 1) := by decide +kernel
theorem dX8_meets_2 : decode cX8_meets 2 = .ok (.iload_n 3, 1) := by decide +kernel
theorem dX8_meets_3 : decode cX8_meets 3 = .ok (.iload_n 1, 1) := by decide +kernel
theorem dX8_meets_4 : decode cX8_meets 4 = .ok (.if_icmp .ge 26, 3) := by decide +kernel
theorem dX8_meets_7 : decode cX8_meets 7 = .ok (.aload_n 0, 1) := by decide +kernel
theorem dX8_meets_8 : decode cX8_meets 8 = .ok (.iload_n 3, 1) := by decide +kernel
theorem dX8_meets_9 : decode cX8_meets 9 = .ok (.iload_n 2, 1) := by decide +kernel
theorem dX8_meets_10 : decode cX8_meets 10 = .ok (.invokevirtual 31, 3) := by decide +kernel
theorem dX8_meets_13 : decode cX8_meets 13 = .ok (.aload_n 0, 1) := by decide +kernel
theorem dX8_meets_14 : decode cX8_meets 14 = .ok (.iload_n 1, 1) := by decide +kernel
theorem dX8_meets_15 : decode cX8_meets 15 = .ok (.iload_n 2, 1) := by decide +kernel
theorem dX8_meets_16 : decode cX8_meets 16 = .ok (.invokevirtual 31, 3) := by decide +kernel
theorem dX8_meets_19 : decode cX8_meets 19 = .ok (.if_icmp .ne 5, 3) := by decide +kernel
theorem dX8_meets_22 : decode cX8_meets 22 = .ok (.iconst 1, 1) := by decide +kernel
theorem dX8_meets_23 : decode cX8_meets 23 = .ok (.ireturn, 1) := by decide +kernel
theorem dX8_meets_24 : decode cX8_meets 24 = .ok (.iinc 3 1, 3) := by decide +kernel
theorem dX8_meets_27 : decode cX8_meets 27 = .ok (.goto (-25), 3) := by decide +kernel
theorem dX8_meets_30 : decode cX8_meets 30 = .ok (.iconst 0, 1) := by decide +kernel
theorem dX8_meets_31 : decode cX8_meets 31 = .ok (.ireturn, 1) := by decide +kernel
set_option maxRecDepth 20000 in
theorem ggX8_weight_X10_weightAlone : GoodIn wsX8_weight wsX10_weightAlone := goodIn_r _ [6] (by decide +kernel) (by decide +kernel)
set_option maxRecDepth 20000 in
theorem gX8_weight_X10_weightAlone_n35 : GoodIn wsX8_weight (wsX10_weightAlone) := ggX8_weight_X10_weightAlone
set_option maxRecDepth 20000 in
theorem ggX8_weight_X8_minute : GoodIn wsX8_weight wsX8_minute := goodIn_r _ [11, 12, 2, 13, 14, 15, 16] (by decide +kernel) (by decide +kernel)
set_option maxRecDepth 20000 in
theorem gX8_weight_X8_minute : GoodIn wsX8_weight (wsV RX8 31 RX8 yX8_minute wsX8_minute) := goodIn_app (goodIn_of _ (by decide +kernel)) ggX8_weight_X8_minute
theorem dX8_weight_0 : decode cX8_weight 0 = .ok (.aload_n 0, 1) := by decide +kernel
theorem dX8_weight_1 : decode cX8_weight 1 = .ok (.getfield 9, 3) := by decide +kernel
theorem dX8_weight_4 : decode cX8_weight 4 = .ok (.iload_n 1, 1) := by decide +kernel
theorem dX8_weight_5 : decode cX8_weight 5 = .ok (.iaload, 1) := by decide +kernel
theorem dX8_weight_6 : decode cX8_weight 6 = .ok (.aload_n 0, 1) := by decide +kernel
theorem dX8_weight_7 : decode cX8_weight 7 = .ok (.getfield 15, 3) := by decide +kernel
theorem dX8_weight_10 : decode cX8_weight 10 = .ok (.iload_n 1, 1) := by decide +kernel
theorem dX8_weight_11 : decode cX8_weight 11 = .ok (.iaload, 1) := by decide +kernel
theorem dX8_weight_12 : decode cX8_weight 12 = .ok (.invokestatic 35, 3) := by decide +kernel
theorem dX8_weight_15 : decode cX8_weight 15 = .ok (.istore_n 3, 1) := by decide +kernel
theorem dX8_weight_16 : decode cX8_weight 16 = .ok (.iconst 0, 1) := by decide +kernel
theorem dX8_weight_17 : decode cX8_weight 17 = .ok (.istore 4, 2) := by decide +kernel
theorem dX8_weight_19 : decode cX8_weight 19 = .ok (.iload 4, 2) := by decide +kernel
theorem dX8_weight_21 : decode cX8_weight 21 = .ok (.aload_n 0, 1) := by decide +kernel
theorem dX8_weight_22 : decode cX8_weight 22 = .ok (.getfield 21, 3) := by decide +kernel
theorem dX8_weight_25 : decode cX8_weight 25 = .ok (.if_icmp .ge 54, 3) := by decide +kernel
theorem dX8_weight_28 : decode cX8_weight 28 = .ok (.aload_n 0, 1) := by decide +kernel
theorem dX8_weight_29 : decode cX8_weight 29 = .ok (.iload_n 1, 1) := by decide +kernel
theorem dX8_weight_30 : decode cX8_weight 30 = .ok (.iload_n 2, 1) := by decide +kernel
theorem dX8_weight_31 : decode cX8_weight 31 = .ok (.invokevirtual 31, 3) := by decide +kernel
theorem dX8_weight_34 : decode cX8_weight 34 = .ok (.aload_n 0, 1) := by decide +kernel
theorem dX8_weight_35 : decode cX8_weight 35 = .ok (.iload 4, 2) := by decide +kernel
theorem dX8_weight_37 : decode cX8_weight 37 = .ok (.iload_n 2, 1) := by decide +kernel
theorem dX8_weight_38 : decode cX8_weight 38 = .ok (.invokevirtual 31, 3) := by decide +kernel
theorem dX8_weight_41 : decode cX8_weight 41 = .ok (.isub, 1) := by decide +kernel
theorem dX8_weight_42 : decode cX8_weight 42 = .ok (.istore 5, 2) := by decide +kernel
theorem dX8_weight_44 : decode cX8_weight 44 = .ok (.iload 5, 2) := by decide +kernel
theorem dX8_weight_46 : decode cX8_weight 46 = .ok (.ifCond .le 27, 3) := by decide +kernel
theorem dX8_weight_49 : decode cX8_weight 49 = .ok (.iload_n 3, 1) := by decide +kernel
theorem dX8_weight_50 : decode cX8_weight 50 = .ok (.aload_n 0, 1) := by decide +kernel
theorem dX8_weight_51 : decode cX8_weight 51 = .ok (.getfield 9, 3) := by decide +kernel
theorem dX8_weight_54 : decode cX8_weight 54 = .ok (.iload 4, 2) := by decide +kernel
theorem dX8_weight_56 : decode cX8_weight 56 = .ok (.iaload, 1) := by decide +kernel
theorem dX8_weight_57 : decode cX8_weight 57 = .ok (.aload_n 0, 1) := by decide +kernel
theorem dX8_weight_58 : decode cX8_weight 58 = .ok (.getfield 15, 3) := by decide +kernel
theorem dX8_weight_61 : decode cX8_weight 61 = .ok (.iload 4, 2) := by decide +kernel
theorem dX8_weight_63 : decode cX8_weight 63 = .ok (.iaload, 1) := by decide +kernel
theorem dX8_weight_64 : decode cX8_weight 64 = .ok (.imul, 1) := by decide +kernel
theorem dX8_weight_65 : decode cX8_weight 65 = .ok (.bipush 10, 2) := by decide +kernel
theorem dX8_weight_67 : decode cX8_weight 67 = .ok (.iload 5, 2) := by decide +kernel
theorem dX8_weight_69 : decode cX8_weight 69 = .ok (.imul, 1) := by decide +kernel
theorem dX8_weight_70 : decode cX8_weight 70 = .ok (.idiv, 1) := by decide +kernel
theorem dX8_weight_71 : decode cX8_weight 71 = .ok (.iadd, 1) := by decide +kernel
theorem dX8_weight_72 : decode cX8_weight 72 = .ok (.istore_n 3, 1) := by decide +kernel
theorem dX8_weight_73 : decode cX8_weight 73 = .ok (.iinc 4 1, 3) := by decide +kernel
theorem dX8_weight_76 : decode cX8_weight 76 = .ok (.goto (-57), 3) := by decide +kernel
theorem dX8_weight_79 : decode cX8_weight 79 = .ok (.iload_n 3, 1) := by decide +kernel
theorem dX8_weight_80 : decode cX8_weight 80 = .ok (.ireturn, 1) := by decide +kernel
theorem dX9_init_0 : decode cX9_init 0 = .ok (.aload_n 0, 1) := by decide +kernel
theorem dX9_init_1 : decode cX9_init 1 = .ok (.invokespecial 3, 3) := by decide +kernel
theorem dX9_init_4 : decode cX9_init 4 = .ok (.aload_n 0, 1) := by decide +kernel
theorem dX9_init_5 : decode cX9_init 5 = .ok (.bipush 24, 2) := by decide +kernel
theorem dX9_init_7 : decode cX9_init 7 = .ok (.newarray .int, 2) := by decide +kernel
theorem dX9_init_9 : decode cX9_init 9 = .ok (.putfield 9, 3) := by decide +kernel
theorem dX9_init_12 : decode cX9_init 12 = .ok (.aload_n 0, 1) := by decide +kernel
theorem dX9_init_13 : decode cX9_init 13 = .ok (.iconst 0, 1) := by decide +kernel
theorem dX9_init_14 : decode cX9_init 14 = .ok (.putfield 15, 3) := by decide +kernel
theorem dX9_init_17 : decode cX9_init 17 = .ok (.return_, 1) := by decide +kernel
theorem dX9_copy_0 : decode cX9_copy 0 = .ok (.aload_n 1, 1) := by decide +kernel
theorem dX9_copy_1 : decode cX9_copy 1 = .ok (.getfield 9, 3) := by decide +kernel
theorem dX9_copy_4 : decode cX9_copy 4 = .ok (.iconst 0, 1) := by decide +kernel
theorem dX9_copy_5 : decode cX9_copy 5 = .ok (.aload_n 0, 1) := by decide +kernel
theorem dX9_copy_6 : decode cX9_copy 6 = .ok (.getfield 9, 3) := by decide +kernel
theorem dX9_copy_9 : decode cX9_copy 9 = .ok (.iconst 0, 1) := by decide +kernel
theorem dX9_copy_10 : decode cX9_copy 10 = .ok (.bipush 24, 2) := by decide +kernel
theorem dX9_copy_12 : decode cX9_copy 12 = .ok (.invokestatic 19, 3) := by decide +kernel
theorem dX9_copy_15 : decode cX9_copy 15 = .ok (.aload_n 0, 1) := by decide +kernel
theorem dX9_copy_16 : decode cX9_copy 16 = .ok (.aload_n 1, 1) := by decide +kernel
theorem dX9_copy_17 : decode cX9_copy 17 = .ok (.getfield 15, 3) := by decide +kernel
theorem dX9_copy_20 : decode cX9_copy 20 = .ok (.putfield 15, 3) := by decide +kernel
theorem dX9_copy_23 : decode cX9_copy 23 = .ok (.return_, 1) := by decide +kernel
theorem dX9_add_0 : decode cX9_add 0 = .ok (.aload_n 0, 1) := by decide +kernel
theorem dX9_add_1 : decode cX9_add 1 = .ok (.getfield 9, 3) := by decide +kernel
theorem dX9_add_4 : decode cX9_add 4 = .ok (.aload_n 0, 1) := by decide +kernel
theorem dX9_add_5 : decode cX9_add 5 = .ok (.getfield 15, 3) := by decide +kernel
theorem dX9_add_8 : decode cX9_add 8 = .ok (.iload_n 1, 1) := by decide +kernel
theorem dX9_add_9 : decode cX9_add 9 = .ok (.iastore, 1) := by decide +kernel
theorem dX9_add_10 : decode cX9_add 10 = .ok (.aload_n 0, 1) := by decide +kernel
theorem dX9_add_11 : decode cX9_add 11 = .ok (.dup, 1) := by decide +kernel
theorem dX9_add_12 : decode cX9_add 12 = .ok (.getfield 15, 3) := by decide +kernel
theorem dX9_add_15 : decode cX9_add 15 = .ok (.iconst 1, 1) := by decide +kernel
theorem dX9_add_16 : decode cX9_add 16 = .ok (.iadd, 1) := by decide +kernel
theorem dX9_add_17 : decode cX9_add 17 = .ok (.putfield 15, 3) := by decide +kernel
theorem dX9_add_20 : decode cX9_add 20 = .ok (.return_, 1) := by decide +kernel
set_option maxRecDepth 20000 in
theorem ggX10_init_X4_init : GoodIn wsX10_init wsX4_init := goodIn_r _ [31, 32, 2, 3, 33, 34, 35, 36, 37, 38, 39, 40, 41, 42, 43, 44, 45, 46, 47, 48, 49, 50, 51, 52, 53, 54, 55, 56, 57, 58, 59, 60, 61, 62, 63, 64, 65, 66, 67, 68, 69, 70, 71, 72, 73, 74, 75, 76, 77, 78, 79, 80, 81, 82, 83, 151, 120, 121, 122, 123, 124, 125, 152, 153, 154, 155, 156, 157, 158, 159, 160, 161, 162] (by decide +kernel) (by decide +kernel)
set_option maxRecDepth 20000 in
theorem gX10_init_X4_init_n11 : GoodIn wsX10_init (wsX4_init) := ggX10_init_X4_init
set_option maxRecDepth 20000 in
theorem ggX10_init_X7_init : GoodIn wsX10_init wsX7_init := goodIn_r _ [85, 86, 2, 3, 87, 88, 89, 90, 134, 135, 136] (by decide +kernel) (by decide +kernel)
set_option maxRecDepth 20000 in
theorem gX10_init_X7_init_n25 : GoodIn wsX10_init (wsX7_init) := ggX10_init_X7_init
set_option maxRecDepth 20000 in
theorem ggX10_init_X0_init : GoodIn wsX10_init wsX0_init := goodIn_r _ [92, 93, 2, 3, 55, 94, 95, 96, 38, 39, 97, 64, 65, 66, 67, 68, 69, 70, 137, 138, 139, 152, 153, 154, 155] (by decide +kernel) (by decide +kernel)
set_option maxRecDepth 20000 in
theorem gX10_init_X0_init_n32 : GoodIn wsX10_init (wsX0_init) := ggX10_init_X0_init
set_option maxRecDepth 20000 in
theorem ggX10_init_X3_init : GoodIn wsX10_init wsX3_init := goodIn_r _ [99, 100, 2, 3, 55, 101, 102, 103, 104, 140, 141, 142, 143] (by decide +kernel) (by decide +kernel)
set_option maxRecDepth 20000 in
theorem gX10_init_X3_init_n39 : GoodIn wsX10_init (wsX3_init) := ggX10_init_X3_init
set_option maxRecDepth 20000 in
theorem ggX10_init_X6_init : GoodIn wsX10_init wsX6_init := goodIn_r _ [106, 107, 2, 3, 55, 108, 109, 144, 145] (by decide +kernel) (by decide +kernel)
set_option maxRecDepth 20000 in
theorem gX10_init_X6_init_n46 : GoodIn wsX10_init (wsX6_init) := ggX10_init_X6_init
set_option maxRecDepth 20000 in
theorem ggX10_init_X5_init : GoodIn wsX10_init wsX5_init := goodIn_r _ [111, 112, 2, 3, 113, 114, 87, 115, 116, 117, 118, 119, 146, 147, 148, 149, 150] (by decide +kernel) (by decide +kernel)
set_option maxRecDepth 20000 in
theorem gX10_init_X5_init_n57 : GoodIn wsX10_init (wsX5_init) := ggX10_init_X5_init
theorem dX10_init_0 : decode cX10_init 0 = .ok (.aload_n 0, 1) := by decide +kernel
theorem dX10_init_1 : decode cX10_init 1 = .ok (.invokespecial 3, 3) := by decide +kernel
theorem dX10_init_4 : decode cX10_init 4 = .ok (.aload_n 0, 1) := by decide +kernel
theorem dX10_init_5 : decode cX10_init 5 = .ok (.new 9, 3) := by decide +kernel
theorem dX10_init_8 : decode cX10_init 8 = .ok (.dup, 1) := by decide +kernel
theorem dX10_init_9 : decode cX10_init 9 = .ok (.invokespecial 11, 3) := by decide +kernel
theorem dX10_init_12 : decode cX10_init 12 = .ok (.putfield 12, 3) := by decide +kernel
theorem dX10_init_15 : decode cX10_init 15 = .ok (.aload_n 0, 1) := by decide +kernel
theorem dX10_init_16 : decode cX10_init 16 = .ok (.new 9, 3) := by decide +kernel
theorem dX10_init_19 : decode cX10_init 19 = .ok (.dup, 1) := by decide +kernel
theorem dX10_init_20 : decode cX10_init 20 = .ok (.invokespecial 11, 3) := by decide +kernel
theorem dX10_init_23 : decode cX10_init 23 = .ok (.putfield 16, 3) := by decide +kernel
theorem dX10_init_26 : decode cX10_init 26 = .ok (.aload_n 0, 1) := by decide +kernel
theorem dX10_init_27 : decode cX10_init 27 = .ok (.iconst 0, 1) := by decide +kernel
theorem dX10_init_28 : decode cX10_init 28 = .ok (.putfield 19, 3) := by decide +kernel
theorem dX10_init_31 : decode cX10_init 31 = .ok (.aload_n 0, 1) := by decide +kernel
theorem dX10_init_32 : decode cX10_init 32 = .ok (.new 23, 3) := by decide +kernel
theorem dX10_init_35 : decode cX10_init 35 = .ok (.dup, 1) := by decide +kernel
theorem dX10_init_36 : decode cX10_init 36 = .ok (.invokespecial 25, 3) := by decide +kernel
theorem dX10_init_39 : decode cX10_init 39 = .ok (.putfield 26, 3) := by decide +kernel
theorem dX10_init_42 : decode cX10_init 42 = .ok (.aload_n 0, 1) := by decide +kernel
theorem dX10_init_43 : decode cX10_init 43 = .ok (.new 30, 3) := by decide +kernel
theorem dX10_init_46 : decode cX10_init 46 = .ok (.dup, 1) := by decide +kernel
theorem dX10_init_47 : decode cX10_init 47 = .ok (.invokespecial 32, 3) := by decide +kernel
theorem dX10_init_50 : decode cX10_init 50 = .ok (.putfield 33, 3) := by decide +kernel
theorem dX10_init_53 : decode cX10_init 53 = .ok (.aload_n 0, 1) := by decide +kernel
theorem dX10_init_54 : decode cX10_init 54 = .ok (.new 37, 3) := by decide +kernel
theorem dX10_init_57 : decode cX10_init 57 = .ok (.dup, 1) := by decide +kernel
theorem dX10_init_58 : decode cX10_init 58 = .ok (.invokespecial 39, 3) := by decide +kernel
theorem dX10_init_61 : decode cX10_init 61 = .ok (.putfield 40, 3) := by decide +kernel
theorem dX10_init_64 : decode cX10_init 64 = .ok (.aload_n 0, 1) := by decide +kernel
theorem dX10_init_65 : decode cX10_init 65 = .ok (.new 44, 3) := by decide +kernel
theorem dX10_init_68 : decode cX10_init 68 = .ok (.dup, 1) := by decide +kernel
theorem dX10_init_69 : decode cX10_init 69 = .ok (.invokespecial 46, 3) := by decide +kernel
theorem dX10_init_72 : decode cX10_init 72 = .ok (.putfield 47, 3) := by decide +kernel
theorem dX10_init_75 : decode cX10_init 75 = .ok (.aload_n 0, 1) := by decide +kernel
theorem dX10_init_76 : decode cX10_init 76 = .ok (.iconst 4, 1) := by decide +kernel
theorem dX10_init_77 : decode cX10_init 77 = .ok (.anewarray 51, 3) := by decide +kernel
theorem dX10_init_80 : decode cX10_init 80 = .ok (.putfield 53, 3) := by decide +kernel
theorem dX10_init_83 : decode cX10_init 83 = .ok (.iconst 0, 1) := by decide +kernel
theorem dX10_init_84 : decode cX10_init 84 = .ok (.istore_n 1, 1) := by decide +kernel
theorem dX10_init_85 : decode cX10_init 85 = .ok (.iload_n 1, 1) := by decide +kernel
theorem dX10_init_86 : decode cX10_init 86 = .ok (.iconst 4, 1) := by decide +kernel
theorem dX10_init_87 : decode cX10_init 87 = .ok (.if_icmp .ge 22, 3) := by decide +kernel
theorem dX10_init_90 : decode cX10_init 90 = .ok (.aload_n 0, 1) := by decide +kernel
theorem dX10_init_91 : decode cX10_init 91 = .ok (.getfield 53, 3) := by decide +kernel
theorem dX10_init_94 : decode cX10_init 94 = .ok (.iload_n 1, 1) := by decide +kernel
theorem dX10_init_95 : decode cX10_init 95 = .ok (.new 51, 3) := by decide +kernel
theorem dX10_init_98 : decode cX10_init 98 = .ok (.dup, 1) := by decide +kernel
theorem dX10_init_99 : decode cX10_init 99 = .ok (.invokespecial 57, 3) := by decide +kernel
theorem dX10_init_102 : decode cX10_init 102 = .ok (.aastore, 1) := by decide +kernel
theorem dX10_init_103 : decode cX10_init 103 = .ok (.iinc 1 1, 3) := by decide +kernel
theorem dX10_init_106 : decode cX10_init 106 = .ok (.goto (-21), 3) := by decide +kernel
theorem dX10_init_109 : decode cX10_init 109 = .ok (.return_, 1) := by decide +kernel
set_option maxRecDepth 20000 in
theorem ggX10_make_X10_isSquare : GoodIn wsX10_make wsX10_isSquare := goodIn_r _ [7, 8, 9, 6, 10] (by decide +kernel) (by decide +kernel)
set_option maxRecDepth 20000 in
theorem gX10_make_X10_isSquare : GoodIn wsX10_make (va_wsS RX10 58 yX10_isSquare wsX10_isSquare) := goodIn_app (goodIn_of _ (by decide +kernel)) ggX10_make_X10_isSquare
set_option maxRecDepth 20000 in
theorem ggX10_make_X10_isWithin : GoodIn wsX10_make wsX10_isWithin := goodIn_r _ [10] (by decide +kernel) (by decide +kernel)
set_option maxRecDepth 20000 in
theorem gX10_make_X10_isWithin : GoodIn wsX10_make (va_wsS RX10 62 yX10_isWithin wsX10_isWithin) := goodIn_app (goodIn_of _ (by decide +kernel)) ggX10_make_X10_isWithin
set_option maxRecDepth 20000 in
theorem ggX10_make_X2_trait : GoodIn wsX10_make wsX2_trait := goodIn_r _ [15, 16, 35] (by decide +kernel) (by decide +kernel)
set_option maxRecDepth 20000 in
theorem gX10_make_X2_trait : GoodIn wsX10_make (wsV RX10 74 RX2 yX2_trait wsX2_trait) := goodIn_app (goodIn_of _ (by decide +kernel)) ggX10_make_X2_trait
set_option maxRecDepth 20000 in
theorem ggX10_make_X2_put : GoodIn wsX10_make wsX2_put := goodIn_r _ [20, 16, 35] (by decide +kernel) (by decide +kernel)
set_option maxRecDepth 20000 in
theorem gX10_make_X2_put : GoodIn wsX10_make (wsV RX10 80 RX2 yX2_put wsX2_put) := goodIn_app (goodIn_of _ (by decide +kernel)) ggX10_make_X2_put
theorem dX10_make_0 : decode cX10_make 0 = .ok (.iload_n 1, 1) := by decide +kernel
theorem dX10_make_1 : decode cX10_make 1 = .ok (.i2l, 1) := by decide +kernel
theorem dX10_make_2 : decode cX10_make 2 = .ok (.invokestatic 58, 3) := by decide +kernel
theorem dX10_make_5 : decode cX10_make 5 = .ok (.ifCond .eq 27, 3) := by decide +kernel
theorem dX10_make_8 : decode cX10_make 8 = .ok (.iload_n 2, 1) := by decide +kernel
theorem dX10_make_9 : decode cX10_make 9 = .ok (.i2l, 1) := by decide +kernel
theorem dX10_make_10 : decode cX10_make 10 = .ok (.iconst 0, 1) := by decide +kernel
theorem dX10_make_11 : decode cX10_make 11 = .ok (.iconst 4, 1) := by decide +kernel
theorem dX10_make_12 : decode cX10_make 12 = .ok (.invokestatic 62, 3) := by decide +kernel
theorem dX10_make_15 : decode cX10_make 15 = .ok (.ifCond .eq 17, 3) := by decide +kernel
theorem dX10_make_18 : decode cX10_make 18 = .ok (.iload_n 3, 1) := by decide +kernel
theorem dX10_make_19 : decode cX10_make 19 = .ok (.i2l, 1) := by decide +kernel
theorem dX10_make_20 : decode cX10_make 20 = .ok (.iconst 0, 1) := by decide +kernel
theorem dX10_make_21 : decode cX10_make 21 = .ok (.getstatic 66, 3) := by decide +kernel
theorem dX10_make_24 : decode cX10_make 24 = .ok (.iload_n 2, 1) := by decide +kernel
theorem dX10_make_25 : decode cX10_make 25 = .ok (.iaload, 1) := by decide +kernel
theorem dX10_make_26 : decode cX10_make 26 = .ok (.invokestatic 62, 3) := by decide +kernel
theorem dX10_make_29 : decode cX10_make 29 = .ok (.ifCond .ne 5, 3) := by decide +kernel
theorem dX10_make_32 : decode cX10_make 32 = .ok (.iconst (-1), 1) := by decide +kernel
theorem dX10_make_33 : decode cX10_make 33 = .ok (.ireturn, 1) := by decide +kernel
theorem dX10_make_34 : decode cX10_make 34 = .ok (.aload_n 0, 1) := by decide +kernel
theorem dX10_make_35 : decode cX10_make 35 = .ok (.getfield 12, 3) := by decide +kernel
theorem dX10_make_38 : decode cX10_make 38 = .ok (.getfield 70, 3) := by decide +kernel
theorem dX10_make_41 : decode cX10_make 41 = .ok (.iload_n 1, 1) := by decide +kernel
theorem dX10_make_42 : decode cX10_make 42 = .ok (.iload_n 2, 1) := by decide +kernel
theorem dX10_make_43 : decode cX10_make 43 = .ok (.invokevirtual 74, 3) := by decide +kernel
theorem dX10_make_46 : decode cX10_make 46 = .ok (.istore 4, 2) := by decide +kernel
theorem dX10_make_48 : decode cX10_make 48 = .ok (.aload_n 0, 1) := by decide +kernel
theorem dX10_make_49 : decode cX10_make 49 = .ok (.getfield 12, 3) := by decide +kernel
theorem dX10_make_52 : decode cX10_make 52 = .ok (.getfield 70, 3) := by decide +kernel
theorem dX10_make_55 : decode cX10_make 55 = .ok (.iload_n 1, 1) := by decide +kernel
theorem dX10_make_56 : decode cX10_make 56 = .ok (.iload_n 2, 1) := by decide +kernel
theorem dX10_make_57 : decode cX10_make 57 = .ok (.iload_n 3, 1) := by decide +kernel
theorem dX10_make_58 : decode cX10_make 58 = .ok (.invokevirtual 80, 3) := by decide +kernel
theorem dX10_make_61 : decode cX10_make 61 = .ok (.iload 4, 2) := by decide +kernel
theorem dX10_make_63 : decode cX10_make 63 = .ok (.ireturn, 1) := by decide +kernel
set_option maxRecDepth 20000 in
theorem ggX10_told_X10_isSquare : GoodIn wsX10_told wsX10_isSquare := goodIn_r _ [6, 7, 8, 5, 9] (by decide +kernel) (by decide +kernel)
set_option maxRecDepth 20000 in
theorem gX10_told_X10_isSquare : GoodIn wsX10_told (va_wsS RX10 58 yX10_isSquare wsX10_isSquare) := goodIn_app (goodIn_of _ (by decide +kernel)) ggX10_told_X10_isSquare
set_option maxRecDepth 20000 in
theorem ggX10_told_X10_isWithin : GoodIn wsX10_told wsX10_isWithin := goodIn_r _ [9] (by decide +kernel) (by decide +kernel)
set_option maxRecDepth 20000 in
theorem gX10_told_X10_isWithin : GoodIn wsX10_told (va_wsS RX10 62 yX10_isWithin wsX10_isWithin) := goodIn_app (goodIn_of _ (by decide +kernel)) ggX10_told_X10_isWithin
set_option maxRecDepth 20000 in
theorem ggX10_told_X2_bearing : GoodIn wsX10_told wsX2_bearing := goodIn_r _ [14, 15, 16, 17, 13, 18, 19, 20, 21, 22, 23, 24, 25, 26, 27, 47] (by decide +kernel) (by decide +kernel)
set_option maxRecDepth 20000 in
theorem gX10_told_X2_bearing : GoodIn wsX10_told (wsV RX10 84 RX2 yX2_bearing wsX2_bearing) := goodIn_app (goodIn_of _ (by decide +kernel)) ggX10_told_X2_bearing
set_option maxRecDepth 20000 in
theorem ggX10_told_X2_pitch : GoodIn wsX10_told wsX2_pitch := goodIn_r _ [31, 15, 16, 17, 13, 18, 19, 47] (by decide +kernel) (by decide +kernel)
set_option maxRecDepth 20000 in
theorem gX10_told_X2_pitch : GoodIn wsX10_told (wsV RX10 88 RX2 yX2_pitch wsX2_pitch) := goodIn_app (goodIn_of _ (by decide +kernel)) ggX10_told_X2_pitch
set_option maxRecDepth 20000 in
theorem ggX10_told_X2_trait : GoodIn wsX10_told wsX2_trait := goodIn_r _ [18, 19, 47] (by decide +kernel) (by decide +kernel)
set_option maxRecDepth 20000 in
theorem gX10_told_X2_trait : GoodIn wsX10_told (wsV RX10 74 RX2 yX2_trait wsX2_trait) := goodIn_app (goodIn_of _ (by decide +kernel)) ggX10_told_X2_trait
theorem dX10_told_0 : decode cX10_told 0 = .ok (.iload_n 1, 1) := by decide +kernel
theorem dX10_told_1 : decode cX10_told 1 = .ok (.i2l, 1) := by decide +kernel
theorem dX10_told_2 : decode cX10_told 2 = .ok (.invokestatic 58, 3) := by decide +kernel
theorem dX10_told_5 : decode cX10_told 5 = .ok (.ifCond .eq 14, 3) := by decide +kernel
theorem dX10_told_8 : decode cX10_told 8 = .ok (.iload_n 2, 1) := by decide +kernel
theorem dX10_told_9 : decode cX10_told 9 = .ok (.i2l, 1) := by decide +kernel
theorem dX10_told_10 : decode cX10_told 10 = .ok (.iconst 0, 1) := by decide +kernel
theorem dX10_told_11 : decode cX10_told 11 = .ok (.bipush 6, 2) := by decide +kernel
theorem dX10_told_13 : decode cX10_told 13 = .ok (.invokestatic 62, 3) := by decide +kernel
theorem dX10_told_16 : decode cX10_told 16 = .ok (.ifCond .ne 5, 3) := by decide +kernel
theorem dX10_told_19 : decode cX10_told 19 = .ok (.iconst (-1), 1) := by decide +kernel
theorem dX10_told_20 : decode cX10_told 20 = .ok (.ireturn, 1) := by decide +kernel
theorem dX10_told_21 : decode cX10_told 21 = .ok (.iload_n 2, 1) := by decide +kernel
theorem dX10_told_22 : decode cX10_told 22 = .ok (.iconst 5, 1) := by decide +kernel
theorem dX10_told_23 : decode cX10_told 23 = .ok (.if_icmp .ne 15, 3) := by decide +kernel
theorem dX10_told_26 : decode cX10_told 26 = .ok (.aload_n 0, 1) := by decide +kernel
theorem dX10_told_27 : decode cX10_told 27 = .ok (.getfield 12, 3) := by decide +kernel
theorem dX10_told_30 : decode cX10_told 30 = .ok (.getfield 70, 3) := by decide +kernel
theorem dX10_told_33 : decode cX10_told 33 = .ok (.iload_n 1, 1) := by decide +kernel
theorem dX10_told_34 : decode cX10_told 34 = .ok (.invokevirtual 84, 3) := by decide +kernel
theorem dX10_told_37 : decode cX10_told 37 = .ok (.ireturn, 1) := by decide +kernel
theorem dX10_told_38 : decode cX10_told 38 = .ok (.iload_n 2, 1) := by decide +kernel
theorem dX10_told_39 : decode cX10_told 39 = .ok (.bipush 6, 2) := by decide +kernel
theorem dX10_told_41 : decode cX10_told 41 = .ok (.if_icmp .ne 17, 3) := by decide +kernel
theorem dX10_told_44 : decode cX10_told 44 = .ok (.aload_n 0, 1) := by decide +kernel
theorem dX10_told_45 : decode cX10_told 45 = .ok (.getfield 12, 3) := by decide +kernel
theorem dX10_told_48 : decode cX10_told 48 = .ok (.getfield 70, 3) := by decide +kernel
theorem dX10_told_51 : decode cX10_told 51 = .ok (.iload_n 1, 1) := by decide +kernel
theorem dX10_told_52 : decode cX10_told 52 = .ok (.invokevirtual 88, 3) := by decide +kernel
theorem dX10_told_55 : decode cX10_told 55 = .ok (.goto 15, 3) := by decide +kernel
theorem dX10_told_58 : decode cX10_told 58 = .ok (.aload_n 0, 1) := by decide +kernel
theorem dX10_told_59 : decode cX10_told 59 = .ok (.getfield 12, 3) := by decide +kernel
theorem dX10_told_62 : decode cX10_told 62 = .ok (.getfield 70, 3) := by decide +kernel
theorem dX10_told_65 : decode cX10_told 65 = .ok (.iload_n 1, 1) := by decide +kernel
theorem dX10_told_66 : decode cX10_told 66 = .ok (.iload_n 2, 1) := by decide +kernel
theorem dX10_told_67 : decode cX10_told 67 = .ok (.invokevirtual 74, 3) := by decide +kernel
theorem dX10_told_70 : decode cX10_told 70 = .ok (.ireturn, 1) := by decide +kernel
set_option maxRecDepth 20000 in
theorem ggX10_days_X10_isWithin : GoodIn wsX10_days wsX10_isWithin := goodIn_r _ [6] (by decide +kernel) (by decide +kernel)
set_option maxRecDepth 20000 in
theorem gX10_days_X10_isWithin : GoodIn wsX10_days (va_wsS RX10 62 yX10_isWithin wsX10_isWithin) := goodIn_app (goodIn_of _ (by decide +kernel)) ggX10_days_X10_isWithin
set_option maxRecDepth 20000 in
theorem ggX10_days_X2_freeze : GoodIn wsX10_days wsX2_freeze := goodIn_r _ [11, 12, 13, 14, 15, 16, 17, 18, 19, 20, 21, 10, 22, 23, 24, 25, 26, 27, 46] (by decide +kernel) (by decide +kernel)
set_option maxRecDepth 20000 in
theorem gX10_days_X2_freeze : GoodIn wsX10_days (wsV RX10 91 RX2 yX2_freeze wsX2_freeze) := goodIn_app (goodIn_of _ (by decide +kernel)) ggX10_days_X2_freeze
set_option maxRecDepth 20000 in
theorem ggX10_days_X2_total : GoodIn wsX10_days wsX2_total := goodIn_r _ [31, 19, 20, 21, 10, 22, 23, 46] (by decide +kernel) (by decide +kernel)
set_option maxRecDepth 20000 in
theorem gX10_days_X2_total : GoodIn wsX10_days (wsV RX10 95 RX2 yX2_total wsX2_total) := goodIn_app (goodIn_of _ (by decide +kernel)) ggX10_days_X2_total
theorem dX10_days_0 : decode cX10_days 0 = .ok (.iload_n 1, 1) := by decide +kernel
theorem dX10_days_1 : decode cX10_days 1 = .ok (.i2l, 1) := by decide +kernel
theorem dX10_days_2 : decode cX10_days 2 = .ok (.iconst 0, 1) := by decide +kernel
theorem dX10_days_3 : decode cX10_days 3 = .ok (.bipush 9, 2) := by decide +kernel
theorem dX10_days_5 : decode cX10_days 5 = .ok (.invokestatic 62, 3) := by decide +kernel
theorem dX10_days_8 : decode cX10_days 8 = .ok (.ifCond .eq 14, 3) := by decide +kernel
theorem dX10_days_11 : decode cX10_days 11 = .ok (.iload_n 2, 1) := by decide +kernel
theorem dX10_days_12 : decode cX10_days 12 = .ok (.i2l, 1) := by decide +kernel
theorem dX10_days_13 : decode cX10_days 13 = .ok (.iconst 1, 1) := by decide +kernel
theorem dX10_days_14 : decode cX10_days 14 = .ok (.bipush 30, 2) := by decide +kernel
theorem dX10_days_16 : decode cX10_days 16 = .ok (.invokestatic 62, 3) := by decide +kernel
theorem dX10_days_19 : decode cX10_days 19 = .ok (.ifCond .ne 5, 3) := by decide +kernel
theorem dX10_days_22 : decode cX10_days 22 = .ok (.iconst (-1), 1) := by decide +kernel
theorem dX10_days_23 : decode cX10_days 23 = .ok (.ireturn, 1) := by decide +kernel
theorem dX10_days_24 : decode cX10_days 24 = .ok (.iconst 0, 1) := by decide +kernel
theorem dX10_days_25 : decode cX10_days 25 = .ok (.istore_n 3, 1) := by decide +kernel
theorem dX10_days_26 : decode cX10_days 26 = .ok (.iload_n 3, 1) := by decide +kernel
theorem dX10_days_27 : decode cX10_days 27 = .ok (.iload_n 2, 1) := by decide +kernel
theorem dX10_days_28 : decode cX10_days 28 = .ok (.if_icmp .ge 20, 3) := by decide +kernel
theorem dX10_days_31 : decode cX10_days 31 = .ok (.aload_n 0, 1) := by decide +kernel
theorem dX10_days_32 : decode cX10_days 32 = .ok (.getfield 12, 3) := by decide +kernel
theorem dX10_days_35 : decode cX10_days 35 = .ok (.getfield 70, 3) := by decide +kernel
theorem dX10_days_38 : decode cX10_days 38 = .ok (.iload_n 1, 1) := by decide +kernel
theorem dX10_days_39 : decode cX10_days 39 = .ok (.invokevirtual 91, 3) := by decide +kernel
theorem dX10_days_42 : decode cX10_days 42 = .ok (.iinc 3 1, 3) := by decide +kernel
theorem dX10_days_45 : decode cX10_days 45 = .ok (.goto (-19), 3) := by decide +kernel
theorem dX10_days_48 : decode cX10_days 48 = .ok (.aload_n 0, 1) := by decide +kernel
theorem dX10_days_49 : decode cX10_days 49 = .ok (.getfield 12, 3) := by decide +kernel
theorem dX10_days_52 : decode cX10_days 52 = .ok (.getfield 70, 3) := by decide +kernel
theorem dX10_days_55 : decode cX10_days 55 = .ok (.iconst 0, 1) := by decide +kernel
theorem dX10_days_56 : decode cX10_days 56 = .ok (.invokevirtual 95, 3) := by decide +kernel
theorem dX10_days_59 : decode cX10_days 59 = .ok (.ireturn, 1) := by decide +kernel
set_option maxRecDepth 20000 in
theorem ggX10_set_X10_isWithin : GoodIn wsX10_set wsX10_isWithin := goodIn_r _ [7] (by decide +kernel) (by decide +kernel)
set_option maxRecDepth 20000 in
theorem gX10_set_X10_isWithin : GoodIn wsX10_set (va_wsS RX10 62 yX10_isWithin wsX10_isWithin) := goodIn_app (goodIn_of _ (by decide +kernel)) ggX10_set_X10_isWithin
theorem dX10_set_0 : decode cX10_set 0 = .ok (.iload_n 1, 1) := by decide +kernel
theorem dX10_set_1 : decode cX10_set 1 = .ok (.i2l, 1) := by decide +kernel
theorem dX10_set_2 : decode cX10_set 2 = .ok (.iconst 0, 1) := by decide +kernel
theorem dX10_set_3 : decode cX10_set 3 = .ok (.iconst 1, 1) := by decide +kernel
theorem dX10_set_4 : decode cX10_set 4 = .ok (.invokestatic 62, 3) := by decide +kernel
theorem dX10_set_7 : decode cX10_set 7 = .ok (.ifCond .eq 14, 3) := by decide +kernel
theorem dX10_set_10 : decode cX10_set 10 = .ok (.iload_n 2, 1) := by decide +kernel
theorem dX10_set_11 : decode cX10_set 11 = .ok (.i2l, 1) := by decide +kernel
theorem dX10_set_12 : decode cX10_set 12 = .ok (.iconst 0, 1) := by decide +kernel
theorem dX10_set_13 : decode cX10_set 13 = .ok (.bipush 99, 2) := by decide +kernel
theorem dX10_set_15 : decode cX10_set 15 = .ok (.invokestatic 62, 3) := by decide +kernel
theorem dX10_set_18 : decode cX10_set 18 = .ok (.ifCond .ne 5, 3) := by decide +kernel
theorem dX10_set_21 : decode cX10_set 21 = .ok (.iconst (-1), 1) := by decide +kernel
theorem dX10_set_22 : decode cX10_set 22 = .ok (.ireturn, 1) := by decide +kernel
theorem dX10_set_23 : decode cX10_set 23 = .ok (.iload_n 1, 1) := by decide +kernel
theorem dX10_set_24 : decode cX10_set 24 = .ok (.ifCond .ne 13, 3) := by decide +kernel
theorem dX10_set_27 : decode cX10_set 27 = .ok (.aload_n 0, 1) := by decide +kernel
theorem dX10_set_28 : decode cX10_set 28 = .ok (.getfield 12, 3) := by decide +kernel
theorem dX10_set_31 : decode cX10_set 31 = .ok (.getfield 98, 3) := by decide +kernel
theorem dX10_set_34 : decode cX10_set 34 = .ok (.goto 10, 3) := by decide +kernel
theorem dX10_set_37 : decode cX10_set 37 = .ok (.aload_n 0, 1) := by decide +kernel
theorem dX10_set_38 : decode cX10_set 38 = .ok (.getfield 12, 3) := by decide +kernel
theorem dX10_set_41 : decode cX10_set 41 = .ok (.getfield 102, 3) := by decide +kernel
theorem dX10_set_44 : decode cX10_set 44 = .ok (.istore_n 3, 1) := by decide +kernel
theorem dX10_set_45 : decode cX10_set 45 = .ok (.iload_n 1, 1) := by decide +kernel
theorem dX10_set_46 : decode cX10_set 46 = .ok (.ifCond .ne 14, 3) := by decide +kernel
theorem dX10_set_49 : decode cX10_set 49 = .ok (.aload_n 0, 1) := by decide +kernel
theorem dX10_set_50 : decode cX10_set 50 = .ok (.getfield 12, 3) := by decide +kernel
theorem dX10_set_53 : decode cX10_set 53 = .ok (.iload_n 2, 1) := by decide +kernel
theorem dX10_set_54 : decode cX10_set 54 = .ok (.putfield 98, 3) := by decide +kernel
theorem dX10_set_57 : decode cX10_set 57 = .ok (.goto 11, 3) := by decide +kernel
theorem dX10_set_60 : decode cX10_set 60 = .ok (.aload_n 0, 1) := by decide +kernel
theorem dX10_set_61 : decode cX10_set 61 = .ok (.getfield 12, 3) := by decide +kernel
theorem dX10_set_64 : decode cX10_set 64 = .ok (.iload_n 2, 1) := by decide +kernel
theorem dX10_set_65 : decode cX10_set 65 = .ok (.putfield 102, 3) := by decide +kernel
theorem dX10_set_68 : decode cX10_set 68 = .ok (.iload_n 3, 1) := by decide +kernel
theorem dX10_set_69 : decode cX10_set 69 = .ok (.ireturn, 1) := by decide +kernel
set_option maxRecDepth 20000 in
theorem ggX10_type_X10_isWithin : GoodIn wsX10_type wsX10_isWithin := goodIn_r _ [6] (by decide +kernel) (by decide +kernel)
set_option maxRecDepth 20000 in
theorem gX10_type_X10_isWithin : GoodIn wsX10_type (va_wsS RX10 62 yX10_isWithin wsX10_isWithin) := goodIn_app (goodIn_of _ (by decide +kernel)) ggX10_type_X10_isWithin
set_option maxRecDepth 20000 in
theorem ggX10_type_X10_byteOf : GoodIn wsX10_type wsX10_byteOf := goodIn_r _ [9] (by decide +kernel) (by decide +kernel)
set_option maxRecDepth 20000 in
theorem gX10_type_X10_byteOf : GoodIn wsX10_type (va_wsS RX10 105 yX10_byteOf wsX10_byteOf) := goodIn_app (goodIn_of _ (by decide +kernel)) ggX10_type_X10_byteOf
set_option maxRecDepth 20000 in
theorem ggX10_type_X7_add : GoodIn wsX10_type wsX7_add := goodIn_r _ [14, 15, 16, 25, 26, 27] (by decide +kernel) (by decide +kernel)
set_option maxRecDepth 20000 in
theorem gX10_type_X7_add : GoodIn wsX10_type (wsV RX10 112 RX7 yX7_add wsX7_add) := goodIn_app (goodIn_of _ (by decide +kernel)) ggX10_type_X7_add
theorem dX10_type_0 : decode cX10_type 0 = .ok (.iload_n 3, 1) := by decide +kernel
theorem dX10_type_1 : decode cX10_type 1 = .ok (.i2l, 1) := by decide +kernel
theorem dX10_type_2 : decode cX10_type 2 = .ok (.iconst 1, 1) := by decide +kernel
theorem dX10_type_3 : decode cX10_type 3 = .ok (.bipush 8, 2) := by decide +kernel
theorem dX10_type_5 : decode cX10_type 5 = .ok (.invokestatic 62, 3) := by decide +kernel
theorem dX10_type_8 : decode cX10_type 8 = .ok (.ifCond .ne 5, 3) := by decide +kernel
theorem dX10_type_11 : decode cX10_type 11 = .ok (.iconst (-1), 1) := by decide +kernel
theorem dX10_type_12 : decode cX10_type 12 = .ok (.ireturn, 1) := by decide +kernel
theorem dX10_type_13 : decode cX10_type 13 = .ok (.iconst 0, 1) := by decide +kernel
theorem dX10_type_14 : decode cX10_type 14 = .ok (.istore 4, 2) := by decide +kernel
theorem dX10_type_16 : decode cX10_type 16 = .ok (.iload 4, 2) := by decide +kernel
theorem dX10_type_18 : decode cX10_type 18 = .ok (.iload_n 3, 1) := by decide +kernel
theorem dX10_type_19 : decode cX10_type 19 = .ok (.if_icmp .ge 28, 3) := by decide +kernel
theorem dX10_type_22 : decode cX10_type 22 = .ok (.lload_n 1, 1) := by decide +kernel
theorem dX10_type_23 : decode cX10_type 23 = .ok (.iload 4, 2) := by decide +kernel
theorem dX10_type_25 : decode cX10_type 25 = .ok (.invokestatic 105, 3) := by decide +kernel
theorem dX10_type_28 : decode cX10_type 28 = .ok (.i2l, 1) := by decide +kernel
theorem dX10_type_29 : decode cX10_type 29 = .ok (.bipush 32, 2) := by decide +kernel
theorem dX10_type_31 : decode cX10_type 31 = .ok (.bipush 126, 2) := by decide +kernel
theorem dX10_type_33 : decode cX10_type 33 = .ok (.invokestatic 62, 3) := by decide +kernel
theorem dX10_type_36 : decode cX10_type 36 = .ok (.ifCond .ne 5, 3) := by decide +kernel
theorem dX10_type_39 : decode cX10_type 39 = .ok (.iconst (-1), 1) := by decide +kernel
theorem dX10_type_40 : decode cX10_type 40 = .ok (.ireturn, 1) := by decide +kernel
theorem dX10_type_41 : decode cX10_type 41 = .ok (.iinc 4 1, 3) := by decide +kernel
theorem dX10_type_44 : decode cX10_type 44 = .ok (.goto (-28), 3) := by decide +kernel
theorem dX10_type_47 : decode cX10_type 47 = .ok (.aload_n 0, 1) := by decide +kernel
theorem dX10_type_48 : decode cX10_type 48 = .ok (.getfield 26, 3) := by decide +kernel
theorem dX10_type_51 : decode cX10_type 51 = .ok (.getfield 109, 3) := by decide +kernel
theorem dX10_type_54 : decode cX10_type 54 = .ok (.iload_n 3, 1) := by decide +kernel
theorem dX10_type_55 : decode cX10_type 55 = .ok (.iadd, 1) := by decide +kernel
theorem dX10_type_56 : decode cX10_type 56 = .ok (.sipush 140, 3) := by decide +kernel
theorem dX10_type_59 : decode cX10_type 59 = .ok (.if_icmp .le 6, 3) := by decide +kernel
theorem dX10_type_62 : decode cX10_type 62 = .ok (.bipush (-3), 2) := by decide +kernel
theorem dX10_type_64 : decode cX10_type 64 = .ok (.ireturn, 1) := by decide +kernel
theorem dX10_type_65 : decode cX10_type 65 = .ok (.iload_n 3, 1) := by decide +kernel
theorem dX10_type_66 : decode cX10_type 66 = .ok (.iconst 1, 1) := by decide +kernel
theorem dX10_type_67 : decode cX10_type 67 = .ok (.isub, 1) := by decide +kernel
theorem dX10_type_68 : decode cX10_type 68 = .ok (.istore 4, 2) := by decide +kernel
theorem dX10_type_70 : decode cX10_type 70 = .ok (.iload 4, 2) := by decide +kernel
theorem dX10_type_72 : decode cX10_type 72 = .ok (.ifCond .lt 22, 3) := by decide +kernel
