theorem dX10_type_75 : decode cX10_type 75 = .ok (.aload_n 0, 1) := by decide +kernel
theorem dX10_type_76 : decode cX10_type 76 = .ok (.getfield 26, 3) := by decide +kernel
theorem dX10_type_79 : decode cX10_type 79 = .ok (.lload_n 1, 1) := by decide +kernel
theorem dX10_type_80 : decode cX10_type 80 = .ok (.iload 4, 2) := by decide +kernel
theorem dX10_type_82 : decode cX10_type 82 = .ok (.invokestatic 105, 3) := by decide +kernel
theorem dX10_type_85 : decode cX10_type 85 = .ok (.invokevirtual 112, 3) := by decide +kernel
theorem dX10_type_88 : decode cX10_type 88 = .ok (.iinc 4 (-1), 3) := by decide +kernel
theorem dX10_type_91 : decode cX10_type 91 = .ok (.goto (-21), 3) := by decide +kernel
theorem dX10_type_94 : decode cX10_type 94 = .ok (.aload_n 0, 1) := by decide +kernel
theorem dX10_type_95 : decode cX10_type 95 = .ok (.getfield 26, 3) := by decide +kernel
theorem dX10_type_98 : decode cX10_type 98 = .ok (.getfield 109, 3) := by decide +kernel
theorem dX10_type_101 : decode cX10_type 101 = .ok (.ireturn, 1) := by decide +kernel
set_option maxRecDepth 20000 in
theorem ggX10_ice_X0_readIce : GoodIn wsX10_ice wsX0_readIce := goodIn_r _ [10, 11, 12, 13, 14, 15, 16, 17, 18, 19, 20, 21, 22, 23, 24, 25, 26, 27, 28, 29, 30, 9, 31, 32, 33, 34, 35, 36, 37, 38, 39, 40, 41, 42, 43, 44, 45, 46, 47, 48, 49, 50, 51, 52, 53, 54, 55, 56, 57, 58, 59, 60, 61, 62, 63, 64, 65, 66, 67, 68, 69, 70, 71, 72, 73, 74, 75, 76, 77, 78, 79, 80, 81, 82, 83, 84, 85, 86, 87, 88, 89, 90, 91, 92, 93, 94, 95, 96, 97, 98, 99, 100, 101, 102, 130, 131, 132, 127, 128, 129] (by decide +kernel) (by decide +kernel)
set_option maxRecDepth 20000 in
theorem gX10_ice_X0_readIce : GoodIn wsX10_ice (wsV RX10 115 RX0 yX0_readIce wsX0_readIce) := goodIn_app (goodIn_of _ (by decide +kernel)) ggX10_ice_X0_readIce
set_option maxRecDepth 20000 in
theorem ggX10_ice_X0_layIce : GoodIn wsX10_ice wsX0_layIce := goodIn_r _ [106, 11, 32, 107, 108, 109, 110, 111, 112, 130, 131, 132, 133] (by decide +kernel) (by decide +kernel)
set_option maxRecDepth 20000 in
theorem gX10_ice_X0_layIce : GoodIn wsX10_ice (wsV RX10 119 RX0 yX0_layIce wsX0_layIce) := goodIn_app (goodIn_of _ (by decide +kernel)) ggX10_ice_X0_layIce
theorem dX10_ice_0 : decode cX10_ice 0 = .ok (.aload_n 0, 1) := by decide +kernel
theorem dX10_ice_1 : decode cX10_ice 1 = .ok (.getfield 33, 3) := by decide +kernel
theorem dX10_ice_4 : decode cX10_ice 4 = .ok (.aload_n 0, 1) := by decide +kernel
theorem dX10_ice_5 : decode cX10_ice 5 = .ok (.getfield 26, 3) := by decide +kernel
theorem dX10_ice_8 : decode cX10_ice 8 = .ok (.invokevirtual 115, 3) := by decide +kernel
theorem dX10_ice_11 : decode cX10_ice 11 = .ok (.istore_n 1, 1) := by decide +kernel
theorem dX10_ice_12 : decode cX10_ice 12 = .ok (.iload_n 1, 1) := by decide +kernel
theorem dX10_ice_13 : decode cX10_ice 13 = .ok (.ifCond .le 17, 3) := by decide +kernel
theorem dX10_ice_16 : decode cX10_ice 16 = .ok (.aload_n 0, 1) := by decide +kernel
theorem dX10_ice_17 : decode cX10_ice 17 = .ok (.getfield 33, 3) := by decide +kernel
theorem dX10_ice_20 : decode cX10_ice 20 = .ok (.aload_n 0, 1) := by decide +kernel
theorem dX10_ice_21 : decode cX10_ice 21 = .ok (.getfield 12, 3) := by decide +kernel
theorem dX10_ice_24 : decode cX10_ice 24 = .ok (.getfield 70, 3) := by decide +kernel
theorem dX10_ice_27 : decode cX10_ice 27 = .ok (.invokevirtual 119, 3) := by decide +kernel
theorem dX10_ice_30 : decode cX10_ice 30 = .ok (.aload_n 0, 1) := by decide +kernel
theorem dX10_ice_31 : decode cX10_ice 31 = .ok (.getfield 26, 3) := by decide +kernel
theorem dX10_ice_34 : decode cX10_ice 34 = .ok (.iconst 0, 1) := by decide +kernel
theorem dX10_ice_35 : decode cX10_ice 35 = .ok (.putfield 109, 3) := by decide +kernel
theorem dX10_ice_38 : decode cX10_ice 38 = .ok (.iload_n 1, 1) := by decide +kernel
theorem dX10_ice_39 : decode cX10_ice 39 = .ok (.ireturn, 1) := by decide +kernel
set_option maxRecDepth 20000 in
theorem ggX10_sleighs_X0_readTrain : GoodIn wsX10_sleighs wsX0_readTrain := goodIn_r _ [11, 12, 13, 14, 15, 16, 17, 18, 19, 20, 21, 22, 23, 24, 25, 26, 27, 28, 10, 29, 30, 31, 32, 33, 34, 35, 36, 37, 38, 39, 40, 41, 42, 43, 44, 45, 46, 47, 48, 49, 50, 51, 52, 53, 54, 55, 56, 57, 58, 59, 60, 61, 62, 63, 64, 65, 66, 67, 68, 69, 70, 71, 94, 95, 96, 100, 101, 102, 103, 97, 98, 99] (by decide +kernel) (by decide +kernel)
set_option maxRecDepth 20000 in
theorem gX10_sleighs_X0_readTrain : GoodIn wsX10_sleighs (wsV RX10 123 RX0 yX0_readTrain wsX0_readTrain) := goodIn_app (goodIn_of _ (by decide +kernel)) ggX10_sleighs_X0_readTrain
set_option maxRecDepth 20000 in
theorem ggX10_sleighs_X8_copy : GoodIn wsX10_sleighs wsX8_copy := goodIn_r _ [75, 64, 76, 77, 78, 79, 66, 67, 65, 100, 101, 102, 103] (by decide +kernel) (by decide +kernel)
set_option maxRecDepth 20000 in
theorem gX10_sleighs_X8_copy : GoodIn wsX10_sleighs (wsV RX10 131 RX8 yX8_copy wsX8_copy) := goodIn_app (goodIn_of _ (by decide +kernel)) ggX10_sleighs_X8_copy
theorem dX10_sleighs_0 : decode cX10_sleighs 0 = .ok (.aload_n 0, 1) := by decide +kernel
theorem dX10_sleighs_1 : decode cX10_sleighs 1 = .ok (.getfield 33, 3) := by decide +kernel
theorem dX10_sleighs_4 : decode cX10_sleighs 4 = .ok (.aload_n 0, 1) := by decide +kernel
theorem dX10_sleighs_5 : decode cX10_sleighs 5 = .ok (.getfield 26, 3) := by decide +kernel
theorem dX10_sleighs_8 : decode cX10_sleighs 8 = .ok (.invokevirtual 123, 3) := by decide +kernel
theorem dX10_sleighs_11 : decode cX10_sleighs 11 = .ok (.istore_n 1, 1) := by decide +kernel
theorem dX10_sleighs_12 : decode cX10_sleighs 12 = .ok (.iload_n 1, 1) := by decide +kernel
theorem dX10_sleighs_13 : decode cX10_sleighs 13 = .ok (.ifCond .le 20, 3) := by decide +kernel
theorem dX10_sleighs_16 : decode cX10_sleighs 16 = .ok (.aload_n 0, 1) := by decide +kernel
theorem dX10_sleighs_17 : decode cX10_sleighs 17 = .ok (.getfield 12, 3) := by decide +kernel
theorem dX10_sleighs_20 : decode cX10_sleighs 20 = .ok (.getfield 126, 3) := by decide +kernel
theorem dX10_sleighs_23 : decode cX10_sleighs 23 = .ok (.aload_n 0, 1) := by decide +kernel
theorem dX10_sleighs_24 : decode cX10_sleighs 24 = .ok (.getfield 33, 3) := by decide +kernel
theorem dX10_sleighs_27 : decode cX10_sleighs 27 = .ok (.getfield 130, 3) := by decide +kernel
theorem dX10_sleighs_30 : decode cX10_sleighs 30 = .ok (.invokevirtual 131, 3) := by decide +kernel
theorem dX10_sleighs_33 : decode cX10_sleighs 33 = .ok (.aload_n 0, 1) := by decide +kernel
theorem dX10_sleighs_34 : decode cX10_sleighs 34 = .ok (.getfield 26, 3) := by decide +kernel
theorem dX10_sleighs_37 : decode cX10_sleighs 37 = .ok (.iconst 0, 1) := by decide +kernel
theorem dX10_sleighs_38 : decode cX10_sleighs 38 = .ok (.putfield 109, 3) := by decide +kernel
theorem dX10_sleighs_41 : decode cX10_sleighs 41 = .ok (.iload_n 1, 1) := by decide +kernel
theorem dX10_sleighs_42 : decode cX10_sleighs 42 = .ok (.ireturn, 1) := by decide +kernel
set_option maxRecDepth 20000 in
theorem ggX10_count_X2_thinnerThan : GoodIn wsX10_count wsX2_thinnerThan := goodIn_r _ [13, 14, 15, 16, 12, 17, 18, 55] (by decide +kernel) (by decide +kernel)
set_option maxRecDepth 20000 in
theorem gX10_count_X2_thinnerThan : GoodIn wsX10_count (wsV RX10 152 RX2 yX2_thinnerThan wsX2_thinnerThan) := goodIn_app (goodIn_of _ (by decide +kernel)) ggX10_count_X2_thinnerThan
set_option maxRecDepth 20000 in
theorem ggX10_count_J13_bitCount_95d88 : GoodIn wsX10_count wsJ13_bitCount_95d88 := goodIn_r _ [22, 23, 24, 25] (by decide +kernel) (by decide +kernel)
set_option maxRecDepth 20000 in
theorem gX10_count_J13_bitCount_95d88 : GoodIn wsX10_count (va_wsS RX10 156 yJ13_bitCount_95d88 wsJ13_bitCount_95d88) := goodIn_app (goodIn_of _ (by decide +kernel)) ggX10_count_J13_bitCount_95d88
set_option maxRecDepth 20000 in
theorem ggX10_count_X2_total : GoodIn wsX10_count wsX2_total := goodIn_r _ [29, 14, 15, 16, 12, 17, 18, 55] (by decide +kernel) (by decide +kernel)
set_option maxRecDepth 20000 in
theorem gX10_count_X2_total : GoodIn wsX10_count (wsV RX10 95 RX2 yX2_total wsX2_total) := goodIn_app (goodIn_of _ (by decide +kernel)) ggX10_count_X2_total
theorem dX10_count_0 : decode cX10_count 0 = .ok (.iload_n 1, 1) := by decide +kernel
theorem dX10_count_1 : decode cX10_count 1 = .ok (.tableswitch 95 0 4 #[35, 46, 57, 68, 83], 35) := by decide +kernel
theorem dX10_count_36 : decode cX10_count 36 = .ok (.aload_n 0, 1) := by decide +kernel
theorem dX10_count_37 : decode cX10_count 37 = .ok (.getfield 12, 3) := by decide +kernel
theorem dX10_count_40 : decode cX10_count 40 = .ok (.getfield 126, 3) := by decide +kernel
theorem dX10_count_43 : decode cX10_count 43 = .ok (.getfield 137, 3) := by decide +kernel
theorem dX10_count_46 : decode cX10_count 46 = .ok (.ireturn, 1) := by decide +kernel
theorem dX10_count_47 : decode cX10_count 47 = .ok (.aload_n 0, 1) := by decide +kernel
theorem dX10_count_48 : decode cX10_count 48 = .ok (.getfield 12, 3) := by decide +kernel
theorem dX10_count_51 : decode cX10_count 51 = .ok (.getfield 138, 3) := by decide +kernel
theorem dX10_count_54 : decode cX10_count 54 = .ok (.getfield 142, 3) := by decide +kernel
theorem dX10_count_57 : decode cX10_count 57 = .ok (.ireturn, 1) := by decide +kernel
theorem dX10_count_58 : decode cX10_count 58 = .ok (.aload_n 0, 1) := by decide +kernel
theorem dX10_count_59 : decode cX10_count 59 = .ok (.getfield 12, 3) := by decide +kernel
theorem dX10_count_62 : decode cX10_count 62 = .ok (.getfield 145, 3) := by decide +kernel
theorem dX10_count_65 : decode cX10_count 65 = .ok (.getfield 149, 3) := by decide +kernel
theorem dX10_count_68 : decode cX10_count 68 = .ok (.ireturn, 1) := by decide +kernel
theorem dX10_count_69 : decode cX10_count 69 = .ok (.aload_n 0, 1) := by decide +kernel
theorem dX10_count_70 : decode cX10_count 70 = .ok (.getfield 12, 3) := by decide +kernel
theorem dX10_count_73 : decode cX10_count 73 = .ok (.getfield 70, 3) := by decide +kernel
theorem dX10_count_76 : decode cX10_count 76 = .ok (.iconst 1, 1) := by decide +kernel
theorem dX10_count_77 : decode cX10_count 77 = .ok (.invokevirtual 152, 3) := by decide +kernel
theorem dX10_count_80 : decode cX10_count 80 = .ok (.invokestatic 156, 3) := by decide +kernel
theorem dX10_count_83 : decode cX10_count 83 = .ok (.ireturn, 1) := by decide +kernel
theorem dX10_count_84 : decode cX10_count 84 = .ok (.aload_n 0, 1) := by decide +kernel
theorem dX10_count_85 : decode cX10_count 85 = .ok (.getfield 12, 3) := by decide +kernel
theorem dX10_count_88 : decode cX10_count 88 = .ok (.getfield 70, 3) := by decide +kernel
theorem dX10_count_91 : decode cX10_count 91 = .ok (.iconst 4, 1) := by decide +kernel
theorem dX10_count_92 : decode cX10_count 92 = .ok (.invokevirtual 95, 3) := by decide +kernel
theorem dX10_count_95 : decode cX10_count 95 = .ok (.ireturn, 1) := by decide +kernel
theorem dX10_count_96 : decode cX10_count 96 = .ok (.iconst (-1), 1) := by decide +kernel
theorem dX10_count_97 : decode cX10_count 97 = .ok (.ireturn, 1) := by decide +kernel
set_option maxRecDepth 20000 in
theorem ggX10_sleigh_X10_isLoad : GoodIn wsX10_sleigh wsX10_isLoad := goodIn_r _ [7, 8, 9, 6, 10] (by decide +kernel) (by decide +kernel)
set_option maxRecDepth 20000 in
theorem gX10_sleigh_X10_isLoad : GoodIn wsX10_sleigh (va_wsS RX10 162 yX10_isLoad wsX10_isLoad) := goodIn_app (goodIn_of _ (by decide +kernel)) ggX10_sleigh_X10_isLoad
set_option maxRecDepth 20000 in
theorem ggX10_sleigh_X10_isPace : GoodIn wsX10_sleigh wsX10_isPace := goodIn_r _ [13, 8, 9, 6, 10] (by decide +kernel) (by decide +kernel)
set_option maxRecDepth 20000 in
theorem gX10_sleigh_X10_isPace : GoodIn wsX10_sleigh (va_wsS RX10 166 yX10_isPace wsX10_isPace) := goodIn_app (goodIn_of _ (by decide +kernel)) ggX10_sleigh_X10_isPace
set_option maxRecDepth 20000 in
theorem ggX10_sleigh_X10_isWithin : GoodIn wsX10_sleigh wsX10_isWithin := goodIn_r _ [10] (by decide +kernel) (by decide +kernel)
set_option maxRecDepth 20000 in
theorem gX10_sleigh_X10_isWithin : GoodIn wsX10_sleigh (va_wsS RX10 62 yX10_isWithin wsX10_isWithin) := goodIn_app (goodIn_of _ (by decide +kernel)) ggX10_sleigh_X10_isWithin
set_option maxRecDepth 20000 in
theorem ggX10_sleigh_X8_add : GoodIn wsX10_sleigh wsX8_add := goodIn_r _ [18, 19, 20, 21, 22, 37, 38, 39, 40] (by decide +kernel) (by decide +kernel)
set_option maxRecDepth 20000 in
theorem gX10_sleigh_X8_add : GoodIn wsX10_sleigh (wsV RX10 169 RX8 yX8_add wsX8_add) := goodIn_app (goodIn_of _ (by decide +kernel)) ggX10_sleigh_X8_add
theorem dX10_sleigh_0 : decode cX10_sleigh 0 = .ok (.iload_n 1, 1) := by decide +kernel
theorem dX10_sleigh_1 : decode cX10_sleigh 1 = .ok (.invokestatic 162, 3) := by decide +kernel
theorem dX10_sleigh_4 : decode cX10_sleigh 4 = .ok (.ifCond .eq 21, 3) := by decide +kernel
theorem dX10_sleigh_7 : decode cX10_sleigh 7 = .ok (.iload_n 2, 1) := by decide +kernel
theorem dX10_sleigh_8 : decode cX10_sleigh 8 = .ok (.invokestatic 166, 3) := by decide +kernel
theorem dX10_sleigh_11 : decode cX10_sleigh 11 = .ok (.ifCond .eq 14, 3) := by decide +kernel
theorem dX10_sleigh_14 : decode cX10_sleigh 14 = .ok (.iload_n 3, 1) := by decide +kernel
theorem dX10_sleigh_15 : decode cX10_sleigh 15 = .ok (.i2l, 1) := by decide +kernel
theorem dX10_sleigh_16 : decode cX10_sleigh 16 = .ok (.iconst 0, 1) := by decide +kernel
theorem dX10_sleigh_17 : decode cX10_sleigh 17 = .ok (.bipush 99, 2) := by decide +kernel
theorem dX10_sleigh_19 : decode cX10_sleigh 19 = .ok (.invokestatic 62, 3) := by decide +kernel
theorem dX10_sleigh_22 : decode cX10_sleigh 22 = .ok (.ifCond .ne 5, 3) := by decide +kernel
theorem dX10_sleigh_25 : decode cX10_sleigh 25 = .ok (.iconst (-1), 1) := by decide +kernel
theorem dX10_sleigh_26 : decode cX10_sleigh 26 = .ok (.ireturn, 1) := by decide +kernel
theorem dX10_sleigh_27 : decode cX10_sleigh 27 = .ok (.aload_n 0, 1) := by decide +kernel
theorem dX10_sleigh_28 : decode cX10_sleigh 28 = .ok (.getfield 12, 3) := by decide +kernel
theorem dX10_sleigh_31 : decode cX10_sleigh 31 = .ok (.getfield 126, 3) := by decide +kernel
theorem dX10_sleigh_34 : decode cX10_sleigh 34 = .ok (.getfield 137, 3) := by decide +kernel
theorem dX10_sleigh_37 : decode cX10_sleigh 37 = .ok (.bipush 6, 2) := by decide +kernel
theorem dX10_sleigh_39 : decode cX10_sleigh 39 = .ok (.if_icmp .lt 6, 3) := by decide +kernel
theorem dX10_sleigh_42 : decode cX10_sleigh 42 = .ok (.bipush (-3), 2) := by decide +kernel
theorem dX10_sleigh_44 : decode cX10_sleigh 44 = .ok (.ireturn, 1) := by decide +kernel
theorem dX10_sleigh_45 : decode cX10_sleigh 45 = .ok (.aload_n 0, 1) := by decide +kernel
theorem dX10_sleigh_46 : decode cX10_sleigh 46 = .ok (.getfield 12, 3) := by decide +kernel
theorem dX10_sleigh_49 : decode cX10_sleigh 49 = .ok (.getfield 126, 3) := by decide +kernel
theorem dX10_sleigh_52 : decode cX10_sleigh 52 = .ok (.iload_n 1, 1) := by decide +kernel
theorem dX10_sleigh_53 : decode cX10_sleigh 53 = .ok (.iload_n 2, 1) := by decide +kernel
theorem dX10_sleigh_54 : decode cX10_sleigh 54 = .ok (.iload_n 3, 1) := by decide +kernel
theorem dX10_sleigh_55 : decode cX10_sleigh 55 = .ok (.invokevirtual 169, 3) := by decide +kernel
theorem dX10_sleigh_58 : decode cX10_sleigh 58 = .ok (.aload_n 0, 1) := by decide +kernel
theorem dX10_sleigh_59 : decode cX10_sleigh 59 = .ok (.getfield 12, 3) := by decide +kernel
theorem dX10_sleigh_62 : decode cX10_sleigh 62 = .ok (.getfield 126, 3) := by decide +kernel
theorem dX10_sleigh_65 : decode cX10_sleigh 65 = .ok (.getfield 137, 3) := by decide +kernel
theorem dX10_sleigh_68 : decode cX10_sleigh 68 = .ok (.iconst 1, 1) := by decide +kernel
theorem dX10_sleigh_69 : decode cX10_sleigh 69 = .ok (.isub, 1) := by decide +kernel
theorem dX10_sleigh_70 : decode cX10_sleigh 70 = .ok (.ireturn, 1) := by decide +kernel
theorem dX10_home_0 : decode cX10_home 0 = .ok (.aload_n 0, 1) := by decide +kernel
theorem dX10_home_1 : decode cX10_home 1 = .ok (.getfield 12, 3) := by decide +kernel
theorem dX10_home_4 : decode cX10_home 4 = .ok (.getfield 126, 3) := by decide +kernel
theorem dX10_home_7 : decode cX10_home 7 = .ok (.getfield 137, 3) := by decide +kernel
theorem dX10_home_10 : decode cX10_home 10 = .ok (.istore_n 1, 1) := by decide +kernel
theorem dX10_home_11 : decode cX10_home 11 = .ok (.aload_n 0, 1) := by decide +kernel
theorem dX10_home_12 : decode cX10_home 12 = .ok (.getfield 12, 3) := by decide +kernel
theorem dX10_home_15 : decode cX10_home 15 = .ok (.getfield 126, 3) := by decide +kernel
theorem dX10_home_18 : decode cX10_home 18 = .ok (.iconst 0, 1) := by decide +kernel
theorem dX10_home_19 : decode cX10_home 19 = .ok (.putfield 137, 3) := by decide +kernel
theorem dX10_home_22 : decode cX10_home 22 = .ok (.iload_n 1, 1) := by decide +kernel
theorem dX10_home_23 : decode cX10_home 23 = .ok (.ireturn, 1) := by decide +kernel
set_option maxRecDepth 20000 in
theorem ggX10_step_X10_isSquare : GoodIn wsX10_step wsX10_isSquare := goodIn_r _ [8, 9, 10, 7, 11] (by decide +kernel) (by decide +kernel)
set_option maxRecDepth 20000 in
theorem gX10_step_X10_isSquare : GoodIn wsX10_step (va_wsS RX10 58 yX10_isSquare wsX10_isSquare) := goodIn_app (goodIn_of _ (by decide +kernel)) ggX10_step_X10_isSquare
set_option maxRecDepth 20000 in
theorem ggX10_step_X10_areNext : GoodIn wsX10_step wsX10_areNext := goodIn_r _ [14, 15, 16, 7, 17, 18, 19] (by decide +kernel) (by decide +kernel)
set_option maxRecDepth 20000 in
theorem gX10_step_X10_areNext : GoodIn wsX10_step (va_wsS RX10 174 yX10_areNext wsX10_areNext) := goodIn_app (goodIn_of _ (by decide +kernel)) ggX10_step_X10_areNext
set_option maxRecDepth 20000 in
theorem ggX10_step_X9_add : GoodIn wsX10_step wsX9_add := goodIn_r _ [24, 25, 26, 41, 42] (by decide +kernel) (by decide +kernel)
set_option maxRecDepth 20000 in
theorem gX10_step_X9_add : GoodIn wsX10_step (wsV RX10 178 RX9 yX9_add wsX9_add) := goodIn_app (goodIn_of _ (by decide +kernel)) ggX10_step_X9_add
theorem dX10_step_0 : decode cX10_step 0 = .ok (.iload_n 1, 1) := by decide +kernel
theorem dX10_step_1 : decode cX10_step 1 = .ok (.i2l, 1) := by decide +kernel
theorem dX10_step_2 : decode cX10_step 2 = .ok (.invokestatic 58, 3) := by decide +kernel
theorem dX10_step_5 : decode cX10_step 5 = .ok (.ifCond .ne 5, 3) := by decide +kernel
theorem dX10_step_8 : decode cX10_step 8 = .ok (.iconst (-1), 1) := by decide +kernel
theorem dX10_step_9 : decode cX10_step 9 = .ok (.ireturn, 1) := by decide +kernel
theorem dX10_step_10 : decode cX10_step 10 = .ok (.aload_n 0, 1) := by decide +kernel
theorem dX10_step_11 : decode cX10_step 11 = .ok (.getfield 12, 3) := by decide +kernel
theorem dX10_step_14 : decode cX10_step 14 = .ok (.getfield 138, 3) := by decide +kernel
theorem dX10_step_17 : decode cX10_step 17 = .ok (.astore_n 2, 1) := by decide +kernel
theorem dX10_step_18 : decode cX10_step 18 = .ok (.aload_n 2, 1) := by decide +kernel
theorem dX10_step_19 : decode cX10_step 19 = .ok (.getfield 142, 3) := by decide +kernel
theorem dX10_step_22 : decode cX10_step 22 = .ok (.ifCond .le 24, 3) := by decide +kernel
theorem dX10_step_25 : decode cX10_step 25 = .ok (.aload_n 2, 1) := by decide +kernel
theorem dX10_step_26 : decode cX10_step 26 = .ok (.getfield 171, 3) := by decide +kernel
theorem dX10_step_29 : decode cX10_step 29 = .ok (.aload_n 2, 1) := by decide +kernel
theorem dX10_step_30 : decode cX10_step 30 = .ok (.getfield 142, 3) := by decide +kernel
theorem dX10_step_33 : decode cX10_step 33 = .ok (.iconst 1, 1) := by decide +kernel
theorem dX10_step_34 : decode cX10_step 34 = .ok (.isub, 1) := by decide +kernel
theorem dX10_step_35 : decode cX10_step 35 = .ok (.iaload, 1) := by decide +kernel
theorem dX10_step_36 : decode cX10_step 36 = .ok (.iload_n 1, 1) := by decide +kernel
theorem dX10_step_37 : decode cX10_step 37 = .ok (.invokestatic 174, 3) := by decide +kernel
theorem dX10_step_40 : decode cX10_step 40 = .ok (.ifCond .ne 6, 3) := by decide +kernel
theorem dX10_step_43 : decode cX10_step 43 = .ok (.bipush (-2), 2) := by decide +kernel
theorem dX10_step_45 : decode cX10_step 45 = .ok (.ireturn, 1) := by decide +kernel
theorem dX10_step_46 : decode cX10_step 46 = .ok (.aload_n 2, 1) := by decide +kernel
theorem dX10_step_47 : decode cX10_step 47 = .ok (.getfield 142, 3) := by decide +kernel
theorem dX10_step_50 : decode cX10_step 50 = .ok (.bipush 24, 2) := by decide +kernel
theorem dX10_step_52 : decode cX10_step 52 = .ok (.if_icmp .lt 6, 3) := by decide +kernel
theorem dX10_step_55 : decode cX10_step 55 = .ok (.bipush (-3), 2) := by decide +kernel
theorem dX10_step_57 : decode cX10_step 57 = .ok (.ireturn, 1) := by decide +kernel
theorem dX10_step_58 : decode cX10_step 58 = .ok (.aload_n 2, 1) := by decide +kernel
theorem dX10_step_59 : decode cX10_step 59 = .ok (.iload_n 1, 1) := by decide +kernel
theorem dX10_step_60 : decode cX10_step 60 = .ok (.invokevirtual 178, 3) := by decide +kernel
theorem dX10_step_63 : decode cX10_step 63 = .ok (.aload_n 2, 1) := by decide +kernel
theorem dX10_step_64 : decode cX10_step 64 = .ok (.getfield 142, 3) := by decide +kernel
theorem dX10_step_67 : decode cX10_step 67 = .ok (.ireturn, 1) := by decide +kernel
set_option maxRecDepth 20000 in
theorem ggX10_back_X10_isWithin : GoodIn wsX10_back wsX10_isWithin := goodIn_r _ [7] (by decide +kernel) (by decide +kernel)
set_option maxRecDepth 20000 in
theorem gX10_back_X10_isWithin : GoodIn wsX10_back (va_wsS RX10 62 yX10_isWithin wsX10_isWithin) := goodIn_app (goodIn_of _ (by decide +kernel)) ggX10_back_X10_isWithin
theorem dX10_back_0 : decode cX10_back 0 = .ok (.iload_n 1, 1) := by decide +kernel
theorem dX10_back_1 : decode cX10_back 1 = .ok (.i2l, 1) := by decide +kernel
theorem dX10_back_2 : decode cX10_back 2 = .ok (.iconst 1, 1) := by decide +kernel
theorem dX10_back_3 : decode cX10_back 3 = .ok (.bipush 24, 2) := by decide +kernel
theorem dX10_back_5 : decode cX10_back 5 = .ok (.invokestatic 62, 3) := by decide +kernel
theorem dX10_back_8 : decode cX10_back 8 = .ok (.ifCond .ne 5, 3) := by decide +kernel
theorem dX10_back_11 : decode cX10_back 11 = .ok (.iconst (-1), 1) := by decide +kernel
theorem dX10_back_12 : decode cX10_back 12 = .ok (.ireturn, 1) := by decide +kernel
theorem dX10_back_13 : decode cX10_back 13 = .ok (.iload_n 1, 1) := by decide +kernel
theorem dX10_back_14 : decode cX10_back 14 = .ok (.aload_n 0, 1) := by decide +kernel
theorem dX10_back_15 : decode cX10_back 15 = .ok (.getfield 12, 3) := by decide +kernel
theorem dX10_back_18 : decode cX10_back 18 = .ok (.getfield 138, 3) := by decide +kernel
theorem dX10_back_21 : decode cX10_back 21 = .ok (.getfield 142, 3) := by decide +kernel
theorem dX10_back_24 : decode cX10_back 24 = .ok (.if_icmp .le 6, 3) := by decide +kernel
theorem dX10_back_27 : decode cX10_back 27 = .ok (.bipush (-2), 2) := by decide +kernel
theorem dX10_back_29 : decode cX10_back 29 = .ok (.ireturn, 1) := by decide +kernel
theorem dX10_back_30 : decode cX10_back 30 = .ok (.aload_n 0, 1) := by decide +kernel
theorem dX10_back_31 : decode cX10_back 31 = .ok (.getfield 12, 3) := by decide +kernel
theorem dX10_back_34 : decode cX10_back 34 = .ok (.getfield 138, 3) := by decide +kernel
theorem dX10_back_37 : decode cX10_back 37 = .ok (.dup, 1) := by decide +kernel
theorem dX10_back_38 : decode cX10_back 38 = .ok (.getfield 142, 3) := by decide +kernel
theorem dX10_back_41 : decode cX10_back 41 = .ok (.iload_n 1, 1) := by decide +kernel
theorem dX10_back_42 : decode cX10_back 42 = .ok (.isub, 1) := by decide +kernel
theorem dX10_back_43 : decode cX10_back 43 = .ok (.putfield 142, 3) := by decide +kernel
theorem dX10_back_46 : decode cX10_back 46 = .ok (.aload_n 0, 1) := by decide +kernel
theorem dX10_back_47 : decode cX10_back 47 = .ok (.getfield 12, 3) := by decide +kernel
theorem dX10_back_50 : decode cX10_back 50 = .ok (.getfield 138, 3) := by decide +kernel
theorem dX10_back_53 : decode cX10_back 53 = .ok (.getfield 142, 3) := by decide +kernel
theorem dX10_back_56 : decode cX10_back 56 = .ok (.ireturn, 1) := by decide +kernel
set_option maxRecDepth 20000 in
theorem ggX10_need_X10_isWithin : GoodIn wsX10_need wsX10_isWithin := goodIn_r _ [9] (by decide +kernel) (by decide +kernel)
set_option maxRecDepth 20000 in
theorem gX10_need_X10_isWithin : GoodIn wsX10_need (va_wsS RX10 62 yX10_isWithin wsX10_isWithin) := goodIn_app (goodIn_of _ (by decide +kernel)) ggX10_need_X10_isWithin
set_option maxRecDepth 20000 in
theorem ggX10_need_X8_meets : GoodIn wsX10_need wsX8_meets := goodIn_r _ [14, 15, 16, 17, 13, 18, 19, 20, 43, 44, 45, 46] (by decide +kernel) (by decide +kernel)
set_option maxRecDepth 20000 in
theorem gX10_need_X8_meets : GoodIn wsX10_need (wsV RX10 179 RX8 yX8_meets wsX8_meets) := goodIn_app (goodIn_of _ (by decide +kernel)) ggX10_need_X8_meets
set_option maxRecDepth 20000 in
theorem ggX10_need_X8_weight : GoodIn wsX10_need wsX8_weight := goodIn_r _ [24, 25, 20, 26, 27, 8, 28, 15, 16, 17, 13, 18, 19, 43, 44, 45, 46] (by decide +kernel) (by decide +kernel)
set_option maxRecDepth 20000 in
theorem gX10_need_X8_weight : GoodIn wsX10_need (wsV RX10 182 RX8 yX8_weight wsX8_weight) := goodIn_app (goodIn_of _ (by decide +kernel)) ggX10_need_X8_weight
theorem dX10_need_0 : decode cX10_need 0 = .ok (.iload_n 1, 1) := by decide +kernel
theorem dX10_need_1 : decode cX10_need 1 = .ok (.i2l, 1) := by decide +kernel
theorem dX10_need_2 : decode cX10_need 2 = .ok (.iconst 0, 1) := by decide +kernel
theorem dX10_need_3 : decode cX10_need 3 = .ok (.aload_n 0, 1) := by decide +kernel
theorem dX10_need_4 : decode cX10_need 4 = .ok (.getfield 12, 3) := by decide +kernel
theorem dX10_need_7 : decode cX10_need 7 = .ok (.getfield 126, 3) := by decide +kernel
theorem dX10_need_10 : decode cX10_need 10 = .ok (.getfield 137, 3) := by decide +kernel
theorem dX10_need_13 : decode cX10_need 13 = .ok (.iconst 1, 1) := by decide +kernel
theorem dX10_need_14 : decode cX10_need 14 = .ok (.isub, 1) := by decide +kernel
theorem dX10_need_15 : decode cX10_need 15 = .ok (.invokestatic 62, 3) := by decide +kernel
theorem dX10_need_18 : decode cX10_need 18 = .ok (.ifCond .eq 24, 3) := by decide +kernel
theorem dX10_need_21 : decode cX10_need 21 = .ok (.iload_n 2, 1) := by decide +kernel
theorem dX10_need_22 : decode cX10_need 22 = .ok (.i2l, 1) := by decide +kernel
theorem dX10_need_23 : decode cX10_need 23 = .ok (.iconst 0, 1) := by decide +kernel
theorem dX10_need_24 : decode cX10_need 24 = .ok (.aload_n 0, 1) := by decide +kernel
theorem dX10_need_25 : decode cX10_need 25 = .ok (.getfield 12, 3) := by decide +kernel
theorem dX10_need_28 : decode cX10_need 28 = .ok (.getfield 138, 3) := by decide +kernel
theorem dX10_need_31 : decode cX10_need 31 = .ok (.getfield 142, 3) := by decide +kernel
theorem dX10_need_34 : decode cX10_need 34 = .ok (.iconst 1, 1) := by decide +kernel
theorem dX10_need_35 : decode cX10_need 35 = .ok (.isub, 1) := by decide +kernel
theorem dX10_need_36 : decode cX10_need 36 = .ok (.invokestatic 62, 3) := by decide +kernel
theorem dX10_need_39 : decode cX10_need 39 = .ok (.ifCond .ne 5, 3) := by decide +kernel
theorem dX10_need_42 : decode cX10_need 42 = .ok (.iconst (-1), 1) := by decide +kernel
theorem dX10_need_43 : decode cX10_need 43 = .ok (.ireturn, 1) := by decide +kernel
theorem dX10_need_44 : decode cX10_need 44 = .ok (.aload_n 0, 1) := by decide +kernel
theorem dX10_need_45 : decode cX10_need 45 = .ok (.getfield 12, 3) := by decide +kernel
theorem dX10_need_48 : decode cX10_need 48 = .ok (.getfield 126, 3) := by decide +kernel
theorem dX10_need_51 : decode cX10_need 51 = .ok (.iload_n 1, 1) := by decide +kernel
theorem dX10_need_52 : decode cX10_need 52 = .ok (.iload_n 2, 1) := by decide +kernel
theorem dX10_need_53 : decode cX10_need 53 = .ok (.invokevirtual 179, 3) := by decide +kernel
theorem dX10_need_56 : decode cX10_need 56 = .ok (.ifCond .eq 8, 3) := by decide +kernel
theorem dX10_need_59 : decode cX10_need 59 = .ok (.bipush (-2), 2) := by decide +kernel
theorem dX10_need_61 : decode cX10_need 61 = .ok (.goto 15, 3) := by decide +kernel
theorem dX10_need_64 : decode cX10_need 64 = .ok (.aload_n 0, 1) := by decide +kernel
theorem dX10_need_65 : decode cX10_need 65 = .ok (.getfield 12, 3) := by decide +kernel
theorem dX10_need_68 : decode cX10_need 68 = .ok (.getfield 126, 3) := by decide +kernel
theorem dX10_need_71 : decode cX10_need 71 = .ok (.iload_n 1, 1) := by decide +kernel
theorem dX10_need_72 : decode cX10_need 72 = .ok (.iload_n 2, 1) := by decide +kernel
theorem dX10_need_73 : decode cX10_need 73 = .ok (.invokevirtual 182, 3) := by decide +kernel
theorem dX10_need_76 : decode cX10_need 76 = .ok (.ireturn, 1) := by decide +kernel
set_option maxRecDepth 20000 in
theorem ggX10_breaks_X10_isWithin : GoodIn wsX10_breaks wsX10_isWithin := goodIn_r _ [8] (by decide +kernel) (by decide +kernel)
set_option maxRecDepth 20000 in
theorem gX10_breaks_X10_isWithin : GoodIn wsX10_breaks (va_wsS RX10 62 yX10_isWithin wsX10_isWithin) := goodIn_app (goodIn_of _ (by decide +kernel)) ggX10_breaks_X10_isWithin
set_option maxRecDepth 20000 in
theorem ggX10_breaks_X4_firstToBreak : GoodIn wsX10_breaks wsX4_firstToBreak := goodIn_r _ [13, 14, 15, 16, 17, 18, 12, 19, 20, 21, 22, 23, 24, 25, 26, 27, 28, 29, 30, 31, 32, 33, 34, 35, 36, 37, 38, 39, 40, 41, 7, 42, 43, 44, 45, 46, 47, 48, 49, 50, 51, 52, 53, 54, 55, 56, 57, 58, 59, 60, 61, 92, 93, 94, 95, 96, 97, 100, 101, 102, 103, 98, 99, 104] (by decide +kernel) (by decide +kernel)
set_option maxRecDepth 20000 in
theorem gX10_breaks_X4_firstToBreak : GoodIn wsX10_breaks (wsV RX10 185 RX4 yX4_firstToBreak wsX4_firstToBreak) := goodIn_app (goodIn_of _ (by decide +kernel)) ggX10_breaks_X4_firstToBreak
set_option maxRecDepth 20000 in
theorem ggX10_breaks_X4_breakingPlace : GoodIn wsX10_breaks wsX4_breakingPlace := goodIn_r _ [19, 20, 21, 14, 22, 23, 24, 25, 26, 27, 28, 29, 30, 31, 32, 33, 34, 35, 36, 37, 38, 39, 40, 41, 7, 42, 43, 44, 45, 46, 47, 48, 49, 50, 51, 52, 53, 54, 55, 56, 57, 58, 59, 60, 92, 93, 94, 95, 96, 97, 98, 99, 100, 101, 102, 103, 104] (by decide +kernel) (by decide +kernel)
set_option maxRecDepth 20000 in
theorem gX10_breaks_X4_breakingPlace : GoodIn wsX10_breaks (wsV RX10 189 RX4 yX4_breakingPlace wsX4_breakingPlace) := goodIn_app (goodIn_of _ (by decide +kernel)) ggX10_breaks_X4_breakingPlace
set_option maxRecDepth 20000 in
theorem ggX10_breaks_X8_minute : GoodIn wsX10_breaks wsX8_minute := goodIn_r _ [32, 33, 34, 100, 101, 102, 103] (by decide +kernel) (by decide +kernel)
set_option maxRecDepth 20000 in
theorem gX10_breaks_X8_minute : GoodIn wsX10_breaks (wsV RX10 192 RX8 yX8_minute wsX8_minute) := goodIn_app (goodIn_of _ (by decide +kernel)) ggX10_breaks_X8_minute
set_option maxRecDepth 20000 in
theorem ggX10_breaks_X4_crackedFrom : GoodIn wsX10_breaks wsX4_crackedFrom := goodIn_r _ [67, 22, 68, 69, 70, 71, 46, 72, 48, 49, 50, 51, 52, 73, 7, 74, 75, 76, 92, 93, 94, 95, 96, 97, 104] (by decide +kernel) (by decide +kernel)
set_option maxRecDepth 20000 in
theorem gX10_breaks_X4_crackedFrom : GoodIn wsX10_breaks (wsV RX10 195 RX4 yX4_crackedFrom wsX4_crackedFrom) := goodIn_app (goodIn_of _ (by decide +kernel)) ggX10_breaks_X4_crackedFrom
set_option maxRecDepth 20000 in
theorem ggX10_breaks_J13_bitCount_95d88 : GoodIn wsX10_breaks wsJ13_bitCount_95d88 := goodIn_r _ [80, 81, 82, 83] (by decide +kernel) (by decide +kernel)
set_option maxRecDepth 20000 in
theorem gX10_breaks_J13_bitCount_95d88 : GoodIn wsX10_breaks (va_wsS RX10 156 yJ13_bitCount_95d88 wsJ13_bitCount_95d88) := goodIn_app (goodIn_of _ (by decide +kernel)) ggX10_breaks_J13_bitCount_95d88
theorem dX10_breaks_0 : decode cX10_breaks 0 = .ok (.iload_n 1, 1) := by decide +kernel
theorem dX10_breaks_1 : decode cX10_breaks 1 = .ok (.i2l, 1) := by decide +kernel
theorem dX10_breaks_2 : decode cX10_breaks 2 = .ok (.iconst 0, 1) := by decide +kernel
theorem dX10_breaks_3 : decode cX10_breaks 3 = .ok (.iconst 3, 1) := by decide +kernel
theorem dX10_breaks_4 : decode cX10_breaks 4 = .ok (.invokestatic 62, 3) := by decide +kernel
theorem dX10_breaks_7 : decode cX10_breaks 7 = .ok (.ifCond .ne 5, 3) := by decide +kernel
theorem dX10_breaks_10 : decode cX10_breaks 10 = .ok (.iconst (-1), 1) := by decide +kernel
theorem dX10_breaks_11 : decode cX10_breaks 11 = .ok (.ireturn, 1) := by decide +kernel
theorem dX10_breaks_12 : decode cX10_breaks 12 = .ok (.aload_n 0, 1) := by decide +kernel
theorem dX10_breaks_13 : decode cX10_breaks 13 = .ok (.getfield 12, 3) := by decide +kernel
theorem dX10_breaks_16 : decode cX10_breaks 16 = .ok (.invokevirtual 185, 3) := by decide +kernel
theorem dX10_breaks_19 : decode cX10_breaks 19 = .ok (.istore_n 2, 1) := by decide +kernel
theorem dX10_breaks_20 : decode cX10_breaks 20 = .ok (.iload_n 2, 1) := by decide +kernel
theorem dX10_breaks_21 : decode cX10_breaks 21 = .ok (.ifCond .ge 6, 3) := by decide +kernel
theorem dX10_breaks_24 : decode cX10_breaks 24 = .ok (.bipush (-4), 2) := by decide +kernel
theorem dX10_breaks_26 : decode cX10_breaks 26 = .ok (.ireturn, 1) := by decide +kernel
theorem dX10_breaks_27 : decode cX10_breaks 27 = .ok (.aload_n 0, 1) := by decide +kernel
theorem dX10_breaks_28 : decode cX10_breaks 28 = .ok (.getfield 12, 3) := by decide +kernel
theorem dX10_breaks_31 : decode cX10_breaks 31 = .ok (.iload_n 2, 1) := by decide +kernel
theorem dX10_breaks_32 : decode cX10_breaks 32 = .ok (.invokevirtual 189, 3) := by decide +kernel
theorem dX10_breaks_35 : decode cX10_breaks 35 = .ok (.istore_n 3, 1) := by decide +kernel
theorem dX10_breaks_36 : decode cX10_breaks 36 = .ok (.aload_n 0, 1) := by decide +kernel
theorem dX10_breaks_37 : decode cX10_breaks 37 = .ok (.getfield 12, 3) := by decide +kernel
theorem dX10_breaks_40 : decode cX10_breaks 40 = .ok (.getfield 138, 3) := by decide +kernel
theorem dX10_breaks_43 : decode cX10_breaks 43 = .ok (.getfield 171, 3) := by decide +kernel
theorem dX10_breaks_46 : decode cX10_breaks 46 = .ok (.iload_n 3, 1) := by decide +kernel
theorem dX10_breaks_47 : decode cX10_breaks 47 = .ok (.iaload, 1) := by decide +kernel
theorem dX10_breaks_48 : decode cX10_breaks 48 = .ok (.istore 4, 2) := by decide +kernel
theorem dX10_breaks_50 : decode cX10_breaks 50 = .ok (.iload_n 1, 1) := by decide +kernel
theorem dX10_breaks_51 : decode cX10_breaks 51 = .ok (.tableswitch 43 0 2 #[25, 27, 30], 25) := by decide +kernel
theorem dX10_breaks_76 : decode cX10_breaks 76 = .ok (.iload_n 2, 1) := by decide +kernel
theorem dX10_breaks_77 : decode cX10_breaks 77 = .ok (.ireturn, 1) := by decide +kernel
theorem dX10_breaks_78 : decode cX10_breaks 78 = .ok (.iload 4, 2) := by decide +kernel
theorem dX10_breaks_80 : decode cX10_breaks 80 = .ok (.ireturn, 1) := by decide +kernel
theorem dX10_breaks_81 : decode cX10_breaks 81 = .ok (.aload_n 0, 1) := by decide +kernel
theorem dX10_breaks_82 : decode cX10_breaks 82 = .ok (.getfield 12, 3) := by decide +kernel
theorem dX10_breaks_85 : decode cX10_breaks 85 = .ok (.getfield 126, 3) := by decide +kernel
theorem dX10_breaks_88 : decode cX10_breaks 88 = .ok (.iload_n 2, 1) := by decide +kernel
theorem dX10_breaks_89 : decode cX10_breaks 89 = .ok (.iload_n 3, 1) := by decide +kernel
theorem dX10_breaks_90 : decode cX10_breaks 90 = .ok (.invokevirtual 192, 3) := by decide +kernel
theorem dX10_breaks_93 : decode cX10_breaks 93 = .ok (.ireturn, 1) := by decide +kernel
theorem dX10_breaks_94 : decode cX10_breaks 94 = .ok (.aload_n 0, 1) := by decide +kernel
theorem dX10_breaks_95 : decode cX10_breaks 95 = .ok (.getfield 12, 3) := by decide +kernel
theorem dX10_breaks_98 : decode cX10_breaks 98 = .ok (.iload 4, 2) := by decide +kernel
theorem dX10_breaks_100 : decode cX10_breaks 100 = .ok (.invokevirtual 195, 3) := by decide +kernel
theorem dX10_breaks_103 : decode cX10_breaks 103 = .ok (.invokestatic 156, 3) := by decide +kernel
theorem dX10_breaks_106 : decode cX10_breaks 106 = .ok (.ireturn, 1) := by decide +kernel
set_option maxRecDepth 20000 in
theorem ggX10_cracks_X10_isSquare : GoodIn wsX10_cracks wsX10_isSquare := goodIn_r _ [6, 7, 8, 5, 9] (by decide +kernel) (by decide +kernel)
set_option maxRecDepth 20000 in
theorem gX10_cracks_X10_isSquare : GoodIn wsX10_cracks (va_wsS RX10 58 yX10_isSquare wsX10_isSquare) := goodIn_app (goodIn_of _ (by decide +kernel)) ggX10_cracks_X10_isSquare
set_option maxRecDepth 20000 in
theorem ggX10_cracks_X4_crackedFrom : GoodIn wsX10_cracks wsX4_crackedFrom := goodIn_r _ [14, 15, 16, 17, 18, 19, 20, 21, 22, 23, 24, 25, 26, 27, 5, 28, 29, 30, 39, 40, 41, 42, 43, 44, 45] (by decide +kernel) (by decide +kernel)
set_option maxRecDepth 20000 in
theorem gX10_cracks_X4_crackedFrom : GoodIn wsX10_cracks (wsV RX10 195 RX4 yX4_crackedFrom wsX4_crackedFrom) := goodIn_app (goodIn_of _ (by decide +kernel)) ggX10_cracks_X4_crackedFrom
theorem dX10_cracks_0 : decode cX10_cracks 0 = .ok (.iload_n 1, 1) := by decide +kernel
theorem dX10_cracks_1 : decode cX10_cracks 1 = .ok (.i2l, 1) := by decide +kernel
theorem dX10_cracks_2 : decode cX10_cracks 2 = .ok (.invokestatic 58, 3) := by decide +kernel
theorem dX10_cracks_5 : decode cX10_cracks 5 = .ok (.ifCond .eq 14, 3) := by decide +kernel
theorem dX10_cracks_8 : decode cX10_cracks 8 = .ok (.aload_n 0, 1) := by decide +kernel
theorem dX10_cracks_9 : decode cX10_cracks 9 = .ok (.getfield 12, 3) := by decide +kernel
theorem dX10_cracks_12 : decode cX10_cracks 12 = .ok (.iload_n 1, 1) := by decide +kernel
theorem dX10_cracks_13 : decode cX10_cracks 13 = .ok (.invokevirtual 195, 3) := by decide +kernel
theorem dX10_cracks_16 : decode cX10_cracks 16 = .ok (.goto 6, 3) := by decide +kernel
theorem dX10_cracks_19 : decode cX10_cracks 19 = .ok (.ldc2_w 198, 3) := by decide +kernel
theorem dX10_cracks_22 : decode cX10_cracks 22 = .ok (.lreturn, 1) := by decide +kernel
set_option maxRecDepth 20000 in
theorem ggX10_crack_X10_isSquare : GoodIn wsX10_crack wsX10_isSquare := goodIn_r _ [6, 7, 8, 5, 9] (by decide +kernel) (by decide +kernel)
set_option maxRecDepth 20000 in
theorem gX10_crack_X10_isSquare : GoodIn wsX10_crack (va_wsS RX10 58 yX10_isSquare wsX10_isSquare) := goodIn_app (goodIn_of _ (by decide +kernel)) ggX10_crack_X10_isSquare
set_option maxRecDepth 20000 in
theorem ggX10_crack_X4_crackedFrom : GoodIn wsX10_crack wsX4_crackedFrom := goodIn_r _ [14, 15, 16, 17, 18, 19, 20, 21, 22, 23, 24, 25, 26, 27, 5, 28, 29, 30, 54, 55, 56, 57, 58, 59, 60] (by decide +kernel) (by decide +kernel)
set_option maxRecDepth 20000 in
theorem gX10_crack_X4_crackedFrom : GoodIn wsX10_crack (wsV RX10 195 RX4 yX4_crackedFrom wsX4_crackedFrom) := goodIn_app (goodIn_of _ (by decide +kernel)) ggX10_crack_X4_crackedFrom
set_option maxRecDepth 20000 in
theorem ggX10_crack_X2_melt : GoodIn wsX10_crack wsX2_melt := goodIn_r _ [34, 35, 36, 37, 20, 38, 26, 60] (by decide +kernel) (by decide +kernel)
set_option maxRecDepth 20000 in
theorem gX10_crack_X2_melt : GoodIn wsX10_crack (wsV RX10 200 RX2 yX2_melt wsX2_melt) := goodIn_app (goodIn_of _ (by decide +kernel)) ggX10_crack_X2_melt
set_option maxRecDepth 20000 in
theorem ggX10_crack_J13_bitCount_95d88 : GoodIn wsX10_crack wsJ13_bitCount_95d88 := goodIn_r _ [42, 43, 44, 45] (by decide +kernel) (by decide +kernel)
set_option maxRecDepth 20000 in
theorem gX10_crack_J13_bitCount_95d88 : GoodIn wsX10_crack (va_wsS RX10 156 yJ13_bitCount_95d88 wsJ13_bitCount_95d88) := goodIn_app (goodIn_of _ (by decide +kernel)) ggX10_crack_J13_bitCount_95d88
theorem dX10_crack_0 : decode cX10_crack 0 = .ok (.iload_n 1, 1) := by decide +kernel
theorem dX10_crack_1 : decode cX10_crack 1 = .ok (.i2l, 1) := by decide +kernel
theorem dX10_crack_2 : decode cX10_crack 2 = .ok (.invokestatic 58, 3) := by decide +kernel
theorem dX10_crack_5 : decode cX10_crack 5 = .ok (.ifCond .ne 5, 3) := by decide +kernel
theorem dX10_crack_8 : decode cX10_crack 8 = .ok (.iconst (-1), 1) := by decide +kernel
theorem dX10_crack_9 : decode cX10_crack 9 = .ok (.ireturn, 1) := by decide +kernel
theorem dX10_crack_10 : decode cX10_crack 10 = .ok (.aload_n 0, 1) := by decide +kernel
theorem dX10_crack_11 : decode cX10_crack 11 = .ok (.getfield 12, 3) := by decide +kernel
theorem dX10_crack_14 : decode cX10_crack 14 = .ok (.iload_n 1, 1) := by decide +kernel
theorem dX10_crack_15 : decode cX10_crack 15 = .ok (.invokevirtual 195, 3) := by decide +kernel
theorem dX10_crack_18 : decode cX10_crack 18 = .ok (.lstore_n 2, 1) := by decide +kernel
theorem dX10_crack_19 : decode cX10_crack 19 = .ok (.aload_n 0, 1) := by decide +kernel
theorem dX10_crack_20 : decode cX10_crack 20 = .ok (.getfield 12, 3) := by decide +kernel
theorem dX10_crack_23 : decode cX10_crack 23 = .ok (.getfield 70, 3) := by decide +kernel
theorem dX10_crack_26 : decode cX10_crack 26 = .ok (.lload_n 2, 1) := by decide +kernel
theorem dX10_crack_27 : decode cX10_crack 27 = .ok (.invokevirtual 200, 3) := by decide +kernel
theorem dX10_crack_30 : decode cX10_crack 30 = .ok (.lload_n 2, 1) := by decide +kernel
theorem dX10_crack_31 : decode cX10_crack 31 = .ok (.invokestatic 156, 3) := by decide +kernel
theorem dX10_crack_34 : decode cX10_crack 34 = .ok (.ireturn, 1) := by decide +kernel
set_option maxRecDepth 20000 in
theorem ggX10_road_X10_isRoadAsked : GoodIn wsX10_road wsX10_isRoadAsked := goodIn_r _ [7, 8, 9, 6, 10, 11, 12, 13, 14, 15, 16, 17, 18, 19] (by decide +kernel) (by decide +kernel)
set_option maxRecDepth 20000 in
theorem gX10_road_X10_isRoadAsked : GoodIn wsX10_road (va_wsS RX10 204 yX10_isRoadAsked wsX10_isRoadAsked) := goodIn_app (goodIn_of _ (by decide +kernel)) ggX10_road_X10_isRoadAsked
set_option maxRecDepth 20000 in
theorem ggX10_road_X10_isWithin : GoodIn wsX10_road wsX10_isWithin := goodIn_r _ [13] (by decide +kernel) (by decide +kernel)
set_option maxRecDepth 20000 in
theorem gX10_road_X10_isWithin : GoodIn wsX10_road (va_wsS RX10 62 yX10_isWithin wsX10_isWithin) := goodIn_app (goodIn_of _ (by decide +kernel)) ggX10_road_X10_isWithin
set_option maxRecDepth 20000 in
theorem ggX10_road_X3_weigh : GoodIn wsX10_road wsX3_weigh := goodIn_r _ [24, 25, 26, 27, 28, 29, 30, 31, 32, 33, 34, 35, 36, 37, 38, 39, 40, 41, 42, 43, 86, 87, 88, 89, 90] (by decide +kernel) (by decide +kernel)
set_option maxRecDepth 20000 in
theorem gX10_road_X3_weigh : GoodIn wsX10_road (wsV RX10 208 RX3 yX3_weigh wsX3_weigh) := goodIn_app (goodIn_of _ (by decide +kernel)) ggX10_road_X3_weigh
set_option maxRecDepth 20000 in
theorem ggX10_road_X10_weightAlone : GoodIn wsX10_road wsX10_weightAlone := goodIn_r _ [46] (by decide +kernel) (by decide +kernel)
set_option maxRecDepth 20000 in
theorem gX10_road_X10_weightAlone : GoodIn wsX10_road (va_wsS RX10 211 yX10_weightAlone wsX10_weightAlone) := goodIn_app (goodIn_of _ (by decide +kernel)) ggX10_road_X10_weightAlone
set_option maxRecDepth 20000 in
theorem ggX10_road_X3_length : GoodIn wsX10_road wsX3_length := goodIn_r _ [50, 51, 25, 52, 53, 54, 55, 23, 56, 57, 58, 59, 60, 61, 62, 6, 63, 86, 87, 88, 89] (by decide +kernel) (by decide +kernel)
set_option maxRecDepth 20000 in
theorem gX10_road_X3_length : GoodIn wsX10_road (wsV RX10 214 RX3 yX3_length wsX3_length) := goodIn_app (goodIn_of _ (by decide +kernel)) ggX10_road_X3_length
set_option maxRecDepth 20000 in
theorem ggX10_road_X3_walk : GoodIn wsX10_road wsX3_walk := goodIn_r _ [67, 68, 69, 70, 23, 71, 52, 62, 6, 63, 86, 87, 88, 89] (by decide +kernel) (by decide +kernel)
set_option maxRecDepth 20000 in
theorem gX10_road_X3_walk : GoodIn wsX10_road (wsV RX10 218 RX3 yX3_walk wsX3_walk) := goodIn_app (goodIn_of _ (by decide +kernel)) ggX10_road_X3_walk
theorem dX10_road_0 : decode cX10_road 0 = .ok (.iload_n 1, 1) := by decide +kernel
theorem dX10_road_1 : decode cX10_road 1 = .ok (.iload_n 2, 1) := by decide +kernel
theorem dX10_road_2 : decode cX10_road 2 = .ok (.iload_n 3, 1) := by decide +kernel
theorem dX10_road_3 : decode cX10_road 3 = .ok (.iload 4, 2) := by decide +kernel
theorem dX10_road_5 : decode cX10_road 5 = .ok (.invokestatic 204, 3) := by decide +kernel
theorem dX10_road_8 : decode cX10_road 8 = .ok (.ifCond .eq 15, 3) := by decide +kernel
theorem dX10_road_11 : decode cX10_road 11 = .ok (.iload 5, 2) := by decide +kernel
theorem dX10_road_13 : decode cX10_road 13 = .ok (.i2l, 1) := by decide +kernel
theorem dX10_road_14 : decode cX10_road 14 = .ok (.iconst (-1), 1) := by decide +kernel
theorem dX10_road_15 : decode cX10_road 15 = .ok (.bipush 63, 2) := by decide +kernel
theorem dX10_road_17 : decode cX10_road 17 = .ok (.invokestatic 62, 3) := by decide +kernel
theorem dX10_road_20 : decode cX10_road 20 = .ok (.ifCond .ne 5, 3) := by decide +kernel
theorem dX10_road_23 : decode cX10_road 23 = .ok (.iconst (-1), 1) := by decide +kernel
theorem dX10_road_24 : decode cX10_road 24 = .ok (.ireturn, 1) := by decide +kernel
theorem dX10_road_25 : decode cX10_road 25 = .ok (.aload_n 0, 1) := by decide +kernel
theorem dX10_road_26 : decode cX10_road 26 = .ok (.getfield 40, 3) := by decide +kernel
theorem dX10_road_29 : decode cX10_road 29 = .ok (.aload_n 0, 1) := by decide +kernel
theorem dX10_road_30 : decode cX10_road 30 = .ok (.getfield 12, 3) := by decide +kernel
theorem dX10_road_33 : decode cX10_road 33 = .ok (.getfield 70, 3) := by decide +kernel
theorem dX10_road_36 : decode cX10_road 36 = .ok (.invokevirtual 208, 3) := by decide +kernel
theorem dX10_road_39 : decode cX10_road 39 = .ok (.aload_n 0, 1) := by decide +kernel
theorem dX10_road_40 : decode cX10_road 40 = .ok (.getfield 40, 3) := by decide +kernel
theorem dX10_road_43 : decode cX10_road 43 = .ok (.iload_n 1, 1) := by decide +kernel
theorem dX10_road_44 : decode cX10_road 44 = .ok (.iload_n 2, 1) := by decide +kernel
theorem dX10_road_45 : decode cX10_road 45 = .ok (.iload_n 3, 1) := by decide +kernel
theorem dX10_road_46 : decode cX10_road 46 = .ok (.iload 4, 2) := by decide +kernel
theorem dX10_road_48 : decode cX10_road 48 = .ok (.invokestatic 211, 3) := by decide +kernel
theorem dX10_road_51 : decode cX10_road 51 = .ok (.invokevirtual 214, 3) := by decide +kernel
theorem dX10_road_54 : decode cX10_road 54 = .ok (.istore 6, 2) := by decide +kernel
theorem dX10_road_56 : decode cX10_road 56 = .ok (.iload 6, 2) := by decide +kernel
theorem dX10_road_58 : decode cX10_road 58 = .ok (.bipush (-4), 2) := by decide +kernel
theorem dX10_road_60 : decode cX10_road 60 = .ok (.if_icmp .eq 10, 3) := by decide +kernel
theorem dX10_road_63 : decode cX10_road 63 = .ok (.iload 5, 2) := by decide +kernel
theorem dX10_road_65 : decode cX10_road 65 = .ok (.iload 6, 2) := by decide +kernel
theorem dX10_road_67 : decode cX10_road 67 = .ok (.if_icmp .lt 6, 3) := by decide +kernel
theorem dX10_road_70 : decode cX10_road 70 = .ok (.bipush (-4), 2) := by decide +kernel
theorem dX10_road_72 : decode cX10_road 72 = .ok (.ireturn, 1) := by decide +kernel
theorem dX10_road_73 : decode cX10_road 73 = .ok (.iload 5, 2) := by decide +kernel
theorem dX10_road_75 : decode cX10_road 75 = .ok (.ifCond .ge 8, 3) := by decide +kernel
theorem dX10_road_78 : decode cX10_road 78 = .ok (.iload 6, 2) := by decide +kernel
theorem dX10_road_80 : decode cX10_road 80 = .ok (.goto 13, 3) := by decide +kernel
theorem dX10_road_83 : decode cX10_road 83 = .ok (.aload_n 0, 1) := by decide +kernel
theorem dX10_road_84 : decode cX10_road 84 = .ok (.getfield 40, 3) := by decide +kernel
theorem dX10_road_87 : decode cX10_road 87 = .ok (.iload_n 1, 1) := by decide +kernel
theorem dX10_road_88 : decode cX10_road 88 = .ok (.iload 5, 2) := by decide +kernel
theorem dX10_road_90 : decode cX10_road 90 = .ok (.invokevirtual 218, 3) := by decide +kernel
theorem dX10_road_93 : decode cX10_road 93 = .ok (.ireturn, 1) := by decide +kernel
set_option maxRecDepth 20000 in
theorem ggX10_most_X10_isSquare : GoodIn wsX10_most wsX10_isSquare := goodIn_r _ [7, 8, 9, 6, 10] (by decide +kernel) (by decide +kernel)
set_option maxRecDepth 20000 in
theorem gX10_most_X10_isSquare : GoodIn wsX10_most (va_wsS RX10 58 yX10_isSquare wsX10_isSquare) := goodIn_app (goodIn_of _ (by decide +kernel)) ggX10_most_X10_isSquare
set_option maxRecDepth 20000 in
theorem ggX10_most_X10_isPace : GoodIn wsX10_most wsX10_isPace := goodIn_r _ [13, 8, 9, 6, 10] (by decide +kernel) (by decide +kernel)
set_option maxRecDepth 20000 in
theorem gX10_most_X10_isPace : GoodIn wsX10_most (va_wsS RX10 166 yX10_isPace wsX10_isPace) := goodIn_app (goodIn_of _ (by decide +kernel)) ggX10_most_X10_isPace
set_option maxRecDepth 20000 in
theorem ggX10_most_X3_weigh : GoodIn wsX10_most wsX3_weigh := goodIn_r _ [18, 19, 20, 21, 22, 23, 24, 25, 26, 27, 28, 29, 30, 31, 32, 33, 34, 35, 36, 37, 72, 73, 74, 75, 76] (by decide +kernel) (by decide +kernel)
set_option maxRecDepth 20000 in
theorem gX10_most_X3_weigh : GoodIn wsX10_most (wsV RX10 208 RX3 yX3_weigh wsX3_weigh) := goodIn_app (goodIn_of _ (by decide +kernel)) ggX10_most_X3_weigh
set_option maxRecDepth 20000 in
theorem ggX10_most_X10_weightAlone : GoodIn wsX10_most wsX10_weightAlone := goodIn_r _ [40] (by decide +kernel) (by decide +kernel)
set_option maxRecDepth 20000 in
theorem gX10_most_X10_weightAlone : GoodIn wsX10_most (va_wsS RX10 211 yX10_weightAlone wsX10_weightAlone) := goodIn_app (goodIn_of _ (by decide +kernel)) ggX10_most_X10_weightAlone
set_option maxRecDepth 20000 in
theorem ggX10_most_X3_length : GoodIn wsX10_most wsX3_length := goodIn_r _ [44, 45, 19, 46, 47, 48, 49, 17, 50, 51, 52, 53, 54, 55, 56, 6, 57, 72, 73, 74, 75] (by decide +kernel) (by decide +kernel)
set_option maxRecDepth 20000 in
theorem gX10_most_X3_length : GoodIn wsX10_most (wsV RX10 214 RX3 yX3_length wsX3_length) := goodIn_app (goodIn_of _ (by decide +kernel)) ggX10_most_X3_length
theorem dX10_most_0 : decode cX10_most 0 = .ok (.iload_n 1, 1) := by decide +kernel
theorem dX10_most_1 : decode cX10_most 1 = .ok (.i2l, 1) := by decide +kernel
theorem dX10_most_2 : decode cX10_most 2 = .ok (.invokestatic 58, 3) := by decide +kernel
theorem dX10_most_5 : decode cX10_most 5 = .ok (.ifCond .eq 18, 3) := by decide +kernel
theorem dX10_most_8 : decode cX10_most 8 = .ok (.iload_n 2, 1) := by decide +kernel
theorem dX10_most_9 : decode cX10_most 9 = .ok (.i2l, 1) := by decide +kernel
theorem dX10_most_10 : decode cX10_most 10 = .ok (.invokestatic 58, 3) := by decide +kernel
theorem dX10_most_13 : decode cX10_most 13 = .ok (.ifCond .eq 10, 3) := by decide +kernel
theorem dX10_most_16 : decode cX10_most 16 = .ok (.iload_n 3, 1) := by decide +kernel
theorem dX10_most_17 : decode cX10_most 17 = .ok (.invokestatic 166, 3) := by decide +kernel
theorem dX10_most_20 : decode cX10_most 20 = .ok (.ifCond .ne 5, 3) := by decide +kernel
theorem dX10_most_23 : decode cX10_most 23 = .ok (.iconst (-1), 1) := by decide +kernel
theorem dX10_most_24 : decode cX10_most 24 = .ok (.ireturn, 1) := by decide +kernel
theorem dX10_most_25 : decode cX10_most 25 = .ok (.aload_n 0, 1) := by decide +kernel
theorem dX10_most_26 : decode cX10_most 26 = .ok (.getfield 40, 3) := by decide +kernel
theorem dX10_most_29 : decode cX10_most 29 = .ok (.aload_n 0, 1) := by decide +kernel
theorem dX10_most_30 : decode cX10_most 30 = .ok (.getfield 12, 3) := by decide +kernel
theorem dX10_most_33 : decode cX10_most 33 = .ok (.getfield 70, 3) := by decide +kernel
theorem dX10_most_36 : decode cX10_most 36 = .ok (.invokevirtual 208, 3) := by decide +kernel
theorem dX10_most_39 : decode cX10_most 39 = .ok (.iconst 0, 1) := by decide +kernel
theorem dX10_most_40 : decode cX10_most 40 = .ok (.istore 4, 2) := by decide +kernel
theorem dX10_most_42 : decode cX10_most 42 = .ok (.bipush 100, 2) := by decide +kernel
theorem dX10_most_44 : decode cX10_most 44 = .ok (.istore 5, 2) := by decide +kernel
theorem dX10_most_46 : decode cX10_most 46 = .ok (.iconst 0, 1) := by decide +kernel
theorem dX10_most_47 : decode cX10_most 47 = .ok (.istore 6, 2) := by decide +kernel
theorem dX10_most_49 : decode cX10_most 49 = .ok (.iload 6, 2) := by decide +kernel
theorem dX10_most_51 : decode cX10_most 51 = .ok (.bipush 7, 2) := by decide +kernel
theorem dX10_most_53 : decode cX10_most 53 = .ok (.if_icmp .ge 58, 3) := by decide +kernel
theorem dX10_most_56 : decode cX10_most 56 = .ok (.iload 5, 2) := by decide +kernel
theorem dX10_most_58 : decode cX10_most 58 = .ok (.iload 4, 2) := by decide +kernel
theorem dX10_most_60 : decode cX10_most 60 = .ok (.isub, 1) := by decide +kernel
theorem dX10_most_61 : decode cX10_most 61 = .ok (.iconst 1, 1) := by decide +kernel
theorem dX10_most_62 : decode cX10_most 62 = .ok (.if_icmp .le 49, 3) := by decide +kernel
theorem dX10_most_65 : decode cX10_most 65 = .ok (.iload 4, 2) := by decide +kernel
theorem dX10_most_67 : decode cX10_most 67 = .ok (.iload 5, 2) := by decide +kernel
theorem dX10_most_69 : decode cX10_most 69 = .ok (.iadd, 1) := by decide +kernel
theorem dX10_most_70 : decode cX10_most 70 = .ok (.iconst 2, 1) := by decide +kernel
theorem dX10_most_71 : decode cX10_most 71 = .ok (.idiv, 1) := by decide +kernel
theorem dX10_most_72 : decode cX10_most 72 = .ok (.istore 7, 2) := by decide +kernel
theorem dX10_most_74 : decode cX10_most 74 = .ok (.aload_n 0, 1) := by decide +kernel
theorem dX10_most_75 : decode cX10_most 75 = .ok (.getfield 40, 3) := by decide +kernel
theorem dX10_most_78 : decode cX10_most 78 = .ok (.iload_n 1, 1) := by decide +kernel
theorem dX10_most_79 : decode cX10_most 79 = .ok (.iload_n 2, 1) := by decide +kernel
theorem dX10_most_80 : decode cX10_most 80 = .ok (.iload 7, 2) := by decide +kernel
theorem dX10_most_82 : decode cX10_most 82 = .ok (.iload_n 3, 1) := by decide +kernel
theorem dX10_most_83 : decode cX10_most 83 = .ok (.invokestatic 211, 3) := by decide +kernel
theorem dX10_most_86 : decode cX10_most 86 = .ok (.invokevirtual 214, 3) := by decide +kernel
theorem dX10_most_89 : decode cX10_most 89 = .ok (.bipush (-4), 2) := by decide +kernel
theorem dX10_most_91 : decode cX10_most 91 = .ok (.if_icmp .ne 10, 3) := by decide +kernel
theorem dX10_most_94 : decode cX10_most 94 = .ok (.iload 7, 2) := by decide +kernel
theorem dX10_most_96 : decode cX10_most 96 = .ok (.istore 5, 2) := by decide +kernel
theorem dX10_most_98 : decode cX10_most 98 = .ok (.goto 7, 3) := by decide +kernel
theorem dX10_most_101 : decode cX10_most 101 = .ok (.iload 7, 2) := by decide +kernel
theorem dX10_most_103 : decode cX10_most 103 = .ok (.istore 4, 2) := by decide +kernel
theorem dX10_most_105 : decode cX10_most 105 = .ok (.iinc 6 1, 3) := by decide +kernel
theorem dX10_most_108 : decode cX10_most 108 = .ok (.goto (-59), 3) := by decide +kernel
theorem dX10_most_111 : decode cX10_most 111 = .ok (.iload 4, 2) := by decide +kernel
theorem dX10_most_113 : decode cX10_most 113 = .ok (.ifCond .le 8, 3) := by decide +kernel
theorem dX10_most_116 : decode cX10_most 116 = .ok (.iload 4, 2) := by decide +kernel
theorem dX10_most_118 : decode cX10_most 118 = .ok (.goto 5, 3) := by decide +kernel
theorem dX10_most_121 : decode cX10_most 121 = .ok (.bipush (-4), 2) := by decide +kernel
theorem dX10_most_123 : decode cX10_most 123 = .ok (.ireturn, 1) := by decide +kernel
set_option maxRecDepth 20000 in
theorem ggX10_planks_X10_isRoadAsked : GoodIn wsX10_planks wsX10_isRoadAsked := goodIn_r _ [7, 8, 9, 6, 10, 11, 12, 13, 14, 15, 16, 17, 18, 19] (by decide +kernel) (by decide +kernel)
set_option maxRecDepth 20000 in
theorem gX10_planks_X10_isRoadAsked : GoodIn wsX10_planks (va_wsS RX10 204 yX10_isRoadAsked wsX10_isRoadAsked) := goodIn_app (goodIn_of _ (by decide +kernel)) ggX10_planks_X10_isRoadAsked
set_option maxRecDepth 20000 in
theorem ggX10_planks_X10_weightAlone : GoodIn wsX10_planks wsX10_weightAlone := goodIn_r _ [22] (by decide +kernel) (by decide +kernel)
set_option maxRecDepth 20000 in
theorem gX10_planks_X10_weightAlone : GoodIn wsX10_planks (va_wsS RX10 211 yX10_weightAlone wsX10_weightAlone) := goodIn_app (goodIn_of _ (by decide +kernel)) ggX10_planks_X10_weightAlone
set_option maxRecDepth 20000 in
theorem ggX10_planks_X3_fewestLaid : GoodIn wsX10_planks wsX3_fewestLaid := goodIn_r _ [27, 28, 29, 30, 31, 32, 33, 34, 35, 36, 37, 38, 39, 40, 41, 42, 43, 26, 44, 45, 46, 47, 48, 49, 50, 6, 51, 66, 67, 68, 69, 70] (by decide +kernel) (by decide +kernel)
set_option maxRecDepth 20000 in
theorem gX10_planks_X3_fewestLaid : GoodIn wsX10_planks (wsV RX10 221 RX3 yX3_fewestLaid wsX3_fewestLaid) := goodIn_app (goodIn_of _ (by decide +kernel)) ggX10_planks_X3_fewestLaid
theorem dX10_planks_0 : decode cX10_planks 0 = .ok (.iload_n 1, 1) := by decide +kernel
theorem dX10_planks_1 : decode cX10_planks 1 = .ok (.iload_n 2, 1) := by decide +kernel
theorem dX10_planks_2 : decode cX10_planks 2 = .ok (.iload_n 3, 1) := by decide +kernel
theorem dX10_planks_3 : decode cX10_planks 3 = .ok (.iload 4, 2) := by decide +kernel
theorem dX10_planks_5 : decode cX10_planks 5 = .ok (.invokestatic 204, 3) := by decide +kernel
theorem dX10_planks_8 : decode cX10_planks 8 = .ok (.ifCond .ne 5, 3) := by decide +kernel
theorem dX10_planks_11 : decode cX10_planks 11 = .ok (.iconst (-1), 1) := by decide +kernel
theorem dX10_planks_12 : decode cX10_planks 12 = .ok (.ireturn, 1) := by decide +kernel
theorem dX10_planks_13 : decode cX10_planks 13 = .ok (.aload_n 0, 1) := by decide +kernel
theorem dX10_planks_14 : decode cX10_planks 14 = .ok (.getfield 40, 3) := by decide +kernel
theorem dX10_planks_17 : decode cX10_planks 17 = .ok (.aload_n 0, 1) := by decide +kernel
theorem dX10_planks_18 : decode cX10_planks 18 = .ok (.getfield 12, 3) := by decide +kernel
theorem dX10_planks_21 : decode cX10_planks 21 = .ok (.getfield 70, 3) := by decide +kernel
theorem dX10_planks_24 : decode cX10_planks 24 = .ok (.iload_n 1, 1) := by decide +kernel
theorem dX10_planks_25 : decode cX10_planks 25 = .ok (.iload_n 2, 1) := by decide +kernel
theorem dX10_planks_26 : decode cX10_planks 26 = .ok (.iload_n 3, 1) := by decide +kernel
theorem dX10_planks_27 : decode cX10_planks 27 = .ok (.iload 4, 2) := by decide +kernel
theorem dX10_planks_29 : decode cX10_planks 29 = .ok (.invokestatic 211, 3) := by decide +kernel
theorem dX10_planks_32 : decode cX10_planks 32 = .ok (.invokevirtual 221, 3) := by decide +kernel
theorem dX10_planks_35 : decode cX10_planks 35 = .ok (.ireturn, 1) := by decide +kernel
set_option maxRecDepth 20000 in
theorem ggX10_slip_X10_isWithin : GoodIn wsX10_slip wsX10_isWithin := goodIn_r _ [7] (by decide +kernel) (by decide +kernel)
set_option maxRecDepth 20000 in
theorem gX10_slip_X10_isWithin : GoodIn wsX10_slip (va_wsS RX10 62 yX10_isWithin wsX10_isWithin) := goodIn_app (goodIn_of _ (by decide +kernel)) ggX10_slip_X10_isWithin
theorem dX10_slip_0 : decode cX10_slip 0 = .ok (.iload_n 1, 1) := by decide +kernel
theorem dX10_slip_1 : decode cX10_slip 1 = .ok (.i2l, 1) := by decide +kernel
theorem dX10_slip_2 : decode cX10_slip 2 = .ok (.iconst 0, 1) := by decide +kernel
theorem dX10_slip_3 : decode cX10_slip 3 = .ok (.iconst 3, 1) := by decide +kernel
theorem dX10_slip_4 : decode cX10_slip 4 = .ok (.invokestatic 62, 3) := by decide +kernel
theorem dX10_slip_7 : decode cX10_slip 7 = .ok (.ifCond .eq 14, 3) := by decide +kernel
theorem dX10_slip_10 : decode cX10_slip 10 = .ok (.iload_n 2, 1) := by decide +kernel
theorem dX10_slip_11 : decode cX10_slip 11 = .ok (.i2l, 1) := by decide +kernel
theorem dX10_slip_12 : decode cX10_slip 12 = .ok (.iconst 0, 1) := by decide +kernel
theorem dX10_slip_13 : decode cX10_slip 13 = .ok (.bipush 99, 2) := by decide +kernel
theorem dX10_slip_15 : decode cX10_slip 15 = .ok (.invokestatic 62, 3) := by decide +kernel
theorem dX10_slip_18 : decode cX10_slip 18 = .ok (.ifCond .ne 5, 3) := by decide +kernel
theorem dX10_slip_21 : decode cX10_slip 21 = .ok (.iconst (-1), 1) := by decide +kernel
theorem dX10_slip_22 : decode cX10_slip 22 = .ok (.ireturn, 1) := by decide +kernel
theorem dX10_slip_23 : decode cX10_slip 23 = .ok (.aload_n 0, 1) := by decide +kernel
theorem dX10_slip_24 : decode cX10_slip 24 = .ok (.getfield 12, 3) := by decide +kernel
theorem dX10_slip_27 : decode cX10_slip 27 = .ok (.getfield 145, 3) := by decide +kernel
theorem dX10_slip_30 : decode cX10_slip 30 = .ok (.getfield 225, 3) := by decide +kernel
theorem dX10_slip_33 : decode cX10_slip 33 = .ok (.iload_n 1, 1) := by decide +kernel
theorem dX10_slip_34 : decode cX10_slip 34 = .ok (.iaload, 1) := by decide +kernel
theorem dX10_slip_35 : decode cX10_slip 35 = .ok (.istore_n 3, 1) := by decide +kernel
theorem dX10_slip_36 : decode cX10_slip 36 = .ok (.aload_n 0, 1) := by decide +kernel
theorem dX10_slip_37 : decode cX10_slip 37 = .ok (.getfield 12, 3) := by decide +kernel
theorem dX10_slip_40 : decode cX10_slip 40 = .ok (.getfield 145, 3) := by decide +kernel
theorem dX10_slip_43 : decode cX10_slip 43 = .ok (.getfield 225, 3) := by decide +kernel
theorem dX10_slip_46 : decode cX10_slip 46 = .ok (.iload_n 1, 1) := by decide +kernel
theorem dX10_slip_47 : decode cX10_slip 47 = .ok (.iload_n 2, 1) := by decide +kernel
theorem dX10_slip_48 : decode cX10_slip 48 = .ok (.iastore, 1) := by decide +kernel
theorem dX10_slip_49 : decode cX10_slip 49 = .ok (.iload_n 3, 1) := by decide +kernel
theorem dX10_slip_50 : decode cX10_slip 50 = .ok (.ireturn, 1) := by decide +kernel
set_option maxRecDepth 20000 in
theorem ggX10_hear_X10_isWithin : GoodIn wsX10_hear wsX10_isWithin := goodIn_r _ [7] (by decide +kernel) (by decide +kernel)
set_option maxRecDepth 20000 in
theorem gX10_hear_X10_isWithin : GoodIn wsX10_hear (va_wsS RX10 62 yX10_isWithin wsX10_isWithin) := goodIn_app (goodIn_of _ (by decide +kernel)) ggX10_hear_X10_isWithin
set_option maxRecDepth 20000 in
theorem ggX10_hear_X10_isSquare : GoodIn wsX10_hear wsX10_isSquare := goodIn_r _ [10, 4, 5, 6, 7] (by decide +kernel) (by decide +kernel)
set_option maxRecDepth 20000 in
theorem gX10_hear_X10_isSquare : GoodIn wsX10_hear (va_wsS RX10 58 yX10_isSquare wsX10_isSquare) := goodIn_app (goodIn_of _ (by decide +kernel)) ggX10_hear_X10_isSquare
set_option maxRecDepth 20000 in
theorem ggX10_hear_X1_add : GoodIn wsX10_hear wsX1_add := goodIn_r _ [15, 16, 17, 18, 19, 34, 35, 36, 37, 38] (by decide +kernel) (by decide +kernel)
set_option maxRecDepth 20000 in
theorem gX10_hear_X1_add : GoodIn wsX10_hear (wsV RX10 228 RX1 yX1_add wsX1_add) := goodIn_app (goodIn_of _ (by decide +kernel)) ggX10_hear_X1_add
theorem dX10_hear_0 : decode cX10_hear 0 = .ok (.iload_n 1, 1) := by decide +kernel
theorem dX10_hear_1 : decode cX10_hear 1 = .ok (.i2l, 1) := by decide +kernel
theorem dX10_hear_2 : decode cX10_hear 2 = .ok (.iconst 0, 1) := by decide +kernel
theorem dX10_hear_3 : decode cX10_hear 3 = .ok (.iconst 3, 1) := by decide +kernel
theorem dX10_hear_4 : decode cX10_hear 4 = .ok (.invokestatic 62, 3) := by decide +kernel
theorem dX10_hear_7 : decode cX10_hear 7 = .ok (.ifCond .eq 24, 3) := by decide +kernel
theorem dX10_hear_10 : decode cX10_hear 10 = .ok (.iload_n 2, 1) := by decide +kernel
theorem dX10_hear_11 : decode cX10_hear 11 = .ok (.i2l, 1) := by decide +kernel
theorem dX10_hear_12 : decode cX10_hear 12 = .ok (.invokestatic 58, 3) := by decide +kernel
theorem dX10_hear_15 : decode cX10_hear 15 = .ok (.ifCond .eq 16, 3) := by decide +kernel
theorem dX10_hear_18 : decode cX10_hear 18 = .ok (.iload_n 3, 1) := by decide +kernel
theorem dX10_hear_19 : decode cX10_hear 19 = .ok (.i2l, 1) := by decide +kernel
theorem dX10_hear_20 : decode cX10_hear 20 = .ok (.bipush 90, 2) := by decide +kernel
theorem dX10_hear_22 : decode cX10_hear 22 = .ok (.sipush 9999, 3) := by decide +kernel
theorem dX10_hear_25 : decode cX10_hear 25 = .ok (.invokestatic 62, 3) := by decide +kernel
theorem dX10_hear_28 : decode cX10_hear 28 = .ok (.ifCond .ne 5, 3) := by decide +kernel
theorem dX10_hear_31 : decode cX10_hear 31 = .ok (.iconst (-1), 1) := by decide +kernel
theorem dX10_hear_32 : decode cX10_hear 32 = .ok (.ireturn, 1) := by decide +kernel
theorem dX10_hear_33 : decode cX10_hear 33 = .ok (.aload_n 0, 1) := by decide +kernel
theorem dX10_hear_34 : decode cX10_hear 34 = .ok (.getfield 12, 3) := by decide +kernel
theorem dX10_hear_37 : decode cX10_hear 37 = .ok (.getfield 145, 3) := by decide +kernel
theorem dX10_hear_40 : decode cX10_hear 40 = .ok (.getfield 149, 3) := by decide +kernel
theorem dX10_hear_43 : decode cX10_hear 43 = .ok (.bipush 16, 2) := by decide +kernel
theorem dX10_hear_45 : decode cX10_hear 45 = .ok (.if_icmp .lt 6, 3) := by decide +kernel
theorem dX10_hear_48 : decode cX10_hear 48 = .ok (.bipush (-3), 2) := by decide +kernel
theorem dX10_hear_50 : decode cX10_hear 50 = .ok (.ireturn, 1) := by decide +kernel
theorem dX10_hear_51 : decode cX10_hear 51 = .ok (.aload_n 0, 1) := by decide +kernel
theorem dX10_hear_52 : decode cX10_hear 52 = .ok (.getfield 12, 3) := by decide +kernel
theorem dX10_hear_55 : decode cX10_hear 55 = .ok (.getfield 145, 3) := by decide +kernel
theorem dX10_hear_58 : decode cX10_hear 58 = .ok (.iload_n 1, 1) := by decide +kernel
theorem dX10_hear_59 : decode cX10_hear 59 = .ok (.iload_n 2, 1) := by decide +kernel
theorem dX10_hear_60 : decode cX10_hear 60 = .ok (.iload_n 3, 1) := by decide +kernel
theorem dX10_hear_61 : decode cX10_hear 61 = .ok (.invokevirtual 228, 3) := by decide +kernel
theorem dX10_hear_64 : decode cX10_hear 64 = .ok (.aload_n 0, 1) := by decide +kernel
theorem dX10_hear_65 : decode cX10_hear 65 = .ok (.getfield 12, 3) := by decide +kernel
theorem dX10_hear_68 : decode cX10_hear 68 = .ok (.getfield 145, 3) := by decide +kernel
theorem dX10_hear_71 : decode cX10_hear 71 = .ok (.getfield 149, 3) := by decide +kernel
theorem dX10_hear_74 : decode cX10_hear 74 = .ok (.ireturn, 1) := by decide +kernel
theorem dX10_deaf_0 : decode cX10_deaf 0 = .ok (.aload_n 0, 1) := by decide +kernel
theorem dX10_deaf_1 : decode cX10_deaf 1 = .ok (.getfield 12, 3) := by decide +kernel
theorem dX10_deaf_4 : decode cX10_deaf 4 = .ok (.getfield 145, 3) := by decide +kernel
theorem dX10_deaf_7 : decode cX10_deaf 7 = .ok (.getfield 149, 3) := by decide +kernel
theorem dX10_deaf_10 : decode cX10_deaf 10 = .ok (.istore_n 1, 1) := by decide +kernel
theorem dX10_deaf_11 : decode cX10_deaf 11 = .ok (.aload_n 0, 1) := by decide +kernel
theorem dX10_deaf_12 : decode cX10_deaf 12 = .ok (.getfield 12, 3) := by decide +kernel
theorem dX10_deaf_15 : decode cX10_deaf 15 = .ok (.getfield 145, 3) := by decide +kernel
theorem dX10_deaf_18 : decode cX10_deaf 18 = .ok (.iconst 0, 1) := by decide +kernel
theorem dX10_deaf_19 : decode cX10_deaf 19 = .ok (.putfield 149, 3) := by decide +kernel
theorem dX10_deaf_22 : decode cX10_deaf 22 = .ok (.iload_n 1, 1) := by decide +kernel
theorem dX10_deaf_23 : decode cX10_deaf 23 = .ok (.ireturn, 1) := by decide +kernel
set_option maxRecDepth 20000 in
theorem ggX10_span_X10_isWithin : GoodIn wsX10_span wsX10_isWithin := goodIn_r _ [8] (by decide +kernel) (by decide +kernel)
set_option maxRecDepth 20000 in
theorem gX10_span_X10_isWithin : GoodIn wsX10_span (va_wsS RX10 62 yX10_isWithin wsX10_isWithin) := goodIn_app (goodIn_of _ (by decide +kernel)) ggX10_span_X10_isWithin
set_option maxRecDepth 20000 in
theorem ggX10_span_X10_isSquare : GoodIn wsX10_span wsX10_isSquare := goodIn_r _ [11, 5, 6, 7, 8] (by decide +kernel) (by decide +kernel)
set_option maxRecDepth 20000 in
theorem gX10_span_X10_isSquare : GoodIn wsX10_span (va_wsS RX10 58 yX10_isSquare wsX10_isSquare) := goodIn_app (goodIn_of _ (by decide +kernel)) ggX10_span_X10_isSquare
set_option maxRecDepth 20000 in
theorem ggX10_span_X6_find : GoodIn wsX10_span wsX6_find := goodIn_r _ [16, 17, 18, 19, 20, 21, 22, 23, 24, 25, 26, 27, 28, 29, 15, 30, 31, 32, 33, 34, 35, 36, 37, 38, 39, 40, 41, 42, 43, 44, 45, 46, 47, 48, 49, 50, 51, 52, 7, 53, 54, 55, 56, 57, 58, 59, 60, 61, 70, 71, 72, 73, 74, 75, 76, 77, 78, 79, 80, 81, 82, 83] (by decide +kernel) (by decide +kernel)
set_option maxRecDepth 20000 in
theorem gX10_span_X6_find : GoodIn wsX10_span (wsV RX10 229 RX6 yX6_find wsX6_find) := goodIn_app (goodIn_of _ (by decide +kernel)) ggX10_span_X6_find
theorem dX10_span_0 : decode cX10_span 0 = .ok (.iload_n 1, 1) := by decide +kernel
theorem dX10_span_1 : decode cX10_span 1 = .ok (.i2l, 1) := by decide +kernel
theorem dX10_span_2 : decode cX10_span 2 = .ok (.iconst 0, 1) := by decide +kernel
theorem dX10_span_3 : decode cX10_span 3 = .ok (.bipush 15, 2) := by decide +kernel
theorem dX10_span_5 : decode cX10_span 5 = .ok (.invokestatic 62, 3) := by decide +kernel
theorem dX10_span_8 : decode cX10_span 8 = .ok (.ifCond .eq 21, 3) := by decide +kernel
theorem dX10_span_11 : decode cX10_span 11 = .ok (.iload_n 2, 1) := by decide +kernel
theorem dX10_span_12 : decode cX10_span 12 = .ok (.i2l, 1) := by decide +kernel
theorem dX10_span_13 : decode cX10_span 13 = .ok (.invokestatic 58, 3) := by decide +kernel
theorem dX10_span_16 : decode cX10_span 16 = .ok (.ifCond .eq 13, 3) := by decide +kernel
theorem dX10_span_19 : decode cX10_span 19 = .ok (.iload_n 3, 1) := by decide +kernel
theorem dX10_span_20 : decode cX10_span 20 = .ok (.i2l, 1) := by decide +kernel
theorem dX10_span_21 : decode cX10_span 21 = .ok (.iconst 0, 1) := by decide +kernel
theorem dX10_span_22 : decode cX10_span 22 = .ok (.iconst 1, 1) := by decide +kernel
theorem dX10_span_23 : decode cX10_span 23 = .ok (.invokestatic 62, 3) := by decide +kernel
theorem dX10_span_26 : decode cX10_span 26 = .ok (.ifCond .ne 5, 3) := by decide +kernel
theorem dX10_span_29 : decode cX10_span 29 = .ok (.iconst (-1), 1) := by decide +kernel
theorem dX10_span_30 : decode cX10_span 30 = .ok (.ireturn, 1) := by decide +kernel
theorem dX10_span_31 : decode cX10_span 31 = .ok (.aload_n 0, 1) := by decide +kernel
theorem dX10_span_32 : decode cX10_span 32 = .ok (.getfield 47, 3) := by decide +kernel
theorem dX10_span_35 : decode cX10_span 35 = .ok (.aload_n 0, 1) := by decide +kernel
theorem dX10_span_36 : decode cX10_span 36 = .ok (.getfield 12, 3) := by decide +kernel
theorem dX10_span_39 : decode cX10_span 39 = .ok (.iload_n 1, 1) := by decide +kernel
theorem dX10_span_40 : decode cX10_span 40 = .ok (.invokevirtual 229, 3) := by decide +kernel
theorem dX10_span_43 : decode cX10_span 43 = .ok (.ifCond .ne 6, 3) := by decide +kernel
theorem dX10_span_46 : decode cX10_span 46 = .ok (.bipush (-4), 2) := by decide +kernel
theorem dX10_span_48 : decode cX10_span 48 = .ok (.ireturn, 1) := by decide +kernel
theorem dX10_span_49 : decode cX10_span 49 = .ok (.iload_n 3, 1) := by decide +kernel
theorem dX10_span_50 : decode cX10_span 50 = .ok (.ifCond .ne 15, 3) := by decide +kernel
theorem dX10_span_53 : decode cX10_span 53 = .ok (.aload_n 0, 1) := by decide +kernel
theorem dX10_span_54 : decode cX10_span 54 = .ok (.getfield 47, 3) := by decide +kernel
theorem dX10_span_57 : decode cX10_span 57 = .ok (.getfield 233, 3) := by decide +kernel
theorem dX10_span_60 : decode cX10_span 60 = .ok (.iload_n 2, 1) := by decide +kernel
theorem dX10_span_61 : decode cX10_span 61 = .ok (.iaload, 1) := by decide +kernel
theorem dX10_span_62 : decode cX10_span 62 = .ok (.goto 12, 3) := by decide +kernel
theorem dX10_span_65 : decode cX10_span 65 = .ok (.aload_n 0, 1) := by decide +kernel
theorem dX10_span_66 : decode cX10_span 66 = .ok (.getfield 47, 3) := by decide +kernel
theorem dX10_span_69 : decode cX10_span 69 = .ok (.getfield 236, 3) := by decide +kernel
theorem dX10_span_72 : decode cX10_span 72 = .ok (.iload_n 2, 1) := by decide +kernel
theorem dX10_span_73 : decode cX10_span 73 = .ok (.iaload, 1) := by decide +kernel
theorem dX10_span_74 : decode cX10_span 74 = .ok (.ireturn, 1) := by decide +kernel
set_option maxRecDepth 20000 in
theorem ggX10_safe_X10_isRoadAsked : GoodIn wsX10_safe wsX10_isRoadAsked := goodIn_r _ [9, 10, 11, 8, 12, 13, 14, 15, 16, 17, 18, 19, 20, 21] (by decide +kernel) (by decide +kernel)
set_option maxRecDepth 20000 in
theorem gX10_safe_X10_isRoadAsked : GoodIn wsX10_safe (va_wsS RX10 204 yX10_isRoadAsked wsX10_isRoadAsked) := goodIn_app (goodIn_of _ (by decide +kernel)) ggX10_safe_X10_isRoadAsked
set_option maxRecDepth 20000 in
theorem ggX10_safe_X6_find : GoodIn wsX10_safe wsX6_find := goodIn_r _ [26, 27, 28, 29, 30, 31, 32, 33, 34, 35, 36, 37, 38, 39, 25, 40, 41, 42, 43, 44, 45, 46, 47, 48, 49, 50, 51, 52, 53, 54, 55, 56, 57, 58, 59, 60, 61, 62, 8, 63, 64, 65, 66, 67, 68, 69, 70, 71, 116, 117, 110, 111, 112, 113, 114, 115, 118, 119, 120, 121, 122, 123] (by decide +kernel) (by decide +kernel)
set_option maxRecDepth 20000 in
theorem gX10_safe_X6_find : GoodIn wsX10_safe (wsV RX10 229 RX6 yX6_find wsX6_find) := goodIn_app (goodIn_of _ (by decide +kernel)) ggX10_safe_X6_find
set_option maxRecDepth 20000 in
theorem ggX10_safe_X3_weighAt : GoodIn wsX10_safe wsX3_weighAt := goodIn_r _ [76, 77, 78, 79, 80, 55, 81, 82, 83, 84, 85, 86, 53, 54, 56, 57, 124, 125, 126, 127, 123] (by decide +kernel) (by decide +kernel)
set_option maxRecDepth 20000 in
theorem gX10_safe_X3_weighAt : GoodIn wsX10_safe (wsV RX10 239 RX3 yX3_weighAt wsX3_weighAt) := goodIn_app (goodIn_of _ (by decide +kernel)) ggX10_safe_X3_weighAt
set_option maxRecDepth 20000 in
theorem ggX10_safe_X10_weightAlone : GoodIn wsX10_safe wsX10_weightAlone := goodIn_r _ [89] (by decide +kernel) (by decide +kernel)
set_option maxRecDepth 20000 in
theorem gX10_safe_X10_weightAlone : GoodIn wsX10_safe (va_wsS RX10 211 yX10_weightAlone wsX10_weightAlone) := goodIn_app (goodIn_of _ (by decide +kernel)) ggX10_safe_X10_weightAlone
set_option maxRecDepth 20000 in
theorem ggX10_safe_X3_length : GoodIn wsX10_safe wsX3_length := goodIn_r _ [93, 94, 77, 95, 96, 97, 98, 75, 99, 100, 101, 34, 35, 36, 62, 8, 63, 124, 125, 126, 127] (by decide +kernel) (by decide +kernel)
set_option maxRecDepth 20000 in
theorem gX10_safe_X3_length : GoodIn wsX10_safe (wsV RX10 214 RX3 yX3_length wsX3_length) := goodIn_app (goodIn_of _ (by decide +kernel)) ggX10_safe_X3_length
theorem dX10_safe_0 : decode cX10_safe 0 = .ok (.iload_n 1, 1) := by decide +kernel
theorem dX10_safe_1 : decode cX10_safe 1 = .ok (.iload_n 2, 1) := by decide +kernel
theorem dX10_safe_2 : decode cX10_safe 2 = .ok (.iload_n 3, 1) := by decide +kernel
theorem dX10_safe_3 : decode cX10_safe 3 = .ok (.iload 4, 2) := by decide +kernel
theorem dX10_safe_5 : decode cX10_safe 5 = .ok (.invokestatic 204, 3) := by decide +kernel
theorem dX10_safe_8 : decode cX10_safe 8 = .ok (.ifCond .ne 5, 3) := by decide +kernel
theorem dX10_safe_11 : decode cX10_safe 11 = .ok (.iconst (-1), 1) := by decide +kernel
theorem dX10_safe_12 : decode cX10_safe 12 = .ok (.ireturn, 1) := by decide +kernel
theorem dX10_safe_13 : decode cX10_safe 13 = .ok (.aload_n 0, 1) := by decide +kernel
theorem dX10_safe_14 : decode cX10_safe 14 = .ok (.getfield 47, 3) := by decide +kernel
theorem dX10_safe_17 : decode cX10_safe 17 = .ok (.aload_n 0, 1) := by decide +kernel
theorem dX10_safe_18 : decode cX10_safe 18 = .ok (.getfield 12, 3) := by decide +kernel
theorem dX10_safe_21 : decode cX10_safe 21 = .ok (.bipush 15, 2) := by decide +kernel
theorem dX10_safe_23 : decode cX10_safe 23 = .ok (.invokevirtual 229, 3) := by decide +kernel
theorem dX10_safe_26 : decode cX10_safe 26 = .ok (.ifCond .ne 6, 3) := by decide +kernel
theorem dX10_safe_29 : decode cX10_safe 29 = .ok (.bipush (-2), 2) := by decide +kernel
theorem dX10_safe_31 : decode cX10_safe 31 = .ok (.ireturn, 1) := by decide +kernel
theorem dX10_safe_32 : decode cX10_safe 32 = .ok (.aload_n 0, 1) := by decide +kernel
theorem dX10_safe_33 : decode cX10_safe 33 = .ok (.getfield 40, 3) := by decide +kernel
theorem dX10_safe_36 : decode cX10_safe 36 = .ok (.aload_n 0, 1) := by decide +kernel
theorem dX10_safe_37 : decode cX10_safe 37 = .ok (.getfield 12, 3) := by decide +kernel
theorem dX10_safe_40 : decode cX10_safe 40 = .ok (.getfield 70, 3) := by decide +kernel
theorem dX10_safe_43 : decode cX10_safe 43 = .ok (.aload_n 0, 1) := by decide +kernel
theorem dX10_safe_44 : decode cX10_safe 44 = .ok (.getfield 47, 3) := by decide +kernel
theorem dX10_safe_47 : decode cX10_safe 47 = .ok (.getfield 233, 3) := by decide +kernel
theorem dX10_safe_50 : decode cX10_safe 50 = .ok (.invokevirtual 239, 3) := by decide +kernel
theorem dX10_safe_53 : decode cX10_safe 53 = .ok (.aload_n 0, 1) := by decide +kernel
theorem dX10_safe_54 : decode cX10_safe 54 = .ok (.getfield 40, 3) := by decide +kernel
theorem dX10_safe_57 : decode cX10_safe 57 = .ok (.iload_n 1, 1) := by decide +kernel
theorem dX10_safe_58 : decode cX10_safe 58 = .ok (.iload_n 2, 1) := by decide +kernel
theorem dX10_safe_59 : decode cX10_safe 59 = .ok (.iload_n 3, 1) := by decide +kernel
theorem dX10_safe_60 : decode cX10_safe 60 = .ok (.iload 4, 2) := by decide +kernel
theorem dX10_safe_62 : decode cX10_safe 62 = .ok (.invokestatic 211, 3) := by decide +kernel
theorem dX10_safe_65 : decode cX10_safe 65 = .ok (.invokevirtual 214, 3) := by decide +kernel
theorem dX10_safe_68 : decode cX10_safe 68 = .ok (.ireturn, 1) := by decide +kernel
set_option maxRecDepth 20000 in
theorem ggX10_drum_X6_find : GoodIn wsX10_drum wsX6_find := goodIn_r _ [7, 8, 9, 10, 11, 12, 13, 14, 15, 16, 17, 18, 19, 20, 6, 21, 22, 23, 24, 25, 26, 27, 28, 29, 30, 31, 32, 33, 34, 35, 36, 37, 38, 39, 40, 41, 42, 43, 44, 45, 46, 47, 48, 49, 50, 51, 52, 53, 66, 67, 68, 69, 70, 71, 72, 73, 74, 75, 76, 77, 78, 79] (by decide +kernel) (by decide +kernel)
set_option maxRecDepth 20000 in
theorem gX10_drum_X6_find : GoodIn wsX10_drum (wsV RX10 229 RX6 yX6_find wsX6_find) := goodIn_app (goodIn_of _ (by decide +kernel)) ggX10_drum_X6_find
set_option maxRecDepth 20000 in
theorem ggX10_drum_X6_widest : GoodIn wsX10_drum wsX6_widest := goodIn_r _ [57, 9, 8, 66, 67] (by decide +kernel) (by decide +kernel)
set_option maxRecDepth 20000 in
theorem gX10_drum_X6_widest : GoodIn wsX10_drum (wsV RX10 243 RX6 yX6_widest wsX6_widest) := goodIn_app (goodIn_of _ (by decide +kernel)) ggX10_drum_X6_widest
theorem dX10_drum_0 : decode cX10_drum 0 = .ok (.aload_n 0, 1) := by decide +kernel
theorem dX10_drum_1 : decode cX10_drum 1 = .ok (.getfield 47, 3) := by decide +kernel
theorem dX10_drum_4 : decode cX10_drum 4 = .ok (.aload_n 0, 1) := by decide +kernel
theorem dX10_drum_5 : decode cX10_drum 5 = .ok (.getfield 12, 3) := by decide +kernel
theorem dX10_drum_8 : decode cX10_drum 8 = .ok (.bipush 15, 2) := by decide +kernel
theorem dX10_drum_10 : decode cX10_drum 10 = .ok (.invokevirtual 229, 3) := by decide +kernel
theorem dX10_drum_13 : decode cX10_drum 13 = .ok (.ifCond .eq 13, 3) := by decide +kernel
theorem dX10_drum_16 : decode cX10_drum 16 = .ok (.aload_n 0, 1) := by decide +kernel
theorem dX10_drum_17 : decode cX10_drum 17 = .ok (.getfield 47, 3) := by decide +kernel
theorem dX10_drum_20 : decode cX10_drum 20 = .ok (.invokevirtual 243, 3) := by decide +kernel
theorem dX10_drum_23 : decode cX10_drum 23 = .ok (.goto 5, 3) := by decide +kernel
theorem dX10_drum_26 : decode cX10_drum 26 = .ok (.bipush (-4), 2) := by decide +kernel
theorem dX10_drum_28 : decode cX10_drum 28 = .ok (.ireturn, 1) := by decide +kernel
set_option maxRecDepth 20000 in
theorem ggX10_liars_J6_bitCount_0f7a4 : GoodIn wsX10_liars wsJ6_bitCount_0f7a4 := goodIn_r _ [6, 7, 8, 9] (by decide +kernel) (by decide +kernel)
set_option maxRecDepth 20000 in
theorem gX10_liars_J6_bitCount_0f7a4 : GoodIn wsX10_liars (va_wsS RX10 246 yJ6_bitCount_0f7a4 wsJ6_bitCount_0f7a4) := goodIn_app (goodIn_of _ (by decide +kernel)) ggX10_liars_J6_bitCount_0f7a4
set_option maxRecDepth 20000 in
theorem ggX10_liars_X6_find : GoodIn wsX10_liars wsX6_find := goodIn_r _ [14, 15, 16, 17, 18, 19, 20, 21, 22, 23, 24, 25, 26, 27, 13, 28, 29, 30, 31, 32, 33, 34, 35, 36, 37, 38, 39, 40, 41, 42, 43, 44, 45, 46, 47, 48, 49, 50, 51, 52, 53, 54, 55, 56, 57, 58, 59, 60, 69, 70, 71, 72, 73, 74, 75, 76, 77, 78, 79, 80, 81, 82] (by decide +kernel) (by decide +kernel)
set_option maxRecDepth 20000 in
theorem gX10_liars_X6_find : GoodIn wsX10_liars (wsV RX10 229 RX6 yX6_find wsX6_find) := goodIn_app (goodIn_of _ (by decide +kernel)) ggX10_liars_X6_find
theorem dX10_liars_0 : decode cX10_liars 0 = .ok (.iconst 0, 1) := by decide +kernel
theorem dX10_liars_1 : decode cX10_liars 1 = .ok (.istore_n 1, 1) := by decide +kernel
theorem dX10_liars_2 : decode cX10_liars 2 = .ok (.iload_n 1, 1) := by decide +kernel
theorem dX10_liars_3 : decode cX10_liars 3 = .ok (.iconst 4, 1) := by decide +kernel
theorem dX10_liars_4 : decode cX10_liars 4 = .ok (.if_icmp .gt 81, 3) := by decide +kernel
theorem dX10_liars_7 : decode cX10_liars 7 = .ok (.iconst 0, 1) := by decide +kernel
theorem dX10_liars_8 : decode cX10_liars 8 = .ok (.istore_n 2, 1) := by decide +kernel
theorem dX10_liars_9 : decode cX10_liars 9 = .ok (.iconst 0, 1) := by decide +kernel
theorem dX10_liars_10 : decode cX10_liars 10 = .ok (.istore_n 3, 1) := by decide +kernel
theorem dX10_liars_11 : decode cX10_liars 11 = .ok (.iconst 0, 1) := by decide +kernel
theorem dX10_liars_12 : decode cX10_liars 12 = .ok (.istore 4, 2) := by decide +kernel
theorem dX10_liars_14 : decode cX10_liars 14 = .ok (.iload 4, 2) := by decide +kernel
theorem dX10_liars_16 : decode cX10_liars 16 = .ok (.bipush 15, 2) := by decide +kernel
theorem dX10_liars_18 : decode cX10_liars 18 = .ok (.if_icmp .gt 45, 3) := by decide +kernel
theorem dX10_liars_21 : decode cX10_liars 21 = .ok (.iload 4, 2) := by decide +kernel
theorem dX10_liars_23 : decode cX10_liars 23 = .ok (.invokestatic 246, 3) := by decide +kernel
theorem dX10_liars_26 : decode cX10_liars 26 = .ok (.iload_n 1, 1) := by decide +kernel
theorem dX10_liars_27 : decode cX10_liars 27 = .ok (.if_icmp .ne 30, 3) := by decide +kernel
theorem dX10_liars_30 : decode cX10_liars 30 = .ok (.aload_n 0, 1) := by decide +kernel
theorem dX10_liars_31 : decode cX10_liars 31 = .ok (.getfield 47, 3) := by decide +kernel
theorem dX10_liars_34 : decode cX10_liars 34 = .ok (.aload_n 0, 1) := by decide +kernel
theorem dX10_liars_35 : decode cX10_liars 35 = .ok (.getfield 12, 3) := by decide +kernel
theorem dX10_liars_38 : decode cX10_liars 38 = .ok (.bipush 15, 2) := by decide +kernel
theorem dX10_liars_40 : decode cX10_liars 40 = .ok (.iload 4, 2) := by decide +kernel
theorem dX10_liars_42 : decode cX10_liars 42 = .ok (.iconst (-1), 1) := by decide +kernel
theorem dX10_liars_43 : decode cX10_liars 43 = .ok (.ixor, 1) := by decide +kernel
theorem dX10_liars_44 : decode cX10_liars 44 = .ok (.iand, 1) := by decide +kernel
theorem dX10_liars_45 : decode cX10_liars 45 = .ok (.invokevirtual 229, 3) := by decide +kernel
theorem dX10_liars_48 : decode cX10_liars 48 = .ok (.ifCond .eq 9, 3) := by decide +kernel
theorem dX10_liars_51 : decode cX10_liars 51 = .ok (.iinc 2 1, 3) := by decide +kernel
theorem dX10_liars_54 : decode cX10_liars 54 = .ok (.iload 4, 2) := by decide +kernel
theorem dX10_liars_56 : decode cX10_liars 56 = .ok (.istore_n 3, 1) := by decide +kernel
theorem dX10_liars_57 : decode cX10_liars 57 = .ok (.iinc 4 1, 3) := by decide +kernel
theorem dX10_liars_60 : decode cX10_liars 60 = .ok (.goto (-46), 3) := by decide +kernel
theorem dX10_liars_63 : decode cX10_liars 63 = .ok (.iload_n 2, 1) := by decide +kernel
theorem dX10_liars_64 : decode cX10_liars 64 = .ok (.ifCond .le 15, 3) := by decide +kernel
theorem dX10_liars_67 : decode cX10_liars 67 = .ok (.iload_n 2, 1) := by decide +kernel
theorem dX10_liars_68 : decode cX10_liars 68 = .ok (.iconst 1, 1) := by decide +kernel
theorem dX10_liars_69 : decode cX10_liars 69 = .ok (.if_icmp .ne 7, 3) := by decide +kernel
theorem dX10_liars_72 : decode cX10_liars 72 = .ok (.iload_n 3, 1) := by decide +kernel
theorem dX10_liars_73 : decode cX10_liars 73 = .ok (.goto 5, 3) := by decide +kernel
theorem dX10_liars_76 : decode cX10_liars 76 = .ok (.bipush (-4), 2) := by decide +kernel
theorem dX10_liars_78 : decode cX10_liars 78 = .ok (.ireturn, 1) := by decide +kernel
theorem dX10_liars_79 : decode cX10_liars 79 = .ok (.iinc 1 1, 3) := by decide +kernel
theorem dX10_liars_82 : decode cX10_liars 82 = .ok (.goto (-80), 3) := by decide +kernel
theorem dX10_liars_85 : decode cX10_liars 85 = .ok (.bipush (-4), 2) := by decide +kernel
theorem dX10_liars_87 : decode cX10_liars 87 = .ok (.ireturn, 1) := by decide +kernel
set_option maxRecDepth 20000 in
theorem ggX10_image_X4_copy : GoodIn wsX10_image wsX4_copy := goodIn_r _ [8, 9, 10, 11, 12, 13, 14, 15, 16, 17, 18, 19, 20, 21, 22, 23, 24, 25, 26, 27, 28, 29, 30, 31, 32, 33, 34, 35, 36, 37, 38, 39, 40, 41, 42, 43, 44, 45, 46, 47, 48, 49, 50, 51, 52, 53, 62, 63, 64, 65, 66, 67, 68, 69, 70, 71, 72, 73, 74, 75, 76, 77, 78, 79] (by decide +kernel) (by decide +kernel)
set_option maxRecDepth 20000 in
theorem gX10_image_X4_copy : GoodIn wsX10_image (wsV RX10 250 RX4 yX4_copy wsX4_copy) := goodIn_app (goodIn_of _ (by decide +kernel)) ggX10_image_X4_copy
theorem dX10_image_0 : decode cX10_image 0 = .ok (.aload_n 0, 1) := by decide +kernel
theorem dX10_image_1 : decode cX10_image 1 = .ok (.getfield 16, 3) := by decide +kernel
theorem dX10_image_4 : decode cX10_image 4 = .ok (.aload_n 0, 1) := by decide +kernel
theorem dX10_image_5 : decode cX10_image 5 = .ok (.getfield 12, 3) := by decide +kernel
theorem dX10_image_8 : decode cX10_image 8 = .ok (.invokevirtual 250, 3) := by decide +kernel
theorem dX10_image_11 : decode cX10_image 11 = .ok (.aload_n 0, 1) := by decide +kernel
theorem dX10_image_12 : decode cX10_image 12 = .ok (.iconst 1, 1) := by decide +kernel
theorem dX10_image_13 : decode cX10_image 13 = .ok (.putfield 19, 3) := by decide +kernel
theorem dX10_image_16 : decode cX10_image 16 = .ok (.iconst 1, 1) := by decide +kernel
theorem dX10_image_17 : decode cX10_image 17 = .ok (.ireturn, 1) := by decide +kernel
set_option maxRecDepth 20000 in
theorem ggX10_restore_X4_copy : GoodIn wsX10_restore wsX4_copy := goodIn_r _ [8, 9, 10, 11, 12, 13, 14, 15, 16, 17, 18, 19, 20, 21, 22, 23, 24, 25, 26, 27, 28, 29, 30, 31, 32, 33, 34, 35, 36, 37, 38, 39, 40, 41, 42, 43, 44, 45, 46, 47, 48, 49, 50, 51, 52, 53, 62, 63, 64, 65, 66, 67, 68, 69, 70, 71, 72, 73, 74, 75, 76, 77, 78, 79] (by decide +kernel) (by decide +kernel)
set_option maxRecDepth 20000 in
theorem gX10_restore_X4_copy : GoodIn wsX10_restore (wsV RX10 250 RX4 yX4_copy wsX4_copy) := goodIn_app (goodIn_of _ (by decide +kernel)) ggX10_restore_X4_copy
theorem dX10_restore_0 : decode cX10_restore 0 = .ok (.aload_n 0, 1) := by decide +kernel
theorem dX10_restore_1 : decode cX10_restore 1 = .ok (.getfield 19, 3) := by decide +kernel
theorem dX10_restore_4 : decode cX10_restore 4 = .ok (.ifCond .ne 6, 3) := by decide +kernel
theorem dX10_restore_7 : decode cX10_restore 7 = .ok (.bipush (-4), 2) := by decide +kernel
theorem dX10_restore_9 : decode cX10_restore 9 = .ok (.ireturn, 1) := by decide +kernel
theorem dX10_restore_10 : decode cX10_restore 10 = .ok (.aload_n 0, 1) := by decide +kernel
theorem dX10_restore_11 : decode cX10_restore 11 = .ok (.getfield 12, 3) := by decide +kernel
theorem dX10_restore_14 : decode cX10_restore 14 = .ok (.aload_n 0, 1) := by decide +kernel
theorem dX10_restore_15 : decode cX10_restore 15 = .ok (.getfield 16, 3) := by decide +kernel
theorem dX10_restore_18 : decode cX10_restore 18 = .ok (.invokevirtual 250, 3) := by decide +kernel
theorem dX10_restore_21 : decode cX10_restore 21 = .ok (.iconst 1, 1) := by decide +kernel
theorem dX10_restore_22 : decode cX10_restore 22 = .ok (.ireturn, 1) := by decide +kernel
set_option maxRecDepth 20000 in
theorem ggX10_go_X10_isSheet : GoodIn wsX10_go wsX10_isSheet := goodIn_r _ [8, 9, 10, 7, 11] (by decide +kernel) (by decide +kernel)
set_option maxRecDepth 20000 in
theorem gX10_go_X10_isSheet : GoodIn wsX10_go (va_wsS RX10 253 yX10_isSheet wsX10_isSheet) := goodIn_app (goodIn_of _ (by decide +kernel)) ggX10_go_X10_isSheet
set_option maxRecDepth 20000 in
theorem ggX10_go_X10_isWithin : GoodIn wsX10_go wsX10_isWithin := goodIn_r _ [11] (by decide +kernel) (by decide +kernel)
set_option maxRecDepth 20000 in
theorem gX10_go_X10_isWithin : GoodIn wsX10_go (va_wsS RX10 62 yX10_isWithin wsX10_isWithin) := goodIn_app (goodIn_of _ (by decide +kernel)) ggX10_go_X10_isWithin
set_option maxRecDepth 20000 in
theorem ggX10_go_X5_refusal : GoodIn wsX10_go wsX5_refusal := goodIn_r _ [16, 17, 18, 62, 63, 64, 65, 66] (by decide +kernel) (by decide +kernel)
set_option maxRecDepth 20000 in
theorem gX10_go_X5_refusal : GoodIn wsX10_go (wsV RX10 256 RX5 yX5_refusal wsX5_refusal) := goodIn_app (goodIn_of _ (by decide +kernel)) ggX10_go_X5_refusal
set_option maxRecDepth 20000 in
theorem ggX10_go_X5_isWay : GoodIn wsX10_go wsX5_isWay := goodIn_r _ [22, 23, 24, 25, 15, 26, 17, 27, 28, 29, 7, 30, 9, 10, 11, 31, 32, 33, 34, 35, 36, 37, 62, 63, 64, 65, 66] (by decide +kernel) (by decide +kernel)
set_option maxRecDepth 20000 in
theorem gX10_go_X5_isWay : GoodIn wsX10_go (wsV RX10 259 RX5 yX5_isWay wsX5_isWay) := goodIn_app (goodIn_of _ (by decide +kernel)) ggX10_go_X5_isWay
set_option maxRecDepth 20000 in
theorem ggX10_go_X5_value : GoodIn wsX10_go wsX5_value := goodIn_r _ [26, 17, 27, 28, 62, 63, 64, 65, 66] (by decide +kernel) (by decide +kernel)
set_option maxRecDepth 20000 in
theorem gX10_go_X5_value : GoodIn wsX10_go (wsV RX10 262 RX5 yX5_value wsX5_value) := goodIn_app (goodIn_of _ (by decide +kernel)) ggX10_go_X5_value
set_option maxRecDepth 20000 in
theorem ggX10_go_X9_add : GoodIn wsX10_go wsX9_add := goodIn_r _ [43, 44, 45, 60, 61] (by decide +kernel) (by decide +kernel)
set_option maxRecDepth 20000 in
theorem gX10_go_X9_add : GoodIn wsX10_go (wsV RX10 178 RX9 yX9_add wsX9_add) := goodIn_app (goodIn_of _ (by decide +kernel)) ggX10_go_X9_add
theorem dX10_go_0 : decode cX10_go 0 = .ok (.iload_n 1, 1) := by decide +kernel
theorem dX10_go_1 : decode cX10_go 1 = .ok (.invokestatic 253, 3) := by decide +kernel
theorem dX10_go_4 : decode cX10_go 4 = .ok (.ifCond .eq 25, 3) := by decide +kernel
theorem dX10_go_7 : decode cX10_go 7 = .ok (.iload_n 2, 1) := by decide +kernel
theorem dX10_go_8 : decode cX10_go 8 = .ok (.i2l, 1) := by decide +kernel
theorem dX10_go_9 : decode cX10_go 9 = .ok (.iconst 1, 1) := by decide +kernel
theorem dX10_go_10 : decode cX10_go 10 = .ok (.iconst 2, 1) := by decide +kernel
theorem dX10_go_11 : decode cX10_go 11 = .ok (.invokestatic 62, 3) := by decide +kernel
theorem dX10_go_14 : decode cX10_go 14 = .ok (.ifCond .eq 15, 3) := by decide +kernel
theorem dX10_go_17 : decode cX10_go 17 = .ok (.iload 4, 2) := by decide +kernel
theorem dX10_go_19 : decode cX10_go 19 = .ok (.i2l, 1) := by decide +kernel
theorem dX10_go_20 : decode cX10_go 20 = .ok (.iconst 1, 1) := by decide +kernel
theorem dX10_go_21 : decode cX10_go 21 = .ok (.bipush 24, 2) := by decide +kernel
theorem dX10_go_23 : decode cX10_go 23 = .ok (.invokestatic 62, 3) := by decide +kernel
theorem dX10_go_26 : decode cX10_go 26 = .ok (.ifCond .ne 5, 3) := by decide +kernel
theorem dX10_go_29 : decode cX10_go 29 = .ok (.iconst (-1), 1) := by decide +kernel
theorem dX10_go_30 : decode cX10_go 30 = .ok (.ireturn, 1) := by decide +kernel
theorem dX10_go_31 : decode cX10_go 31 = .ok (.aload_n 0, 1) := by decide +kernel
theorem dX10_go_32 : decode cX10_go 32 = .ok (.getfield 53, 3) := by decide +kernel
theorem dX10_go_35 : decode cX10_go 35 = .ok (.iload_n 1, 1) := by decide +kernel
theorem dX10_go_36 : decode cX10_go 36 = .ok (.aaload, 1) := by decide +kernel
theorem dX10_go_37 : decode cX10_go 37 = .ok (.astore 5, 2) := by decide +kernel
theorem dX10_go_39 : decode cX10_go 39 = .ok (.aload 5, 2) := by decide +kernel
theorem dX10_go_41 : decode cX10_go 41 = .ok (.iload_n 2, 1) := by decide +kernel
theorem dX10_go_42 : decode cX10_go 42 = .ok (.iload_n 3, 1) := by decide +kernel
theorem dX10_go_43 : decode cX10_go 43 = .ok (.iload 4, 2) := by decide +kernel
theorem dX10_go_45 : decode cX10_go 45 = .ok (.invokevirtual 256, 3) := by decide +kernel
theorem dX10_go_48 : decode cX10_go 48 = .ok (.istore 6, 2) := by decide +kernel
theorem dX10_go_50 : decode cX10_go 50 = .ok (.iload 6, 2) := by decide +kernel
theorem dX10_go_52 : decode cX10_go 52 = .ok (.ifCond .eq 6, 3) := by decide +kernel
theorem dX10_go_55 : decode cX10_go 55 = .ok (.iload 6, 2) := by decide +kernel
theorem dX10_go_57 : decode cX10_go 57 = .ok (.ireturn, 1) := by decide +kernel
theorem dX10_go_58 : decode cX10_go 58 = .ok (.aload 5, 2) := by decide +kernel
theorem dX10_go_60 : decode cX10_go 60 = .ok (.iload_n 3, 1) := by decide +kernel
theorem dX10_go_61 : decode cX10_go 61 = .ok (.iload 4, 2) := by decide +kernel
theorem dX10_go_63 : decode cX10_go 63 = .ok (.invokevirtual 259, 3) := by decide +kernel
theorem dX10_go_66 : decode cX10_go 66 = .ok (.ifCond .ne 6, 3) := by decide +kernel
theorem dX10_go_69 : decode cX10_go 69 = .ok (.bipush (-2), 2) := by decide +kernel
theorem dX10_go_71 : decode cX10_go 71 = .ok (.ireturn, 1) := by decide +kernel
theorem dX10_go_72 : decode cX10_go 72 = .ok (.aload_n 0, 1) := by decide +kernel
theorem dX10_go_73 : decode cX10_go 73 = .ok (.getfield 12, 3) := by decide +kernel
theorem dX10_go_76 : decode cX10_go 76 = .ok (.getfield 138, 3) := by decide +kernel
theorem dX10_go_79 : decode cX10_go 79 = .ok (.iconst 0, 1) := by decide +kernel
theorem dX10_go_80 : decode cX10_go 80 = .ok (.putfield 142, 3) := by decide +kernel
theorem dX10_go_83 : decode cX10_go 83 = .ok (.iconst 0, 1) := by decide +kernel
theorem dX10_go_84 : decode cX10_go 84 = .ok (.istore 7, 2) := by decide +kernel
theorem dX10_go_86 : decode cX10_go 86 = .ok (.iload 7, 2) := by decide +kernel
theorem dX10_go_88 : decode cX10_go 88 = .ok (.iload 4, 2) := by decide +kernel
theorem dX10_go_90 : decode cX10_go 90 = .ok (.if_icmp .ge 29, 3) := by decide +kernel
theorem dX10_go_93 : decode cX10_go 93 = .ok (.aload_n 0, 1) := by decide +kernel
theorem dX10_go_94 : decode cX10_go 94 = .ok (.getfield 12, 3) := by decide +kernel
theorem dX10_go_97 : decode cX10_go 97 = .ok (.getfield 138, 3) := by decide +kernel
theorem dX10_go_100 : decode cX10_go 100 = .ok (.aload 5, 2) := by decide +kernel
theorem dX10_go_102 : decode cX10_go 102 = .ok (.iload_n 3, 1) := by decide +kernel
theorem dX10_go_103 : decode cX10_go 103 = .ok (.iload 7, 2) := by decide +kernel
theorem dX10_go_105 : decode cX10_go 105 = .ok (.iadd, 1) := by decide +kernel
theorem dX10_go_106 : decode cX10_go 106 = .ok (.invokevirtual 262, 3) := by decide +kernel
theorem dX10_go_109 : decode cX10_go 109 = .ok (.l2i, 1) := by decide +kernel
theorem dX10_go_110 : decode cX10_go 110 = .ok (.invokevirtual 178, 3) := by decide +kernel
theorem dX10_go_113 : decode cX10_go 113 = .ok (.iinc 7 1, 3) := by decide +kernel
theorem dX10_go_116 : decode cX10_go 116 = .ok (.goto (-30), 3) := by decide +kernel
theorem dX10_go_119 : decode cX10_go 119 = .ok (.iload 4, 2) := by decide +kernel
theorem dX10_go_121 : decode cX10_go 121 = .ok (.ireturn, 1) := by decide +kernel
set_option maxRecDepth 20000 in
theorem ggX10_film_X10_isWithin : GoodIn wsX10_film wsX10_isWithin := goodIn_r _ [7] (by decide +kernel) (by decide +kernel)
set_option maxRecDepth 20000 in
theorem gX10_film_X10_isWithin : GoodIn wsX10_film (va_wsS RX10 62 yX10_isWithin wsX10_isWithin) := goodIn_app (goodIn_of _ (by decide +kernel)) ggX10_film_X10_isWithin
set_option maxRecDepth 20000 in
theorem ggX10_film_X10_isSheet : GoodIn wsX10_film wsX10_isSheet := goodIn_r _ [10, 4, 5, 6, 7] (by decide +kernel) (by decide +kernel)
set_option maxRecDepth 20000 in
theorem gX10_film_X10_isSheet : GoodIn wsX10_film (va_wsS RX10 253 yX10_isSheet wsX10_isSheet) := goodIn_app (goodIn_of _ (by decide +kernel)) ggX10_film_X10_isSheet
set_option maxRecDepth 20000 in
theorem ggX10_film_X5_refusal : GoodIn wsX10_film wsX5_refusal := goodIn_r _ [15, 16, 17, 45, 46, 47, 48, 49] (by decide +kernel) (by decide +kernel)
set_option maxRecDepth 20000 in
theorem gX10_film_X5_refusal : GoodIn wsX10_film (wsV RX10 256 RX5 yX5_refusal wsX5_refusal) := goodIn_app (goodIn_of _ (by decide +kernel)) ggX10_film_X5_refusal
set_option maxRecDepth 20000 in
theorem ggX10_film_X2_trait : GoodIn wsX10_film wsX2_trait := goodIn_r _ [22, 23, 50] (by decide +kernel) (by decide +kernel)
set_option maxRecDepth 20000 in
theorem gX10_film_X2_trait : GoodIn wsX10_film (wsV RX10 74 RX2 yX2_trait wsX2_trait) := goodIn_app (goodIn_of _ (by decide +kernel)) ggX10_film_X2_trait
set_option maxRecDepth 20000 in
theorem ggX10_film_X5_put : GoodIn wsX10_film wsX5_put := goodIn_r _ [27, 16, 28, 29, 30, 45, 46, 47, 48, 49] (by decide +kernel) (by decide +kernel)
set_option maxRecDepth 20000 in
theorem gX10_film_X5_put : GoodIn wsX10_film (wsV RX10 265 RX5 yX5_put wsX5_put) := goodIn_app (goodIn_of _ (by decide +kernel)) ggX10_film_X5_put
theorem dX10_film_0 : decode cX10_film 0 = .ok (.iload_n 1, 1) := by decide +kernel
theorem dX10_film_1 : decode cX10_film 1 = .ok (.i2l, 1) := by decide +kernel
theorem dX10_film_2 : decode cX10_film 2 = .ok (.iconst 0, 1) := by decide +kernel
theorem dX10_film_3 : decode cX10_film 3 = .ok (.bipush 7, 2) := by decide +kernel
theorem dX10_film_5 : decode cX10_film 5 = .ok (.invokestatic 62, 3) := by decide +kernel
theorem dX10_film_8 : decode cX10_film 8 = .ok (.ifCond .eq 10, 3) := by decide +kernel
theorem dX10_film_11 : decode cX10_film 11 = .ok (.iload_n 2, 1) := by decide +kernel
theorem dX10_film_12 : decode cX10_film 12 = .ok (.invokestatic 253, 3) := by decide +kernel
theorem dX10_film_15 : decode cX10_film 15 = .ok (.ifCond .ne 5, 3) := by decide +kernel
theorem dX10_film_18 : decode cX10_film 18 = .ok (.iconst (-1), 1) := by decide +kernel
theorem dX10_film_19 : decode cX10_film 19 = .ok (.ireturn, 1) := by decide +kernel
theorem dX10_film_20 : decode cX10_film 20 = .ok (.aload_n 0, 1) := by decide +kernel
theorem dX10_film_21 : decode cX10_film 21 = .ok (.getfield 53, 3) := by decide +kernel
theorem dX10_film_24 : decode cX10_film 24 = .ok (.iload_n 2, 1) := by decide +kernel
theorem dX10_film_25 : decode cX10_film 25 = .ok (.aaload, 1) := by decide +kernel
theorem dX10_film_26 : decode cX10_film 26 = .ok (.iconst 0, 1) := by decide +kernel
theorem dX10_film_27 : decode cX10_film 27 = .ok (.iload_n 3, 1) := by decide +kernel
theorem dX10_film_28 : decode cX10_film 28 = .ok (.bipush 8, 2) := by decide +kernel
theorem dX10_film_30 : decode cX10_film 30 = .ok (.invokevirtual 256, 3) := by decide +kernel
theorem dX10_film_33 : decode cX10_film 33 = .ok (.istore 4, 2) := by decide +kernel
theorem dX10_film_35 : decode cX10_film 35 = .ok (.iload 4, 2) := by decide +kernel
theorem dX10_film_37 : decode cX10_film 37 = .ok (.ifCond .eq 6, 3) := by decide +kernel
theorem dX10_film_40 : decode cX10_film 40 = .ok (.iload 4, 2) := by decide +kernel
theorem dX10_film_42 : decode cX10_film 42 = .ok (.ireturn, 1) := by decide +kernel
theorem dX10_film_43 : decode cX10_film 43 = .ok (.iconst 0, 1) := by decide +kernel
theorem dX10_film_44 : decode cX10_film 44 = .ok (.istore 5, 2) := by decide +kernel
theorem dX10_film_46 : decode cX10_film 46 = .ok (.iconst 0, 1) := by decide +kernel
theorem dX10_film_47 : decode cX10_film 47 = .ok (.istore 6, 2) := by decide +kernel
theorem dX10_film_49 : decode cX10_film 49 = .ok (.iload 6, 2) := by decide +kernel
theorem dX10_film_51 : decode cX10_film 51 = .ok (.bipush 8, 2) := by decide +kernel
theorem dX10_film_53 : decode cX10_film 53 = .ok (.if_icmp .ge 60, 3) := by decide +kernel
theorem dX10_film_56 : decode cX10_film 56 = .ok (.aload_n 0, 1) := by decide +kernel
theorem dX10_film_57 : decode cX10_film 57 = .ok (.getfield 12, 3) := by decide +kernel
theorem dX10_film_60 : decode cX10_film 60 = .ok (.getfield 70, 3) := by decide +kernel
theorem dX10_film_63 : decode cX10_film 63 = .ok (.iload_n 1, 1) := by decide +kernel
theorem dX10_film_64 : decode cX10_film 64 = .ok (.bipush 8, 2) := by decide +kernel
theorem dX10_film_66 : decode cX10_film 66 = .ok (.imul, 1) := by decide +kernel
theorem dX10_film_67 : decode cX10_film 67 = .ok (.iload 6, 2) := by decide +kernel
theorem dX10_film_69 : decode cX10_film 69 = .ok (.iadd, 1) := by decide +kernel
theorem dX10_film_70 : decode cX10_film 70 = .ok (.iconst 0, 1) := by decide +kernel
theorem dX10_film_71 : decode cX10_film 71 = .ok (.invokevirtual 74, 3) := by decide +kernel
theorem dX10_film_74 : decode cX10_film 74 = .ok (.istore 7, 2) := by decide +kernel
theorem dX10_film_76 : decode cX10_film 76 = .ok (.aload_n 0, 1) := by decide +kernel
theorem dX10_film_77 : decode cX10_film 77 = .ok (.getfield 53, 3) := by decide +kernel
theorem dX10_film_80 : decode cX10_film 80 = .ok (.iload_n 2, 1) := by decide +kernel
theorem dX10_film_81 : decode cX10_film 81 = .ok (.aaload, 1) := by decide +kernel
theorem dX10_film_82 : decode cX10_film 82 = .ok (.iload_n 3, 1) := by decide +kernel
theorem dX10_film_83 : decode cX10_film 83 = .ok (.iload 6, 2) := by decide +kernel
theorem dX10_film_85 : decode cX10_film 85 = .ok (.iadd, 1) := by decide +kernel
theorem dX10_film_86 : decode cX10_film 86 = .ok (.iload 7, 2) := by decide +kernel
theorem dX10_film_88 : decode cX10_film 88 = .ok (.i2l, 1) := by decide +kernel
theorem dX10_film_89 : decode cX10_film 89 = .ok (.invokevirtual 265, 3) := by decide +kernel
theorem dX10_film_92 : decode cX10_film 92 = .ok (.iload 5, 2) := by decide +kernel
theorem dX10_film_94 : decode cX10_film 94 = .ok (.iload 7, 2) := by decide +kernel
theorem dX10_film_96 : decode cX10_film 96 = .ok (.ifCond .le 7, 3) := by decide +kernel
theorem dX10_film_99 : decode cX10_film 99 = .ok (.iconst 1, 1) := by decide +kernel
theorem dX10_film_100 : decode cX10_film 100 = .ok (.goto 4, 3) := by decide +kernel
theorem dX10_film_103 : decode cX10_film 103 = .ok (.iconst 0, 1) := by decide +kernel
theorem dX10_film_104 : decode cX10_film 104 = .ok (.iadd, 1) := by decide +kernel
theorem dX10_film_105 : decode cX10_film 105 = .ok (.istore 5, 2) := by decide +kernel
theorem dX10_film_107 : decode cX10_film 107 = .ok (.iinc 6 1, 3) := by decide +kernel
theorem dX10_film_110 : decode cX10_film 110 = .ok (.goto (-61), 3) := by decide +kernel
theorem dX10_film_113 : decode cX10_film 113 = .ok (.iload 5, 2) := by decide +kernel
theorem dX10_film_115 : decode cX10_film 115 = .ok (.ireturn, 1) := by decide +kernel
set_option maxRecDepth 20000 in
theorem ggX10_sheet_X10_isSheet : GoodIn wsX10_sheet wsX10_isSheet := goodIn_r _ [5, 6, 7, 4, 8] (by decide +kernel) (by decide +kernel)
set_option maxRecDepth 20000 in
theorem gX10_sheet_X10_isSheet : GoodIn wsX10_sheet (va_wsS RX10 253 yX10_isSheet wsX10_isSheet) := goodIn_app (goodIn_of _ (by decide +kernel)) ggX10_sheet_X10_isSheet
set_option maxRecDepth 20000 in
theorem ggX10_sheet_X10_isWithin : GoodIn wsX10_sheet wsX10_isWithin := goodIn_r _ [8] (by decide +kernel) (by decide +kernel)
set_option maxRecDepth 20000 in
theorem gX10_sheet_X10_isWithin : GoodIn wsX10_sheet (va_wsS RX10 62 yX10_isWithin wsX10_isWithin) := goodIn_app (goodIn_of _ (by decide +kernel)) ggX10_sheet_X10_isWithin
set_option maxRecDepth 20000 in
theorem ggX10_sheet_X5_renew : GoodIn wsX10_sheet wsX5_renew := goodIn_r _ [13, 14, 15, 16, 17, 18, 12, 19, 20, 21, 22, 31, 32, 33, 34, 35] (by decide +kernel) (by decide +kernel)
set_option maxRecDepth 20000 in
theorem gX10_sheet_X5_renew : GoodIn wsX10_sheet (wsV RX10 268 RX5 yX5_renew wsX5_renew) := goodIn_app (goodIn_of _ (by decide +kernel)) ggX10_sheet_X5_renew
theorem dX10_sheet_0 : decode cX10_sheet 0 = .ok (.iload_n 1, 1) := by decide +kernel
theorem dX10_sheet_1 : decode cX10_sheet 1 = .ok (.invokestatic 253, 3) := by decide +kernel
theorem dX10_sheet_4 : decode cX10_sheet 4 = .ok (.ifCond .eq 19, 3) := by decide +kernel
theorem dX10_sheet_7 : decode cX10_sheet 7 = .ok (.iload_n 2, 1) := by decide +kernel
theorem dX10_sheet_8 : decode cX10_sheet 8 = .ok (.i2l, 1) := by decide +kernel
theorem dX10_sheet_9 : decode cX10_sheet 9 = .ok (.iconst 0, 1) := by decide +kernel
theorem dX10_sheet_10 : decode cX10_sheet 10 = .ok (.iconst 2, 1) := by decide +kernel
theorem dX10_sheet_11 : decode cX10_sheet 11 = .ok (.invokestatic 62, 3) := by decide +kernel
theorem dX10_sheet_14 : decode cX10_sheet 14 = .ok (.ifCond .eq 9, 3) := by decide +kernel
theorem dX10_sheet_17 : decode cX10_sheet 17 = .ok (.iload_n 3, 1) := by decide +kernel
theorem dX10_sheet_18 : decode cX10_sheet 18 = .ok (.bipush 24, 2) := by decide +kernel
theorem dX10_sheet_20 : decode cX10_sheet 20 = .ok (.if_icmp .le 5, 3) := by decide +kernel
theorem dX10_sheet_23 : decode cX10_sheet 23 = .ok (.iconst (-1), 1) := by decide +kernel
theorem dX10_sheet_24 : decode cX10_sheet 24 = .ok (.ireturn, 1) := by decide +kernel
theorem dX10_sheet_25 : decode cX10_sheet 25 = .ok (.iload_n 3, 1) := by decide +kernel
theorem dX10_sheet_26 : decode cX10_sheet 26 = .ok (.ifCond .ge 6, 3) := by decide +kernel
theorem dX10_sheet_29 : decode cX10_sheet 29 = .ok (.bipush (-14), 2) := by decide +kernel
theorem dX10_sheet_31 : decode cX10_sheet 31 = .ok (.ireturn, 1) := by decide +kernel
theorem dX10_sheet_32 : decode cX10_sheet 32 = .ok (.aload_n 0, 1) := by decide +kernel
theorem dX10_sheet_33 : decode cX10_sheet 33 = .ok (.getfield 53, 3) := by decide +kernel
theorem dX10_sheet_36 : decode cX10_sheet 36 = .ok (.iload_n 1, 1) := by decide +kernel
theorem dX10_sheet_37 : decode cX10_sheet 37 = .ok (.aaload, 1) := by decide +kernel
theorem dX10_sheet_38 : decode cX10_sheet 38 = .ok (.iload_n 2, 1) := by decide +kernel
theorem dX10_sheet_39 : decode cX10_sheet 39 = .ok (.iload_n 3, 1) := by decide +kernel
theorem dX10_sheet_40 : decode cX10_sheet 40 = .ok (.invokevirtual 268, 3) := by decide +kernel
theorem dX10_sheet_43 : decode cX10_sheet 43 = .ok (.iload_n 3, 1) := by decide +kernel
theorem dX10_sheet_44 : decode cX10_sheet 44 = .ok (.ireturn, 1) := by decide +kernel
set_option maxRecDepth 20000 in
theorem ggX10_drop_X10_isSheet : GoodIn wsX10_drop wsX10_isSheet := goodIn_r _ [7, 8, 9, 6, 10] (by decide +kernel) (by decide +kernel)
set_option maxRecDepth 20000 in
theorem gX10_drop_X10_isSheet : GoodIn wsX10_drop (va_wsS RX10 253 yX10_isSheet wsX10_isSheet) := goodIn_app (goodIn_of _ (by decide +kernel)) ggX10_drop_X10_isSheet
theorem dX10_drop_0 : decode cX10_drop 0 = .ok (.iload_n 1, 1) := by decide +kernel
theorem dX10_drop_1 : decode cX10_drop 1 = .ok (.invokestatic 253, 3) := by decide +kernel
theorem dX10_drop_4 : decode cX10_drop 4 = .ok (.ifCond .ne 5, 3) := by decide +kernel
theorem dX10_drop_7 : decode cX10_drop 7 = .ok (.iconst (-1), 1) := by decide +kernel
theorem dX10_drop_8 : decode cX10_drop 8 = .ok (.ireturn, 1) := by decide +kernel
theorem dX10_drop_9 : decode cX10_drop 9 = .ok (.aload_n 0, 1) := by decide +kernel
theorem dX10_drop_10 : decode cX10_drop 10 = .ok (.getfield 53, 3) := by decide +kernel
theorem dX10_drop_13 : decode cX10_drop 13 = .ok (.iload_n 1, 1) := by decide +kernel
theorem dX10_drop_14 : decode cX10_drop 14 = .ok (.aaload, 1) := by decide +kernel
theorem dX10_drop_15 : decode cX10_drop 15 = .ok (.getfield 272, 3) := by decide +kernel
theorem dX10_drop_18 : decode cX10_drop 18 = .ok (.iconst (-1), 1) := by decide +kernel
theorem dX10_drop_19 : decode cX10_drop 19 = .ok (.if_icmp .ne 6, 3) := by decide +kernel
theorem dX10_drop_22 : decode cX10_drop 22 = .ok (.bipush (-11), 2) := by decide +kernel
theorem dX10_drop_24 : decode cX10_drop 24 = .ok (.ireturn, 1) := by decide +kernel
theorem dX10_drop_25 : decode cX10_drop 25 = .ok (.aload_n 0, 1) := by decide +kernel
theorem dX10_drop_26 : decode cX10_drop 26 = .ok (.getfield 53, 3) := by decide +kernel
theorem dX10_drop_29 : decode cX10_drop 29 = .ok (.iload_n 1, 1) := by decide +kernel
theorem dX10_drop_30 : decode cX10_drop 30 = .ok (.aaload, 1) := by decide +kernel
theorem dX10_drop_31 : decode cX10_drop 31 = .ok (.iconst (-1), 1) := by decide +kernel
theorem dX10_drop_32 : decode cX10_drop 32 = .ok (.putfield 272, 3) := by decide +kernel
theorem dX10_drop_35 : decode cX10_drop 35 = .ok (.aload_n 0, 1) := by decide +kernel
theorem dX10_drop_36 : decode cX10_drop 36 = .ok (.getfield 53, 3) := by decide +kernel
theorem dX10_drop_39 : decode cX10_drop 39 = .ok (.iload_n 1, 1) := by decide +kernel
theorem dX10_drop_40 : decode cX10_drop 40 = .ok (.aaload, 1) := by decide +kernel
theorem dX10_drop_41 : decode cX10_drop 41 = .ok (.getfield 275, 3) := by decide +kernel
theorem dX10_drop_44 : decode cX10_drop 44 = .ok (.ireturn, 1) := by decide +kernel
set_option maxRecDepth 20000 in
theorem ggX10_item_X10_isSheet : GoodIn wsX10_item wsX10_isSheet := goodIn_r _ [5, 6, 7, 4, 8] (by decide +kernel) (by decide +kernel)
set_option maxRecDepth 20000 in
theorem gX10_item_X10_isSheet : GoodIn wsX10_item (va_wsS RX10 253 yX10_isSheet wsX10_isSheet) := goodIn_app (goodIn_of _ (by decide +kernel)) ggX10_item_X10_isSheet
set_option maxRecDepth 20000 in
theorem ggX10_item_X10_isWithin : GoodIn wsX10_item wsX10_isWithin := goodIn_r _ [8] (by decide +kernel) (by decide +kernel)
set_option maxRecDepth 20000 in
theorem gX10_item_X10_isWithin : GoodIn wsX10_item (va_wsS RX10 62 yX10_isWithin wsX10_isWithin) := goodIn_app (goodIn_of _ (by decide +kernel)) ggX10_item_X10_isWithin
set_option maxRecDepth 20000 in
theorem ggX10_item_X5_refusal : GoodIn wsX10_item wsX5_refusal := goodIn_r _ [13, 14, 15, 31, 32, 33, 34, 35] (by decide +kernel) (by decide +kernel)
set_option maxRecDepth 20000 in
theorem gX10_item_X5_refusal : GoodIn wsX10_item (wsV RX10 256 RX5 yX5_refusal wsX5_refusal) := goodIn_app (goodIn_of _ (by decide +kernel)) ggX10_item_X5_refusal
set_option maxRecDepth 20000 in
theorem ggX10_item_X5_put : GoodIn wsX10_item wsX5_put := goodIn_r _ [19, 14, 20, 21, 22, 31, 32, 33, 34, 35] (by decide +kernel) (by decide +kernel)
set_option maxRecDepth 20000 in
theorem gX10_item_X5_put : GoodIn wsX10_item (wsV RX10 265 RX5 yX5_put wsX5_put) := goodIn_app (goodIn_of _ (by decide +kernel)) ggX10_item_X5_put
theorem dX10_item_0 : decode cX10_item 0 = .ok (.iload_n 1, 1) := by decide +kernel
theorem dX10_item_1 : decode cX10_item 1 = .ok (.invokestatic 253, 3) := by decide +kernel
theorem dX10_item_4 : decode cX10_item 4 = .ok (.ifCond .eq 13, 3) := by decide +kernel
theorem dX10_item_7 : decode cX10_item 7 = .ok (.iload_n 2, 1) := by decide +kernel
theorem dX10_item_8 : decode cX10_item 8 = .ok (.i2l, 1) := by decide +kernel
theorem dX10_item_9 : decode cX10_item 9 = .ok (.iconst 0, 1) := by decide +kernel
theorem dX10_item_10 : decode cX10_item 10 = .ok (.iconst 2, 1) := by decide +kernel
theorem dX10_item_11 : decode cX10_item 11 = .ok (.invokestatic 62, 3) := by decide +kernel
theorem dX10_item_14 : decode cX10_item 14 = .ok (.ifCond .ne 5, 3) := by decide +kernel
theorem dX10_item_17 : decode cX10_item 17 = .ok (.iconst (-1), 1) := by decide +kernel
theorem dX10_item_18 : decode cX10_item 18 = .ok (.ireturn, 1) := by decide +kernel
theorem dX10_item_19 : decode cX10_item 19 = .ok (.aload_n 0, 1) := by decide +kernel
theorem dX10_item_20 : decode cX10_item 20 = .ok (.getfield 53, 3) := by decide +kernel
