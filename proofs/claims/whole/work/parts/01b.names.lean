set_option maxRecDepth 20000 in
theorem ggX0_init_X8_init : GoodIn wsX0_init wsX8_init := goodIn_r _ [12, 13, 2, 3, 4, 14, 15, 16, 17, 21, 22, 23, 24] (by decide +kernel) (by decide +kernel)
set_option maxRecDepth 20000 in
theorem gX0_init_X8_init_n20 : GoodIn wsX0_init (wsX8_init) := ggX0_init_X8_init
theorem dX0_init_0 : decode cX0_init 0 = .ok (.aload_n 0, 1) := by decide +kernel
theorem dX0_init_1 : decode cX0_init 1 = .ok (.invokespecial 3, 3) := by decide +kernel
theorem dX0_init_4 : decode cX0_init 4 = .ok (.aload_n 0, 1) := by decide +kernel
theorem dX0_init_5 : decode cX0_init 5 = .ok (.bipush 64, 2) := by decide +kernel
theorem dX0_init_7 : decode cX0_init 7 = .ok (.newarray .int, 2) := by decide +kernel
theorem dX0_init_9 : decode cX0_init 9 = .ok (.putfield 9, 3) := by decide +kernel
theorem dX0_init_12 : decode cX0_init 12 = .ok (.aload_n 0, 1) := by decide +kernel
theorem dX0_init_13 : decode cX0_init 13 = .ok (.bipush 64, 2) := by decide +kernel
theorem dX0_init_15 : decode cX0_init 15 = .ok (.newarray .int, 2) := by decide +kernel
theorem dX0_init_17 : decode cX0_init 17 = .ok (.putfield 15, 3) := by decide +kernel
theorem dX0_init_20 : decode cX0_init 20 = .ok (.aload_n 0, 1) := by decide +kernel
theorem dX0_init_21 : decode cX0_init 21 = .ok (.new 18, 3) := by decide +kernel
theorem dX0_init_24 : decode cX0_init 24 = .ok (.dup, 1) := by decide +kernel
theorem dX0_init_25 : decode cX0_init 25 = .ok (.invokespecial 20, 3) := by decide +kernel
theorem dX0_init_28 : decode cX0_init 28 = .ok (.putfield 21, 3) := by decide +kernel
theorem dX0_init_31 : decode cX0_init 31 = .ok (.return_, 1) := by decide +kernel
set_option maxRecDepth 20000 in
theorem ggX0_readIce_J7_fill_53178 : GoodIn wsX0_readIce wsJ7_fill_53178 := goodIn_r _ [5] (by decide +kernel) (by decide +kernel)
set_option maxRecDepth 20000 in
theorem gX0_readIce_J7_fill_53178 : GoodIn wsX0_readIce (va_wsS RX0 25 yJ7_fill_53178 wsJ7_fill_53178) := goodIn_app (goodIn_of _ (by decide +kernel)) ggX0_readIce_J7_fill_53178
set_option maxRecDepth 20000 in
theorem ggX0_readIce_X7_rewind : GoodIn wsX0_readIce wsX7_rewind := goodIn_r _ [10, 11, 12, 13, 14, 9, 15, 16, 17, 97, 98, 99] (by decide +kernel) (by decide +kernel)
set_option maxRecDepth 20000 in
theorem gX0_readIce_X7_rewind : GoodIn wsX0_readIce (wsV RX0 31 RX7 yX7_rewind wsX7_rewind) := goodIn_app (goodIn_of _ (by decide +kernel)) ggX0_readIce_X7_rewind
set_option maxRecDepth 20000 in
theorem ggX0_readIce_X0_readRow : GoodIn wsX0_readIce wsX0_readRow := goodIn_r _ [22, 1, 23, 24, 25, 26, 9, 27, 28, 29, 30, 31, 11, 16, 17, 32, 33, 34, 35, 36, 37, 38, 39, 12, 13, 14, 15, 40, 41, 42, 21, 43, 44, 45, 46, 47, 48, 49, 50, 51, 52, 53, 54, 55, 56, 57, 58, 59, 60, 61, 62, 63, 64, 65, 66, 67, 68, 69, 70, 71, 72, 73, 74, 75, 76, 77, 78, 79, 80, 81, 82, 83, 84, 85, 86, 87, 88, 89, 94, 95, 96, 97, 98, 99] (by decide +kernel) (by decide +kernel)
set_option maxRecDepth 20000 in
theorem gX0_readIce_X0_readRow : GoodIn wsX0_readIce (wsV RX0 36 RX0 yX0_readRow wsX0_readRow) := goodIn_app (goodIn_of _ (by decide +kernel)) ggX0_readIce_X0_readRow
set_option maxRecDepth 20000 in
theorem ggX0_readIce_X7_sign : GoodIn wsX0_readIce wsX7_sign := goodIn_r _ [31, 11, 16, 17, 97, 98, 99] (by decide +kernel) (by decide +kernel)
set_option maxRecDepth 20000 in
theorem gX0_readIce_X7_sign : GoodIn wsX0_readIce (wsV RX0 40 RX7 yX7_sign wsX7_sign) := goodIn_app (goodIn_of _ (by decide +kernel)) ggX0_readIce_X7_sign
set_option maxRecDepth 20000 in
theorem ggX0_readIce_X7_takes : GoodIn wsX0_readIce wsX7_takes := goodIn_r _ [88, 28, 29, 30, 9, 31, 11, 16, 17, 89, 37, 38, 39, 12, 13, 14, 15, 97, 98, 99] (by decide +kernel) (by decide +kernel)
set_option maxRecDepth 20000 in
theorem gX0_readIce_X7_takes : GoodIn wsX0_readIce (wsV RX0 44 RX7 yX7_takes wsX7_takes) := goodIn_app (goodIn_of _ (by decide +kernel)) ggX0_readIce_X7_takes
set_option maxRecDepth 20000 in
theorem ggX0_readIce_X7_fault : GoodIn wsX0_readIce wsX7_fault := goodIn_r _ [93, 11, 97, 98, 99] (by decide +kernel) (by decide +kernel)
set_option maxRecDepth 20000 in
theorem gX0_readIce_X7_fault : GoodIn wsX0_readIce (wsV RX0 48 RX7 yX7_fault wsX7_fault) := goodIn_app (goodIn_of _ (by decide +kernel)) ggX0_readIce_X7_fault
theorem dX0_readIce_0 : decode cX0_readIce 0 = .ok (.aload_n 0, 1) := by decide +kernel
theorem dX0_readIce_1 : decode cX0_readIce 1 = .ok (.getfield 9, 3) := by decide +kernel
theorem dX0_readIce_4 : decode cX0_readIce 4 = .ok (.iconst (-1), 1) := by decide +kernel
theorem dX0_readIce_5 : decode cX0_readIce 5 = .ok (.invokestatic 25, 3) := by decide +kernel
theorem dX0_readIce_8 : decode cX0_readIce 8 = .ok (.aload_n 1, 1) := by decide +kernel
theorem dX0_readIce_9 : decode cX0_readIce 9 = .ok (.invokevirtual 31, 3) := by decide +kernel
theorem dX0_readIce_12 : decode cX0_readIce 12 = .ok (.iconst 0, 1) := by decide +kernel
theorem dX0_readIce_13 : decode cX0_readIce 13 = .ok (.istore_n 2, 1) := by decide +kernel
theorem dX0_readIce_14 : decode cX0_readIce 14 = .ok (.iconst 0, 1) := by decide +kernel
theorem dX0_readIce_15 : decode cX0_readIce 15 = .ok (.istore_n 3, 1) := by decide +kernel
theorem dX0_readIce_16 : decode cX0_readIce 16 = .ok (.iload_n 3, 1) := by decide +kernel
theorem dX0_readIce_17 : decode cX0_readIce 17 = .ok (.bipush 8, 2) := by decide +kernel
theorem dX0_readIce_19 : decode cX0_readIce 19 = .ok (.if_icmp .ge 60, 3) := by decide +kernel
theorem dX0_readIce_22 : decode cX0_readIce 22 = .ok (.aload_n 0, 1) := by decide +kernel
theorem dX0_readIce_23 : decode cX0_readIce 23 = .ok (.aload_n 1, 1) := by decide +kernel
theorem dX0_readIce_24 : decode cX0_readIce 24 = .ok (.iload_n 3, 1) := by decide +kernel
theorem dX0_readIce_25 : decode cX0_readIce 25 = .ok (.invokevirtual 36, 3) := by decide +kernel
theorem dX0_readIce_28 : decode cX0_readIce 28 = .ok (.istore 4, 2) := by decide +kernel
theorem dX0_readIce_30 : decode cX0_readIce 30 = .ok (.iload_n 2, 1) := by decide +kernel
theorem dX0_readIce_31 : decode cX0_readIce 31 = .ok (.iload 4, 2) := by decide +kernel
theorem dX0_readIce_33 : decode cX0_readIce 33 = .ok (.iadd, 1) := by decide +kernel
theorem dX0_readIce_34 : decode cX0_readIce 34 = .ok (.istore_n 2, 1) := by decide +kernel
theorem dX0_readIce_35 : decode cX0_readIce 35 = .ok (.iload 4, 2) := by decide +kernel
theorem dX0_readIce_37 : decode cX0_readIce 37 = .ok (.ifCond .le 13, 3) := by decide +kernel
theorem dX0_readIce_40 : decode cX0_readIce 40 = .ok (.aload_n 1, 1) := by decide +kernel
theorem dX0_readIce_41 : decode cX0_readIce 41 = .ok (.invokevirtual 40, 3) := by decide +kernel
theorem dX0_readIce_44 : decode cX0_readIce 44 = .ok (.iconst (-1), 1) := by decide +kernel
theorem dX0_readIce_45 : decode cX0_readIce 45 = .ok (.if_icmp .ne 5, 3) := by decide +kernel
theorem dX0_readIce_48 : decode cX0_readIce 48 = .ok (.iload_n 2, 1) := by decide +kernel
theorem dX0_readIce_49 : decode cX0_readIce 49 = .ok (.ireturn, 1) := by decide +kernel
theorem dX0_readIce_50 : decode cX0_readIce 50 = .ok (.iload 4, 2) := by decide +kernel
theorem dX0_readIce_52 : decode cX0_readIce 52 = .ok (.ifCond .eq 27, 3) := by decide +kernel
theorem dX0_readIce_55 : decode cX0_readIce 55 = .ok (.iload_n 3, 1) := by decide +kernel
theorem dX0_readIce_56 : decode cX0_readIce 56 = .ok (.bipush 7, 2) := by decide +kernel
theorem dX0_readIce_58 : decode cX0_readIce 58 = .ok (.if_icmp .eq 21, 3) := by decide +kernel
theorem dX0_readIce_61 : decode cX0_readIce 61 = .ok (.aload_n 1, 1) := by decide +kernel
theorem dX0_readIce_62 : decode cX0_readIce 62 = .ok (.bipush 47, 2) := by decide +kernel
theorem dX0_readIce_64 : decode cX0_readIce 64 = .ok (.invokevirtual 44, 3) := by decide +kernel
theorem dX0_readIce_67 : decode cX0_readIce 67 = .ok (.ifCond .ne 6, 3) := by decide +kernel
theorem dX0_readIce_70 : decode cX0_readIce 70 = .ok (.goto 9, 3) := by decide +kernel
theorem dX0_readIce_73 : decode cX0_readIce 73 = .ok (.iinc 3 1, 3) := by decide +kernel
theorem dX0_readIce_76 : decode cX0_readIce 76 = .ok (.goto (-60), 3) := by decide +kernel
theorem dX0_readIce_79 : decode cX0_readIce 79 = .ok (.aload_n 1, 1) := by decide +kernel
theorem dX0_readIce_80 : decode cX0_readIce 80 = .ok (.invokevirtual 48, 3) := by decide +kernel
theorem dX0_readIce_83 : decode cX0_readIce 83 = .ok (.ireturn, 1) := by decide +kernel
set_option maxRecDepth 20000 in
theorem ggX0_readRow_X7_isDigit : GoodIn wsX0_readRow wsX7_isDigit := goodIn_r _ [7, 8, 9, 10, 6, 11, 12, 13, 14, 15, 16, 17, 81, 82, 83] (by decide +kernel) (by decide +kernel)
set_option maxRecDepth 20000 in
theorem gX0_readRow_X7_isDigit : GoodIn wsX0_readRow (wsV RX0 51 RX7 yX7_isDigit wsX7_isDigit) := goodIn_app (goodIn_of _ (by decide +kernel)) ggX0_readRow_X7_isDigit
set_option maxRecDepth 20000 in
theorem ggX0_readRow_X7_sign : GoodIn wsX0_readRow wsX7_sign := goodIn_r _ [11, 12, 13, 14, 81, 82, 83] (by decide +kernel) (by decide +kernel)
set_option maxRecDepth 20000 in
theorem gX0_readRow_X7_sign : GoodIn wsX0_readRow (wsV RX0 40 RX7 yX7_sign wsX7_sign) := goodIn_app (goodIn_of _ (by decide +kernel)) ggX0_readRow_X7_sign
set_option maxRecDepth 20000 in
theorem ggX0_readRow_X7_pass : GoodIn wsX0_readRow wsX7_pass := goodIn_r _ [22, 12, 23, 24, 25, 6, 26, 13, 14, 81, 82, 83] (by decide +kernel) (by decide +kernel)
set_option maxRecDepth 20000 in
theorem gX0_readRow_X7_pass : GoodIn wsX0_readRow (wsV RX0 55 RX7 yX7_pass wsX7_pass) := goodIn_app (goodIn_of _ (by decide +kernel)) ggX0_readRow_X7_pass
set_option maxRecDepth 20000 in
theorem ggX0_readRow_X0_readKind : GoodIn wsX0_readRow wsX0_readKind := goodIn_r _ [31, 32, 33, 34, 35, 36, 37, 38, 39, 40, 41, 42, 43, 44, 45, 46, 47, 48, 49, 50, 51, 52, 53, 54, 55, 56, 57, 58, 59, 60, 61, 62, 63, 64, 65, 66, 67, 68, 69, 70, 71, 72, 73, 74, 75, 6, 76, 8, 9, 10, 11, 12, 13, 14, 77, 20, 21, 22, 23, 24, 25, 26, 81, 82, 83] (by decide +kernel) (by decide +kernel)
set_option maxRecDepth 20000 in
theorem gX0_readRow_X0_readKind : GoodIn wsX0_readRow (wsV RX0 58 RX0 yX0_readKind wsX0_readKind) := goodIn_app (goodIn_of _ (by decide +kernel)) ggX0_readRow_X0_readKind
theorem dX0_readRow_0 : decode cX0_readRow 0 = .ok (.iconst 0, 1) := by decide +kernel
theorem dX0_readRow_1 : decode cX0_readRow 1 = .ok (.istore_n 3, 1) := by decide +kernel
theorem dX0_readRow_2 : decode cX0_readRow 2 = .ok (.iload_n 3, 1) := by decide +kernel
theorem dX0_readRow_3 : decode cX0_readRow 3 = .ok (.bipush 8, 2) := by decide +kernel
theorem dX0_readRow_5 : decode cX0_readRow 5 = .ok (.if_icmp .ge 57, 3) := by decide +kernel
theorem dX0_readRow_8 : decode cX0_readRow 8 = .ok (.aload_n 1, 1) := by decide +kernel
theorem dX0_readRow_9 : decode cX0_readRow 9 = .ok (.invokevirtual 51, 3) := by decide +kernel
theorem dX0_readRow_12 : decode cX0_readRow 12 = .ok (.ifCond .eq 50, 3) := by decide +kernel
theorem dX0_readRow_15 : decode cX0_readRow 15 = .ok (.iload_n 2, 1) := by decide +kernel
theorem dX0_readRow_16 : decode cX0_readRow 16 = .ok (.bipush 8, 2) := by decide +kernel
theorem dX0_readRow_18 : decode cX0_readRow 18 = .ok (.imul, 1) := by decide +kernel
theorem dX0_readRow_19 : decode cX0_readRow 19 = .ok (.iload_n 3, 1) := by decide +kernel
theorem dX0_readRow_20 : decode cX0_readRow 20 = .ok (.iadd, 1) := by decide +kernel
theorem dX0_readRow_21 : decode cX0_readRow 21 = .ok (.istore 4, 2) := by decide +kernel
theorem dX0_readRow_23 : decode cX0_readRow 23 = .ok (.aload_n 0, 1) := by decide +kernel
theorem dX0_readRow_24 : decode cX0_readRow 24 = .ok (.getfield 9, 3) := by decide +kernel
theorem dX0_readRow_27 : decode cX0_readRow 27 = .ok (.iload 4, 2) := by decide +kernel
theorem dX0_readRow_29 : decode cX0_readRow 29 = .ok (.bipush 10, 2) := by decide +kernel
theorem dX0_readRow_31 : decode cX0_readRow 31 = .ok (.aload_n 1, 1) := by decide +kernel
theorem dX0_readRow_32 : decode cX0_readRow 32 = .ok (.invokevirtual 40, 3) := by decide +kernel
theorem dX0_readRow_35 : decode cX0_readRow 35 = .ok (.bipush 48, 2) := by decide +kernel
theorem dX0_readRow_37 : decode cX0_readRow 37 = .ok (.isub, 1) := by decide +kernel
theorem dX0_readRow_38 : decode cX0_readRow 38 = .ok (.imul, 1) := by decide +kernel
theorem dX0_readRow_39 : decode cX0_readRow 39 = .ok (.iastore, 1) := by decide +kernel
theorem dX0_readRow_40 : decode cX0_readRow 40 = .ok (.aload_n 1, 1) := by decide +kernel
theorem dX0_readRow_41 : decode cX0_readRow 41 = .ok (.invokevirtual 55, 3) := by decide +kernel
theorem dX0_readRow_44 : decode cX0_readRow 44 = .ok (.aload_n 0, 1) := by decide +kernel
theorem dX0_readRow_45 : decode cX0_readRow 45 = .ok (.getfield 15, 3) := by decide +kernel
theorem dX0_readRow_48 : decode cX0_readRow 48 = .ok (.iload 4, 2) := by decide +kernel
theorem dX0_readRow_50 : decode cX0_readRow 50 = .ok (.aload_n 0, 1) := by decide +kernel
theorem dX0_readRow_51 : decode cX0_readRow 51 = .ok (.aload_n 1, 1) := by decide +kernel
theorem dX0_readRow_52 : decode cX0_readRow 52 = .ok (.invokevirtual 58, 3) := by decide +kernel
theorem dX0_readRow_55 : decode cX0_readRow 55 = .ok (.iastore, 1) := by decide +kernel
theorem dX0_readRow_56 : decode cX0_readRow 56 = .ok (.iinc 3 1, 3) := by decide +kernel
theorem dX0_readRow_59 : decode cX0_readRow 59 = .ok (.goto (-57), 3) := by decide +kernel
theorem dX0_readRow_62 : decode cX0_readRow 62 = .ok (.iload_n 3, 1) := by decide +kernel
theorem dX0_readRow_63 : decode cX0_readRow 63 = .ok (.ireturn, 1) := by decide +kernel
set_option maxRecDepth 20000 in
theorem ggX0_readKind_J0_charAt_5068e : GoodIn wsX0_readKind wsJ0_charAt_5068e := goodIn_r _ [5, 6, 7, 8, 9, 4, 10, 11, 12, 13, 14, 15, 16, 17, 18, 19, 20, 21, 22, 23, 24, 25, 26, 27, 28, 29, 30, 31, 32, 33, 34, 35, 36, 37, 38, 39, 40, 41] (by decide +kernel) (by decide +kernel)
set_option maxRecDepth 20000 in
theorem gX0_readKind_J0_charAt_5068e : GoodIn wsX0_readKind (wsV RX0 64 RJ0 yJ0_charAt_5068e wsJ0_charAt_5068e) := goodIn_app (goodIn_of _ (by decide +kernel)) ggX0_readKind_J0_charAt_5068e
set_option maxRecDepth 20000 in
theorem ggX0_readKind_X7_takes : GoodIn wsX0_readKind wsX7_takes := goodIn_r _ [46, 47, 48, 49, 45, 50, 51, 52, 53, 54, 55, 56, 57, 58, 59, 60, 61, 62, 63, 64] (by decide +kernel) (by decide +kernel)
set_option maxRecDepth 20000 in
theorem gX0_readKind_X7_takes : GoodIn wsX0_readKind (wsV RX0 44 RX7 yX7_takes wsX7_takes) := goodIn_app (goodIn_of _ (by decide +kernel)) ggX0_readKind_X7_takes
theorem dX0_readKind_0 : decode cX0_readKind 0 = .ok (.iconst 1, 1) := by decide +kernel
theorem dX0_readKind_1 : decode cX0_readKind 1 = .ok (.istore_n 2, 1) := by decide +kernel
theorem dX0_readKind_2 : decode cX0_readKind 2 = .ok (.iload_n 2, 1) := by decide +kernel
theorem dX0_readKind_3 : decode cX0_readKind 3 = .ok (.iconst 4, 1) := by decide +kernel
theorem dX0_readKind_4 : decode cX0_readKind 4 = .ok (.if_icmp .gt 24, 3) := by decide +kernel
theorem dX0_readKind_7 : decode cX0_readKind 7 = .ok (.aload_n 1, 1) := by decide +kernel
theorem dX0_readKind_8 : decode cX0_readKind 8 = .ok (.ldc 62, 2) := by decide +kernel
theorem dX0_readKind_10 : decode cX0_readKind 10 = .ok (.iload_n 2, 1) := by decide +kernel
theorem dX0_readKind_11 : decode cX0_readKind 11 = .ok (.invokevirtual 64, 3) := by decide +kernel
theorem dX0_readKind_14 : decode cX0_readKind 14 = .ok (.invokevirtual 44, 3) := by decide +kernel
theorem dX0_readKind_17 : decode cX0_readKind 17 = .ok (.ifCond .eq 5, 3) := by decide +kernel
theorem dX0_readKind_20 : decode cX0_readKind 20 = .ok (.iload_n 2, 1) := by decide +kernel
theorem dX0_readKind_21 : decode cX0_readKind 21 = .ok (.ireturn, 1) := by decide +kernel
theorem dX0_readKind_22 : decode cX0_readKind 22 = .ok (.iinc 2 1, 3) := by decide +kernel
theorem dX0_readKind_25 : decode cX0_readKind 25 = .ok (.goto (-23), 3) := by decide +kernel
theorem dX0_readKind_28 : decode cX0_readKind 28 = .ok (.iconst 0, 1) := by decide +kernel
theorem dX0_readKind_29 : decode cX0_readKind 29 = .ok (.ireturn, 1) := by decide +kernel
set_option maxRecDepth 20000 in
theorem ggX0_layIce_X2_put : GoodIn wsX0_layIce wsX2_put := goodIn_r _ [7, 8, 12] (by decide +kernel) (by decide +kernel)
set_option maxRecDepth 20000 in
theorem gX0_layIce_X2_put : GoodIn wsX0_layIce (wsV RX0 70 RX2 yX2_put wsX2_put) := goodIn_app (goodIn_of _ (by decide +kernel)) ggX0_layIce_X2_put
theorem dX0_layIce_0 : decode cX0_layIce 0 = .ok (.iconst 0, 1) := by decide +kernel
theorem dX0_layIce_1 : decode cX0_layIce 1 = .ok (.istore_n 2, 1) := by decide +kernel
theorem dX0_layIce_2 : decode cX0_layIce 2 = .ok (.iload_n 2, 1) := by decide +kernel
theorem dX0_layIce_3 : decode cX0_layIce 3 = .ok (.bipush 64, 2) := by decide +kernel
theorem dX0_layIce_5 : decode cX0_layIce 5 = .ok (.if_icmp .ge 64, 3) := by decide +kernel
theorem dX0_layIce_8 : decode cX0_layIce 8 = .ok (.aload_n 0, 1) := by decide +kernel
theorem dX0_layIce_9 : decode cX0_layIce 9 = .ok (.getfield 9, 3) := by decide +kernel
theorem dX0_layIce_12 : decode cX0_layIce 12 = .ok (.iload_n 2, 1) := by decide +kernel
theorem dX0_layIce_13 : decode cX0_layIce 13 = .ok (.iaload, 1) := by decide +kernel
theorem dX0_layIce_14 : decode cX0_layIce 14 = .ok (.iconst (-1), 1) := by decide +kernel
theorem dX0_layIce_15 : decode cX0_layIce 15 = .ok (.if_icmp .eq 48, 3) := by decide +kernel
theorem dX0_layIce_18 : decode cX0_layIce 18 = .ok (.aload_n 1, 1) := by decide +kernel
theorem dX0_layIce_19 : decode cX0_layIce 19 = .ok (.iload_n 2, 1) := by decide +kernel
theorem dX0_layIce_20 : decode cX0_layIce 20 = .ok (.iconst 0, 1) := by decide +kernel
theorem dX0_layIce_21 : decode cX0_layIce 21 = .ok (.aload_n 0, 1) := by decide +kernel
theorem dX0_layIce_22 : decode cX0_layIce 22 = .ok (.getfield 9, 3) := by decide +kernel
theorem dX0_layIce_25 : decode cX0_layIce 25 = .ok (.iload_n 2, 1) := by decide +kernel
theorem dX0_layIce_26 : decode cX0_layIce 26 = .ok (.iaload, 1) := by decide +kernel
theorem dX0_layIce_27 : decode cX0_layIce 27 = .ok (.invokevirtual 70, 3) := by decide +kernel
theorem dX0_layIce_30 : decode cX0_layIce 30 = .ok (.aload_n 1, 1) := by decide +kernel
theorem dX0_layIce_31 : decode cX0_layIce 31 = .ok (.iload_n 2, 1) := by decide +kernel
theorem dX0_layIce_32 : decode cX0_layIce 32 = .ok (.iconst 1, 1) := by decide +kernel
theorem dX0_layIce_33 : decode cX0_layIce 33 = .ok (.aload_n 0, 1) := by decide +kernel
theorem dX0_layIce_34 : decode cX0_layIce 34 = .ok (.getfield 15, 3) := by decide +kernel
theorem dX0_layIce_37 : decode cX0_layIce 37 = .ok (.iload_n 2, 1) := by decide +kernel
theorem dX0_layIce_38 : decode cX0_layIce 38 = .ok (.iaload, 1) := by decide +kernel
theorem dX0_layIce_39 : decode cX0_layIce 39 = .ok (.invokevirtual 70, 3) := by decide +kernel
theorem dX0_layIce_42 : decode cX0_layIce 42 = .ok (.aload_n 1, 1) := by decide +kernel
theorem dX0_layIce_43 : decode cX0_layIce 43 = .ok (.iload_n 2, 1) := by decide +kernel
theorem dX0_layIce_44 : decode cX0_layIce 44 = .ok (.iconst 2, 1) := by decide +kernel
theorem dX0_layIce_45 : decode cX0_layIce 45 = .ok (.iconst 0, 1) := by decide +kernel
theorem dX0_layIce_46 : decode cX0_layIce 46 = .ok (.invokevirtual 70, 3) := by decide +kernel
theorem dX0_layIce_49 : decode cX0_layIce 49 = .ok (.aload_n 1, 1) := by decide +kernel
theorem dX0_layIce_50 : decode cX0_layIce 50 = .ok (.iload_n 2, 1) := by decide +kernel
theorem dX0_layIce_51 : decode cX0_layIce 51 = .ok (.iconst 3, 1) := by decide +kernel
theorem dX0_layIce_52 : decode cX0_layIce 52 = .ok (.iconst 0, 1) := by decide +kernel
theorem dX0_layIce_53 : decode cX0_layIce 53 = .ok (.invokevirtual 70, 3) := by decide +kernel
theorem dX0_layIce_56 : decode cX0_layIce 56 = .ok (.aload_n 1, 1) := by decide +kernel
theorem dX0_layIce_57 : decode cX0_layIce 57 = .ok (.iload_n 2, 1) := by decide +kernel
theorem dX0_layIce_58 : decode cX0_layIce 58 = .ok (.iconst 4, 1) := by decide +kernel
theorem dX0_layIce_59 : decode cX0_layIce 59 = .ok (.iconst 0, 1) := by decide +kernel
theorem dX0_layIce_60 : decode cX0_layIce 60 = .ok (.invokevirtual 70, 3) := by decide +kernel
theorem dX0_layIce_63 : decode cX0_layIce 63 = .ok (.iinc 2 1, 3) := by decide +kernel
theorem dX0_layIce_66 : decode cX0_layIce 66 = .ok (.goto (-64), 3) := by decide +kernel
theorem dX0_layIce_69 : decode cX0_layIce 69 = .ok (.return_, 1) := by decide +kernel
set_option maxRecDepth 20000 in
theorem ggX0_readTrain_X7_rewind : GoodIn wsX0_readTrain wsX7_rewind := goodIn_r _ [7, 8, 9, 10, 11, 6, 12, 13, 14, 69, 70, 71] (by decide +kernel) (by decide +kernel)
set_option maxRecDepth 20000 in
theorem gX0_readTrain_X7_rewind : GoodIn wsX0_readTrain (wsV RX0 31 RX7 yX7_rewind wsX7_rewind) := goodIn_app (goodIn_of _ (by decide +kernel)) ggX0_readTrain_X7_rewind
set_option maxRecDepth 20000 in
theorem ggX0_readTrain_X0_readSleigh : GoodIn wsX0_readTrain wsX0_readSleigh := goodIn_r _ [19, 1, 20, 21, 22, 6, 23, 8, 13, 24, 25, 26, 27, 28, 29, 30, 31, 32, 33, 34, 35, 14, 36, 37, 38, 9, 10, 11, 12, 39, 40, 41, 42, 43, 44, 45, 46, 47, 48, 49, 50, 51, 52, 53, 54, 55, 56, 57, 62, 63, 64, 69, 70, 71, 65, 66, 67, 68] (by decide +kernel) (by decide +kernel)
set_option maxRecDepth 20000 in
theorem gX0_readTrain_X0_readSleigh : GoodIn wsX0_readTrain (wsV RX0 80 RX0 yX0_readSleigh wsX0_readSleigh) := goodIn_app (goodIn_of _ (by decide +kernel)) ggX0_readTrain_X0_readSleigh
set_option maxRecDepth 20000 in
theorem ggX0_readTrain_X7_sign : GoodIn wsX0_readTrain wsX7_sign := goodIn_r _ [35, 8, 13, 14, 69, 70, 71] (by decide +kernel) (by decide +kernel)
set_option maxRecDepth 20000 in
theorem gX0_readTrain_X7_sign : GoodIn wsX0_readTrain (wsV RX0 40 RX7 yX7_sign wsX7_sign) := goodIn_app (goodIn_of _ (by decide +kernel)) ggX0_readTrain_X7_sign
set_option maxRecDepth 20000 in
theorem ggX0_readTrain_X7_takes : GoodIn wsX0_readTrain wsX7_takes := goodIn_r _ [42, 32, 33, 34, 6, 35, 8, 13, 14, 43, 44, 45, 46, 9, 10, 11, 12, 69, 70, 71] (by decide +kernel) (by decide +kernel)
set_option maxRecDepth 20000 in
theorem gX0_readTrain_X7_takes : GoodIn wsX0_readTrain (wsV RX0 44 RX7 yX7_takes wsX7_takes) := goodIn_app (goodIn_of _ (by decide +kernel)) ggX0_readTrain_X7_takes
set_option maxRecDepth 20000 in
theorem ggX0_readTrain_X7_fault : GoodIn wsX0_readTrain wsX7_fault := goodIn_r _ [61, 8, 69, 70, 71] (by decide +kernel) (by decide +kernel)
set_option maxRecDepth 20000 in
theorem gX0_readTrain_X7_fault : GoodIn wsX0_readTrain (wsV RX0 48 RX7 yX7_fault wsX7_fault) := goodIn_app (goodIn_of _ (by decide +kernel)) ggX0_readTrain_X7_fault
theorem dX0_readTrain_0 : decode cX0_readTrain 0 = .ok (.aload_n 0, 1) := by decide +kernel
theorem dX0_readTrain_1 : decode cX0_readTrain 1 = .ok (.getfield 21, 3) := by decide +kernel
theorem dX0_readTrain_4 : decode cX0_readTrain 4 = .ok (.iconst 0, 1) := by decide +kernel
theorem dX0_readTrain_5 : decode cX0_readTrain 5 = .ok (.putfield 76, 3) := by decide +kernel
theorem dX0_readTrain_8 : decode cX0_readTrain 8 = .ok (.aload_n 1, 1) := by decide +kernel
theorem dX0_readTrain_9 : decode cX0_readTrain 9 = .ok (.invokevirtual 31, 3) := by decide +kernel
theorem dX0_readTrain_12 : decode cX0_readTrain 12 = .ok (.iconst 0, 1) := by decide +kernel
theorem dX0_readTrain_13 : decode cX0_readTrain 13 = .ok (.istore_n 2, 1) := by decide +kernel
theorem dX0_readTrain_14 : decode cX0_readTrain 14 = .ok (.iload_n 2, 1) := by decide +kernel
theorem dX0_readTrain_15 : decode cX0_readTrain 15 = .ok (.bipush 6, 2) := by decide +kernel
theorem dX0_readTrain_17 : decode cX0_readTrain 17 = .ok (.if_icmp .ge 53, 3) := by decide +kernel
theorem dX0_readTrain_20 : decode cX0_readTrain 20 = .ok (.aload_n 0, 1) := by decide +kernel
theorem dX0_readTrain_21 : decode cX0_readTrain 21 = .ok (.aload_n 1, 1) := by decide +kernel
theorem dX0_readTrain_22 : decode cX0_readTrain 22 = .ok (.invokevirtual 80, 3) := by decide +kernel
theorem dX0_readTrain_25 : decode cX0_readTrain 25 = .ok (.ifCond .ne 6, 3) := by decide +kernel
theorem dX0_readTrain_28 : decode cX0_readTrain 28 = .ok (.goto 42, 3) := by decide +kernel
theorem dX0_readTrain_31 : decode cX0_readTrain 31 = .ok (.aload_n 1, 1) := by decide +kernel
theorem dX0_readTrain_32 : decode cX0_readTrain 32 = .ok (.invokevirtual 40, 3) := by decide +kernel
theorem dX0_readTrain_35 : decode cX0_readTrain 35 = .ok (.iconst (-1), 1) := by decide +kernel
theorem dX0_readTrain_36 : decode cX0_readTrain 36 = .ok (.if_icmp .ne 11, 3) := by decide +kernel
theorem dX0_readTrain_39 : decode cX0_readTrain 39 = .ok (.aload_n 0, 1) := by decide +kernel
theorem dX0_readTrain_40 : decode cX0_readTrain 40 = .ok (.getfield 21, 3) := by decide +kernel
theorem dX0_readTrain_43 : decode cX0_readTrain 43 = .ok (.getfield 76, 3) := by decide +kernel
theorem dX0_readTrain_46 : decode cX0_readTrain 46 = .ok (.ireturn, 1) := by decide +kernel
theorem dX0_readTrain_47 : decode cX0_readTrain 47 = .ok (.iload_n 2, 1) := by decide +kernel
theorem dX0_readTrain_48 : decode cX0_readTrain 48 = .ok (.iconst 5, 1) := by decide +kernel
theorem dX0_readTrain_49 : decode cX0_readTrain 49 = .ok (.if_icmp .eq 21, 3) := by decide +kernel
theorem dX0_readTrain_52 : decode cX0_readTrain 52 = .ok (.aload_n 1, 1) := by decide +kernel
theorem dX0_readTrain_53 : decode cX0_readTrain 53 = .ok (.bipush 44, 2) := by decide +kernel
theorem dX0_readTrain_55 : decode cX0_readTrain 55 = .ok (.invokevirtual 44, 3) := by decide +kernel
theorem dX0_readTrain_58 : decode cX0_readTrain 58 = .ok (.ifCond .ne 6, 3) := by decide +kernel
theorem dX0_readTrain_61 : decode cX0_readTrain 61 = .ok (.goto 9, 3) := by decide +kernel
theorem dX0_readTrain_64 : decode cX0_readTrain 64 = .ok (.iinc 2 1, 3) := by decide +kernel
theorem dX0_readTrain_67 : decode cX0_readTrain 67 = .ok (.goto (-53), 3) := by decide +kernel
theorem dX0_readTrain_70 : decode cX0_readTrain 70 = .ok (.aload_n 1, 1) := by decide +kernel
theorem dX0_readTrain_71 : decode cX0_readTrain 71 = .ok (.invokevirtual 48, 3) := by decide +kernel
theorem dX0_readTrain_74 : decode cX0_readTrain 74 = .ok (.ireturn, 1) := by decide +kernel
set_option maxRecDepth 20000 in
theorem ggX0_readSleigh_X7_number : GoodIn wsX0_readSleigh wsX7_number := goodIn_r _ [6, 7, 8, 9, 10, 11, 12, 13, 14, 15, 5, 16, 17, 18, 19, 20, 21, 22, 23, 24, 25, 26, 27, 28, 51, 52, 53] (by decide +kernel) (by decide +kernel)
set_option maxRecDepth 20000 in
theorem gX0_readSleigh_X7_number : GoodIn wsX0_readSleigh (wsV RX0 84 RX7 yX7_number wsX7_number) := goodIn_app (goodIn_of _ (by decide +kernel)) ggX0_readSleigh_X7_number
set_option maxRecDepth 20000 in
theorem ggX0_readSleigh_X7_takes : GoodIn wsX0_readSleigh wsX7_takes := goodIn_r _ [32, 17, 18, 19, 5, 20, 7, 8, 21, 33, 34, 35, 36, 25, 26, 27, 28, 51, 52, 53] (by decide +kernel) (by decide +kernel)
set_option maxRecDepth 20000 in
theorem gX0_readSleigh_X7_takes : GoodIn wsX0_readSleigh (wsV RX0 44 RX7 yX7_takes wsX7_takes) := goodIn_app (goodIn_of _ (by decide +kernel)) ggX0_readSleigh_X7_takes
set_option maxRecDepth 20000 in
theorem ggX0_readSleigh_X7_sign : GoodIn wsX0_readSleigh wsX7_sign := goodIn_r _ [20, 7, 8, 21, 51, 52, 53] (by decide +kernel) (by decide +kernel)
set_option maxRecDepth 20000 in
theorem gX0_readSleigh_X7_sign : GoodIn wsX0_readSleigh (wsV RX0 40 RX7 yX7_sign wsX7_sign) := goodIn_app (goodIn_of _ (by decide +kernel)) ggX0_readSleigh_X7_sign
set_option maxRecDepth 20000 in
theorem ggX0_readSleigh_X10_isWithin : GoodIn wsX0_readSleigh wsX10_isWithin := goodIn_r _ [24] (by decide +kernel) (by decide +kernel)
set_option maxRecDepth 20000 in
theorem gX0_readSleigh_X10_isWithin_n88 : GoodIn wsX0_readSleigh (wsX10_isWithin) := ggX0_readSleigh_X10_isWithin
set_option maxRecDepth 20000 in
theorem ggX0_readSleigh_X7_pass : GoodIn wsX0_readSleigh wsX7_pass := goodIn_r _ [36, 7, 25, 26, 27, 5, 28, 8, 21, 51, 52, 53] (by decide +kernel) (by decide +kernel)
set_option maxRecDepth 20000 in
theorem gX0_readSleigh_X7_pass : GoodIn wsX0_readSleigh (wsV RX0 55 RX7 yX7_pass wsX7_pass) := goodIn_app (goodIn_of _ (by decide +kernel)) ggX0_readSleigh_X7_pass
set_option maxRecDepth 20000 in
theorem ggX0_readSleigh_X8_add : GoodIn wsX0_readSleigh wsX8_add := goodIn_r _ [43, 44, 45, 46, 47, 54, 55, 56, 57] (by decide +kernel) (by decide +kernel)
set_option maxRecDepth 20000 in
theorem gX0_readSleigh_X8_add : GoodIn wsX0_readSleigh (wsV RX0 92 RX8 yX8_add wsX8_add) := goodIn_app (goodIn_of _ (by decide +kernel)) ggX0_readSleigh_X8_add
theorem dX0_readSleigh_0 : decode cX0_readSleigh 0 = .ok (.aload_n 1, 1) := by decide +kernel
theorem dX0_readSleigh_1 : decode cX0_readSleigh 1 = .ok (.iconst 1, 1) := by decide +kernel
theorem dX0_readSleigh_2 : decode cX0_readSleigh 2 = .ok (.bipush 99, 2) := by decide +kernel
theorem dX0_readSleigh_4 : decode cX0_readSleigh 4 = .ok (.invokevirtual 84, 3) := by decide +kernel
theorem dX0_readSleigh_7 : decode cX0_readSleigh 7 = .ok (.istore_n 2, 1) := by decide +kernel
theorem dX0_readSleigh_8 : decode cX0_readSleigh 8 = .ok (.iload_n 2, 1) := by decide +kernel
theorem dX0_readSleigh_9 : decode cX0_readSleigh 9 = .ok (.bipush (-4), 2) := by decide +kernel
theorem dX0_readSleigh_11 : decode cX0_readSleigh 11 = .ok (.if_icmp .eq 27, 3) := by decide +kernel
theorem dX0_readSleigh_14 : decode cX0_readSleigh 14 = .ok (.aload_n 1, 1) := by decide +kernel
theorem dX0_readSleigh_15 : decode cX0_readSleigh 15 = .ok (.bipush 112, 2) := by decide +kernel
theorem dX0_readSleigh_17 : decode cX0_readSleigh 17 = .ok (.invokevirtual 44, 3) := by decide +kernel
theorem dX0_readSleigh_20 : decode cX0_readSleigh 20 = .ok (.ifCond .eq 18, 3) := by decide +kernel
theorem dX0_readSleigh_23 : decode cX0_readSleigh 23 = .ok (.aload_n 1, 1) := by decide +kernel
theorem dX0_readSleigh_24 : decode cX0_readSleigh 24 = .ok (.invokevirtual 40, 3) := by decide +kernel
theorem dX0_readSleigh_27 : decode cX0_readSleigh 27 = .ok (.i2l, 1) := by decide +kernel
theorem dX0_readSleigh_28 : decode cX0_readSleigh 28 = .ok (.bipush 49, 2) := by decide +kernel
theorem dX0_readSleigh_30 : decode cX0_readSleigh 30 = .ok (.bipush 57, 2) := by decide +kernel
theorem dX0_readSleigh_32 : decode cX0_readSleigh 32 = .ok (.invokestatic 88, 3) := by decide +kernel
theorem dX0_readSleigh_35 : decode cX0_readSleigh 35 = .ok (.ifCond .ne 5, 3) := by decide +kernel
theorem dX0_readSleigh_38 : decode cX0_readSleigh 38 = .ok (.iconst 0, 1) := by decide +kernel
theorem dX0_readSleigh_39 : decode cX0_readSleigh 39 = .ok (.ireturn, 1) := by decide +kernel
theorem dX0_readSleigh_40 : decode cX0_readSleigh 40 = .ok (.aload_n 1, 1) := by decide +kernel
theorem dX0_readSleigh_41 : decode cX0_readSleigh 41 = .ok (.invokevirtual 40, 3) := by decide +kernel
theorem dX0_readSleigh_44 : decode cX0_readSleigh 44 = .ok (.bipush 48, 2) := by decide +kernel
theorem dX0_readSleigh_46 : decode cX0_readSleigh 46 = .ok (.isub, 1) := by decide +kernel
theorem dX0_readSleigh_47 : decode cX0_readSleigh 47 = .ok (.istore_n 3, 1) := by decide +kernel
theorem dX0_readSleigh_48 : decode cX0_readSleigh 48 = .ok (.aload_n 1, 1) := by decide +kernel
theorem dX0_readSleigh_49 : decode cX0_readSleigh 49 = .ok (.invokevirtual 55, 3) := by decide +kernel
theorem dX0_readSleigh_52 : decode cX0_readSleigh 52 = .ok (.aload_n 1, 1) := by decide +kernel
theorem dX0_readSleigh_53 : decode cX0_readSleigh 53 = .ok (.bipush 109, 2) := by decide +kernel
theorem dX0_readSleigh_55 : decode cX0_readSleigh 55 = .ok (.invokevirtual 44, 3) := by decide +kernel
theorem dX0_readSleigh_58 : decode cX0_readSleigh 58 = .ok (.ifCond .eq 13, 3) := by decide +kernel
theorem dX0_readSleigh_61 : decode cX0_readSleigh 61 = .ok (.aload_n 1, 1) := by decide +kernel
theorem dX0_readSleigh_62 : decode cX0_readSleigh 62 = .ok (.iconst 0, 1) := by decide +kernel
theorem dX0_readSleigh_63 : decode cX0_readSleigh 63 = .ok (.bipush 99, 2) := by decide +kernel
theorem dX0_readSleigh_65 : decode cX0_readSleigh 65 = .ok (.invokevirtual 84, 3) := by decide +kernel
theorem dX0_readSleigh_68 : decode cX0_readSleigh 68 = .ok (.goto 4, 3) := by decide +kernel
theorem dX0_readSleigh_71 : decode cX0_readSleigh 71 = .ok (.iconst 0, 1) := by decide +kernel
theorem dX0_readSleigh_72 : decode cX0_readSleigh 72 = .ok (.istore 4, 2) := by decide +kernel
theorem dX0_readSleigh_74 : decode cX0_readSleigh 74 = .ok (.iload 4, 2) := by decide +kernel
theorem dX0_readSleigh_76 : decode cX0_readSleigh 76 = .ok (.bipush (-4), 2) := by decide +kernel
theorem dX0_readSleigh_78 : decode cX0_readSleigh 78 = .ok (.if_icmp .ne 5, 3) := by decide +kernel
theorem dX0_readSleigh_81 : decode cX0_readSleigh 81 = .ok (.iconst 0, 1) := by decide +kernel
theorem dX0_readSleigh_82 : decode cX0_readSleigh 82 = .ok (.ireturn, 1) := by decide +kernel
theorem dX0_readSleigh_83 : decode cX0_readSleigh 83 = .ok (.aload_n 0, 1) := by decide +kernel
theorem dX0_readSleigh_84 : decode cX0_readSleigh 84 = .ok (.getfield 21, 3) := by decide +kernel
theorem dX0_readSleigh_87 : decode cX0_readSleigh 87 = .ok (.iload_n 2, 1) := by decide +kernel
theorem dX0_readSleigh_88 : decode cX0_readSleigh 88 = .ok (.iload_n 3, 1) := by decide +kernel
theorem dX0_readSleigh_89 : decode cX0_readSleigh 89 = .ok (.iload 4, 2) := by decide +kernel
theorem dX0_readSleigh_91 : decode cX0_readSleigh 91 = .ok (.invokevirtual 92, 3) := by decide +kernel
theorem dX0_readSleigh_94 : decode cX0_readSleigh 94 = .ok (.iconst 1, 1) := by decide +kernel
theorem dX0_readSleigh_95 : decode cX0_readSleigh 95 = .ok (.ireturn, 1) := by decide +kernel
theorem dX1_init_0 : decode cX1_init 0 = .ok (.aload_n 0, 1) := by decide +kernel
theorem dX1_init_1 : decode cX1_init 1 = .ok (.invokespecial 3, 3) := by decide +kernel
theorem dX1_init_4 : decode cX1_init 4 = .ok (.aload_n 0, 1) := by decide +kernel
theorem dX1_init_5 : decode cX1_init 5 = .ok (.iconst 4, 1) := by decide +kernel
theorem dX1_init_6 : decode cX1_init 6 = .ok (.newarray .int, 2) := by decide +kernel
theorem dX1_init_8 : decode cX1_init 8 = .ok (.putfield 9, 3) := by decide +kernel
theorem dX1_init_11 : decode cX1_init 11 = .ok (.aload_n 0, 1) := by decide +kernel
theorem dX1_init_12 : decode cX1_init 12 = .ok (.bipush 16, 2) := by decide +kernel
theorem dX1_init_14 : decode cX1_init 14 = .ok (.newarray .int, 2) := by decide +kernel
theorem dX1_init_16 : decode cX1_init 16 = .ok (.putfield 15, 3) := by decide +kernel
theorem dX1_init_19 : decode cX1_init 19 = .ok (.aload_n 0, 1) := by decide +kernel
theorem dX1_init_20 : decode cX1_init 20 = .ok (.bipush 16, 2) := by decide +kernel
theorem dX1_init_22 : decode cX1_init 22 = .ok (.newarray .int, 2) := by decide +kernel
theorem dX1_init_24 : decode cX1_init 24 = .ok (.putfield 18, 3) := by decide +kernel
theorem dX1_init_27 : decode cX1_init 27 = .ok (.aload_n 0, 1) := by decide +kernel
theorem dX1_init_28 : decode cX1_init 28 = .ok (.bipush 16, 2) := by decide +kernel
theorem dX1_init_30 : decode cX1_init 30 = .ok (.newarray .int, 2) := by decide +kernel
theorem dX1_init_32 : decode cX1_init 32 = .ok (.putfield 21, 3) := by decide +kernel
theorem dX1_init_35 : decode cX1_init 35 = .ok (.aload_n 0, 1) := by decide +kernel
theorem dX1_init_36 : decode cX1_init 36 = .ok (.iconst 0, 1) := by decide +kernel
theorem dX1_init_37 : decode cX1_init 37 = .ok (.putfield 24, 3) := by decide +kernel
theorem dX1_init_40 : decode cX1_init 40 = .ok (.return_, 1) := by decide +kernel
theorem dX1_copy_0 : decode cX1_copy 0 = .ok (.aload_n 1, 1) := by decide +kernel
theorem dX1_copy_1 : decode cX1_copy 1 = .ok (.getfield 9, 3) := by decide +kernel
theorem dX1_copy_4 : decode cX1_copy 4 = .ok (.iconst 0, 1) := by decide +kernel
theorem dX1_copy_5 : decode cX1_copy 5 = .ok (.aload_n 0, 1) := by decide +kernel
theorem dX1_copy_6 : decode cX1_copy 6 = .ok (.getfield 9, 3) := by decide +kernel
theorem dX1_copy_9 : decode cX1_copy 9 = .ok (.iconst 0, 1) := by decide +kernel
theorem dX1_copy_10 : decode cX1_copy 10 = .ok (.iconst 4, 1) := by decide +kernel
theorem dX1_copy_11 : decode cX1_copy 11 = .ok (.invokestatic 28, 3) := by decide +kernel
theorem dX1_copy_14 : decode cX1_copy 14 = .ok (.aload_n 1, 1) := by decide +kernel
theorem dX1_copy_15 : decode cX1_copy 15 = .ok (.getfield 15, 3) := by decide +kernel
theorem dX1_copy_18 : decode cX1_copy 18 = .ok (.iconst 0, 1) := by decide +kernel
theorem dX1_copy_19 : decode cX1_copy 19 = .ok (.aload_n 0, 1) := by decide +kernel
theorem dX1_copy_20 : decode cX1_copy 20 = .ok (.getfield 15, 3) := by decide +kernel
theorem dX1_copy_23 : decode cX1_copy 23 = .ok (.iconst 0, 1) := by decide +kernel
theorem dX1_copy_24 : decode cX1_copy 24 = .ok (.bipush 16, 2) := by decide +kernel
theorem dX1_copy_26 : decode cX1_copy 26 = .ok (.invokestatic 28, 3) := by decide +kernel
theorem dX1_copy_29 : decode cX1_copy 29 = .ok (.aload_n 1, 1) := by decide +kernel
theorem dX1_copy_30 : decode cX1_copy 30 = .ok (.getfield 18, 3) := by decide +kernel
theorem dX1_copy_33 : decode cX1_copy 33 = .ok (.iconst 0, 1) := by decide +kernel
theorem dX1_copy_34 : decode cX1_copy 34 = .ok (.aload_n 0, 1) := by decide +kernel
theorem dX1_copy_35 : decode cX1_copy 35 = .ok (.getfield 18, 3) := by decide +kernel
theorem dX1_copy_38 : decode cX1_copy 38 = .ok (.iconst 0, 1) := by decide +kernel
theorem dX1_copy_39 : decode cX1_copy 39 = .ok (.bipush 16, 2) := by decide +kernel
theorem dX1_copy_41 : decode cX1_copy 41 = .ok (.invokestatic 28, 3) := by decide +kernel
theorem dX1_copy_44 : decode cX1_copy 44 = .ok (.aload_n 1, 1) := by decide +kernel
theorem dX1_copy_45 : decode cX1_copy 45 = .ok (.getfield 21, 3) := by decide +kernel
theorem dX1_copy_48 : decode cX1_copy 48 = .ok (.iconst 0, 1) := by decide +kernel
theorem dX1_copy_49 : decode cX1_copy 49 = .ok (.aload_n 0, 1) := by decide +kernel
theorem dX1_copy_50 : decode cX1_copy 50 = .ok (.getfield 21, 3) := by decide +kernel
theorem dX1_copy_53 : decode cX1_copy 53 = .ok (.iconst 0, 1) := by decide +kernel
theorem dX1_copy_54 : decode cX1_copy 54 = .ok (.bipush 16, 2) := by decide +kernel
theorem dX1_copy_56 : decode cX1_copy 56 = .ok (.invokestatic 28, 3) := by decide +kernel
theorem dX1_copy_59 : decode cX1_copy 59 = .ok (.aload_n 0, 1) := by decide +kernel
theorem dX1_copy_60 : decode cX1_copy 60 = .ok (.aload_n 1, 1) := by decide +kernel
theorem dX1_copy_61 : decode cX1_copy 61 = .ok (.getfield 24, 3) := by decide +kernel
theorem dX1_copy_64 : decode cX1_copy 64 = .ok (.putfield 24, 3) := by decide +kernel
theorem dX1_copy_67 : decode cX1_copy 67 = .ok (.return_, 1) := by decide +kernel
theorem dX1_add_0 : decode cX1_add 0 = .ok (.aload_n 0, 1) := by decide +kernel
theorem dX1_add_1 : decode cX1_add 1 = .ok (.getfield 15, 3) := by decide +kernel
theorem dX1_add_4 : decode cX1_add 4 = .ok (.aload_n 0, 1) := by decide +kernel
theorem dX1_add_5 : decode cX1_add 5 = .ok (.getfield 24, 3) := by decide +kernel
theorem dX1_add_8 : decode cX1_add 8 = .ok (.iload_n 1, 1) := by decide +kernel
theorem dX1_add_9 : decode cX1_add 9 = .ok (.iastore, 1) := by decide +kernel
theorem dX1_add_10 : decode cX1_add 10 = .ok (.aload_n 0, 1) := by decide +kernel
theorem dX1_add_11 : decode cX1_add 11 = .ok (.getfield 18, 3) := by decide +kernel
theorem dX1_add_14 : decode cX1_add 14 = .ok (.aload_n 0, 1) := by decide +kernel
theorem dX1_add_15 : decode cX1_add 15 = .ok (.getfield 24, 3) := by decide +kernel
theorem dX1_add_18 : decode cX1_add 18 = .ok (.iload_n 2, 1) := by decide +kernel
theorem dX1_add_19 : decode cX1_add 19 = .ok (.iastore, 1) := by decide +kernel
theorem dX1_add_20 : decode cX1_add 20 = .ok (.aload_n 0, 1) := by decide +kernel
theorem dX1_add_21 : decode cX1_add 21 = .ok (.getfield 21, 3) := by decide +kernel
theorem dX1_add_24 : decode cX1_add 24 = .ok (.aload_n 0, 1) := by decide +kernel
theorem dX1_add_25 : decode cX1_add 25 = .ok (.getfield 24, 3) := by decide +kernel
theorem dX1_add_28 : decode cX1_add 28 = .ok (.iload_n 3, 1) := by decide +kernel
theorem dX1_add_29 : decode cX1_add 29 = .ok (.iastore, 1) := by decide +kernel
theorem dX1_add_30 : decode cX1_add 30 = .ok (.aload_n 0, 1) := by decide +kernel
theorem dX1_add_31 : decode cX1_add 31 = .ok (.dup, 1) := by decide +kernel
theorem dX1_add_32 : decode cX1_add 32 = .ok (.getfield 24, 3) := by decide +kernel
theorem dX1_add_35 : decode cX1_add 35 = .ok (.iconst 1, 1) := by decide +kernel
theorem dX1_add_36 : decode cX1_add 36 = .ok (.iadd, 1) := by decide +kernel
theorem dX1_add_37 : decode cX1_add 37 = .ok (.putfield 24, 3) := by decide +kernel
theorem dX1_add_40 : decode cX1_add 40 = .ok (.return_, 1) := by decide +kernel
set_option maxRecDepth 20000 in
theorem ggX2_init_J7_fill_fda19 : GoodIn wsX2_init wsJ7_fill_fda19 := goodIn_r _ [9, 10, 11, 8, 12] (by decide +kernel) (by decide +kernel)
set_option maxRecDepth 20000 in
theorem gX2_init_J7_fill_fda19 : GoodIn wsX2_init (va_wsS RX2 15 yJ7_fill_fda19 wsJ7_fill_fda19) := goodIn_app (goodIn_of _ (by decide +kernel)) ggX2_init_J7_fill_fda19
theorem dX2_init_0 : decode cX2_init 0 = .ok (.aload_n 0, 1) := by decide +kernel
theorem dX2_init_1 : decode cX2_init 1 = .ok (.invokespecial 3, 3) := by decide +kernel
theorem dX2_init_4 : decode cX2_init 4 = .ok (.aload_n 0, 1) := by decide +kernel
theorem dX2_init_5 : decode cX2_init 5 = .ok (.sipush 320, 3) := by decide +kernel
theorem dX2_init_8 : decode cX2_init 8 = .ok (.newarray .int, 2) := by decide +kernel
theorem dX2_init_10 : decode cX2_init 10 = .ok (.putfield 9, 3) := by decide +kernel
theorem dX2_init_13 : decode cX2_init 13 = .ok (.aload_n 0, 1) := by decide +kernel
theorem dX2_init_14 : decode cX2_init 14 = .ok (.getfield 9, 3) := by decide +kernel
theorem dX2_init_17 : decode cX2_init 17 = .ok (.iconst 0, 1) := by decide +kernel
theorem dX2_init_18 : decode cX2_init 18 = .ok (.bipush 64, 2) := by decide +kernel
theorem dX2_init_20 : decode cX2_init 20 = .ok (.bipush 30, 2) := by decide +kernel
theorem dX2_init_22 : decode cX2_init 22 = .ok (.invokestatic 15, 3) := by decide +kernel
theorem dX2_init_25 : decode cX2_init 25 = .ok (.return_, 1) := by decide +kernel
theorem dX2_copy_0 : decode cX2_copy 0 = .ok (.aload_n 1, 1) := by decide +kernel
theorem dX2_copy_1 : decode cX2_copy 1 = .ok (.getfield 9, 3) := by decide +kernel
theorem dX2_copy_4 : decode cX2_copy 4 = .ok (.iconst 0, 1) := by decide +kernel
theorem dX2_copy_5 : decode cX2_copy 5 = .ok (.aload_n 0, 1) := by decide +kernel
theorem dX2_copy_6 : decode cX2_copy 6 = .ok (.getfield 9, 3) := by decide +kernel
theorem dX2_copy_9 : decode cX2_copy 9 = .ok (.iconst 0, 1) := by decide +kernel
theorem dX2_copy_10 : decode cX2_copy 10 = .ok (.aload_n 0, 1) := by decide +kernel
theorem dX2_copy_11 : decode cX2_copy 11 = .ok (.getfield 9, 3) := by decide +kernel
theorem dX2_copy_14 : decode cX2_copy 14 = .ok (.arraylength, 1) := by decide +kernel
theorem dX2_copy_15 : decode cX2_copy 15 = .ok (.invokestatic 21, 3) := by decide +kernel
theorem dX2_copy_18 : decode cX2_copy 18 = .ok (.return_, 1) := by decide +kernel
theorem dX2_trait_0 : decode cX2_trait 0 = .ok (.aload_n 0, 1) := by decide +kernel
theorem dX2_trait_1 : decode cX2_trait 1 = .ok (.getfield 9, 3) := by decide +kernel
theorem dX2_trait_4 : decode cX2_trait 4 = .ok (.iload_n 2, 1) := by decide +kernel
theorem dX2_trait_5 : decode cX2_trait 5 = .ok (.bipush 64, 2) := by decide +kernel
theorem dX2_trait_7 : decode cX2_trait 7 = .ok (.imul, 1) := by decide +kernel
theorem dX2_trait_8 : decode cX2_trait 8 = .ok (.iload_n 1, 1) := by decide +kernel
theorem dX2_trait_9 : decode cX2_trait 9 = .ok (.iadd, 1) := by decide +kernel
theorem dX2_trait_10 : decode cX2_trait 10 = .ok (.iaload, 1) := by decide +kernel
theorem dX2_trait_11 : decode cX2_trait 11 = .ok (.ireturn, 1) := by decide +kernel
theorem dX2_put_0 : decode cX2_put 0 = .ok (.aload_n 0, 1) := by decide +kernel
theorem dX2_put_1 : decode cX2_put 1 = .ok (.getfield 9, 3) := by decide +kernel
theorem dX2_put_4 : decode cX2_put 4 = .ok (.iload_n 2, 1) := by decide +kernel
theorem dX2_put_5 : decode cX2_put 5 = .ok (.bipush 64, 2) := by decide +kernel
theorem dX2_put_7 : decode cX2_put 7 = .ok (.imul, 1) := by decide +kernel
theorem dX2_put_8 : decode cX2_put 8 = .ok (.iload_n 1, 1) := by decide +kernel
theorem dX2_put_9 : decode cX2_put 9 = .ok (.iadd, 1) := by decide +kernel
theorem dX2_put_10 : decode cX2_put 10 = .ok (.iload_n 3, 1) := by decide +kernel
theorem dX2_put_11 : decode cX2_put 11 = .ok (.iastore, 1) := by decide +kernel
theorem dX2_put_12 : decode cX2_put 12 = .ok (.return_, 1) := by decide +kernel
set_option maxRecDepth 20000 in
theorem ggX2_total_X2_trait : GoodIn wsX2_total wsX2_trait := goodIn_r _ [5, 6, 7] (by decide +kernel) (by decide +kernel)
set_option maxRecDepth 20000 in
theorem gX2_total_X2_trait : GoodIn wsX2_total (wsV RX2 27 RX2 yX2_trait wsX2_trait) := goodIn_app (goodIn_of _ (by decide +kernel)) ggX2_total_X2_trait
theorem dX2_total_0 : decode cX2_total 0 = .ok (.iconst 0, 1) := by decide +kernel
theorem dX2_total_1 : decode cX2_total 1 = .ok (.istore_n 2, 1) := by decide +kernel
theorem dX2_total_2 : decode cX2_total 2 = .ok (.iconst 0, 1) := by decide +kernel
theorem dX2_total_3 : decode cX2_total 3 = .ok (.istore_n 3, 1) := by decide +kernel
theorem dX2_total_4 : decode cX2_total 4 = .ok (.iload_n 3, 1) := by decide +kernel
theorem dX2_total_5 : decode cX2_total 5 = .ok (.bipush 64, 2) := by decide +kernel
theorem dX2_total_7 : decode cX2_total 7 = .ok (.if_icmp .ge 18, 3) := by decide +kernel
theorem dX2_total_10 : decode cX2_total 10 = .ok (.iload_n 2, 1) := by decide +kernel
theorem dX2_total_11 : decode cX2_total 11 = .ok (.aload_n 0, 1) := by decide +kernel
theorem dX2_total_12 : decode cX2_total 12 = .ok (.iload_n 3, 1) := by decide +kernel
theorem dX2_total_13 : decode cX2_total 13 = .ok (.iload_n 1, 1) := by decide +kernel
theorem dX2_total_14 : decode cX2_total 14 = .ok (.invokevirtual 27, 3) := by decide +kernel
theorem dX2_total_17 : decode cX2_total 17 = .ok (.iadd, 1) := by decide +kernel
theorem dX2_total_18 : decode cX2_total 18 = .ok (.istore_n 2, 1) := by decide +kernel
theorem dX2_total_19 : decode cX2_total 19 = .ok (.iinc 3 1, 3) := by decide +kernel
theorem dX2_total_22 : decode cX2_total 22 = .ok (.goto (-18), 3) := by decide +kernel
theorem dX2_total_25 : decode cX2_total 25 = .ok (.iload_n 2, 1) := by decide +kernel
theorem dX2_total_26 : decode cX2_total 26 = .ok (.ireturn, 1) := by decide +kernel
set_option maxRecDepth 20000 in
theorem ggX2_bareBearing_X2_trait : GoodIn wsX2_bareBearing wsX2_trait := goodIn_r _ [5, 6, 7] (by decide +kernel) (by decide +kernel)
set_option maxRecDepth 20000 in
theorem gX2_bareBearing_X2_trait : GoodIn wsX2_bareBearing (wsV RX2 27 RX2 yX2_trait wsX2_trait) := goodIn_app (goodIn_of _ (by decide +kernel)) ggX2_bareBearing_X2_trait
theorem dX2_bareBearing_0 : decode cX2_bareBearing 0 = .ok (.iload_n 2, 1) := by decide +kernel
theorem dX2_bareBearing_1 : decode cX2_bareBearing 1 = .ok (.iload_n 2, 1) := by decide +kernel
theorem dX2_bareBearing_2 : decode cX2_bareBearing 2 = .ok (.imul, 1) := by decide +kernel
theorem dX2_bareBearing_3 : decode cX2_bareBearing 3 = .ok (.getstatic 31, 3) := by decide +kernel
theorem dX2_bareBearing_6 : decode cX2_bareBearing 6 = .ok (.aload_n 0, 1) := by decide +kernel
theorem dX2_bareBearing_7 : decode cX2_bareBearing 7 = .ok (.iload_n 1, 1) := by decide +kernel
theorem dX2_bareBearing_8 : decode cX2_bareBearing 8 = .ok (.iconst 1, 1) := by decide +kernel
theorem dX2_bareBearing_9 : decode cX2_bareBearing 9 = .ok (.invokevirtual 27, 3) := by decide +kernel
theorem dX2_bareBearing_12 : decode cX2_bareBearing 12 = .ok (.iaload, 1) := by decide +kernel
theorem dX2_bareBearing_13 : decode cX2_bareBearing 13 = .ok (.imul, 1) := by decide +kernel
theorem dX2_bareBearing_14 : decode cX2_bareBearing 14 = .ok (.bipush 80, 2) := by decide +kernel
theorem dX2_bareBearing_16 : decode cX2_bareBearing 16 = .ok (.idiv, 1) := by decide +kernel
theorem dX2_bareBearing_17 : decode cX2_bareBearing 17 = .ok (.ireturn, 1) := by decide +kernel
set_option maxRecDepth 20000 in
theorem ggX2_bearingAt_X2_bareBearing : GoodIn wsX2_bearingAt wsX2_bareBearing := goodIn_r _ [5, 6, 7, 8, 4, 9, 10, 11] (by decide +kernel) (by decide +kernel)
set_option maxRecDepth 20000 in
theorem gX2_bearingAt_X2_bareBearing : GoodIn wsX2_bearingAt (wsV RX2 34 RX2 yX2_bareBearing wsX2_bareBearing) := goodIn_app (goodIn_of _ (by decide +kernel)) ggX2_bearingAt_X2_bareBearing
set_option maxRecDepth 20000 in
theorem ggX2_bearingAt_X2_trait : GoodIn wsX2_bearingAt wsX2_trait := goodIn_r _ [9, 10, 11] (by decide +kernel) (by decide +kernel)
set_option maxRecDepth 20000 in
theorem gX2_bearingAt_X2_trait : GoodIn wsX2_bearingAt (wsV RX2 27 RX2 yX2_trait wsX2_trait) := goodIn_app (goodIn_of _ (by decide +kernel)) ggX2_bearingAt_X2_trait
theorem dX2_bearingAt_0 : decode cX2_bearingAt 0 = .ok (.aload_n 0, 1) := by decide +kernel
theorem dX2_bearingAt_1 : decode cX2_bearingAt 1 = .ok (.iload_n 1, 1) := by decide +kernel
theorem dX2_bearingAt_2 : decode cX2_bearingAt 2 = .ok (.iload_n 2, 1) := by decide +kernel
theorem dX2_bearingAt_3 : decode cX2_bearingAt 3 = .ok (.invokevirtual 34, 3) := by decide +kernel
theorem dX2_bearingAt_6 : decode cX2_bearingAt 6 = .ok (.bipush 60, 2) := by decide +kernel
theorem dX2_bearingAt_8 : decode cX2_bearingAt 8 = .ok (.aload_n 0, 1) := by decide +kernel
theorem dX2_bearingAt_9 : decode cX2_bearingAt 9 = .ok (.iload_n 1, 1) := by decide +kernel
theorem dX2_bearingAt_10 : decode cX2_bearingAt 10 = .ok (.iconst 4, 1) := by decide +kernel
theorem dX2_bearingAt_11 : decode cX2_bearingAt 11 = .ok (.invokevirtual 27, 3) := by decide +kernel
theorem dX2_bearingAt_14 : decode cX2_bearingAt 14 = .ok (.imul, 1) := by decide +kernel
theorem dX2_bearingAt_15 : decode cX2_bearingAt 15 = .ok (.iadd, 1) := by decide +kernel
theorem dX2_bearingAt_16 : decode cX2_bearingAt 16 = .ok (.ireturn, 1) := by decide +kernel
set_option maxRecDepth 20000 in
theorem ggX2_bearing_X2_trait : GoodIn wsX2_bearing wsX2_trait := goodIn_r _ [5, 6, 15] (by decide +kernel) (by decide +kernel)
set_option maxRecDepth 20000 in
theorem gX2_bearing_X2_trait : GoodIn wsX2_bearing (wsV RX2 27 RX2 yX2_trait wsX2_trait) := goodIn_app (goodIn_of _ (by decide +kernel)) ggX2_bearing_X2_trait
set_option maxRecDepth 20000 in
theorem ggX2_bearing_X2_bearingAt : GoodIn wsX2_bearing wsX2_bearingAt := goodIn_r _ [10, 11, 12, 13, 4, 14, 1, 2, 3, 5, 6, 15] (by decide +kernel) (by decide +kernel)
set_option maxRecDepth 20000 in
theorem gX2_bearing_X2_bearingAt : GoodIn wsX2_bearing (wsV RX2 37 RX2 yX2_bearingAt wsX2_bearingAt) := goodIn_app (goodIn_of _ (by decide +kernel)) ggX2_bearing_X2_bearingAt
theorem dX2_bearing_0 : decode cX2_bearing 0 = .ok (.aload_n 0, 1) := by decide +kernel
theorem dX2_bearing_1 : decode cX2_bearing 1 = .ok (.iload_n 1, 1) := by decide +kernel
theorem dX2_bearing_2 : decode cX2_bearing 2 = .ok (.aload_n 0, 1) := by decide +kernel
theorem dX2_bearing_3 : decode cX2_bearing 3 = .ok (.iload_n 1, 1) := by decide +kernel
theorem dX2_bearing_4 : decode cX2_bearing 4 = .ok (.iconst 0, 1) := by decide +kernel
theorem dX2_bearing_5 : decode cX2_bearing 5 = .ok (.invokevirtual 27, 3) := by decide +kernel
theorem dX2_bearing_8 : decode cX2_bearing 8 = .ok (.invokevirtual 37, 3) := by decide +kernel
theorem dX2_bearing_11 : decode cX2_bearing 11 = .ok (.ireturn, 1) := by decide +kernel
set_option maxRecDepth 20000 in
theorem ggX2_pitch_X2_trait : GoodIn wsX2_pitch wsX2_trait := goodIn_r _ [5, 6, 7] (by decide +kernel) (by decide +kernel)
set_option maxRecDepth 20000 in
theorem gX2_pitch_X2_trait : GoodIn wsX2_pitch (wsV RX2 27 RX2 yX2_trait wsX2_trait) := goodIn_app (goodIn_of _ (by decide +kernel)) ggX2_pitch_X2_trait
theorem dX2_pitch_0 : decode cX2_pitch 0 = .ok (.aload_n 0, 1) := by decide +kernel
theorem dX2_pitch_1 : decode cX2_pitch 1 = .ok (.iload_n 1, 1) := by decide +kernel
theorem dX2_pitch_2 : decode cX2_pitch 2 = .ok (.iconst 0, 1) := by decide +kernel
theorem dX2_pitch_3 : decode cX2_pitch 3 = .ok (.invokevirtual 27, 3) := by decide +kernel
theorem dX2_pitch_6 : decode cX2_pitch 6 = .ok (.istore_n 2, 1) := by decide +kernel
theorem dX2_pitch_7 : decode cX2_pitch 7 = .ok (.iload_n 2, 1) := by decide +kernel
theorem dX2_pitch_8 : decode cX2_pitch 8 = .ok (.ifCond .le 21, 3) := by decide +kernel
theorem dX2_pitch_11 : decode cX2_pitch 11 = .ok (.sipush 9000, 3) := by decide +kernel
theorem dX2_pitch_14 : decode cX2_pitch 14 = .ok (.iload_n 2, 1) := by decide +kernel
theorem dX2_pitch_15 : decode cX2_pitch 15 = .ok (.idiv, 1) := by decide +kernel
theorem dX2_pitch_16 : decode cX2_pitch 16 = .ok (.bipush 7, 2) := by decide +kernel
theorem dX2_pitch_18 : decode cX2_pitch 18 = .ok (.aload_n 0, 1) := by decide +kernel
theorem dX2_pitch_19 : decode cX2_pitch 19 = .ok (.iload_n 1, 1) := by decide +kernel
theorem dX2_pitch_20 : decode cX2_pitch 20 = .ok (.iconst 1, 1) := by decide +kernel
theorem dX2_pitch_21 : decode cX2_pitch 21 = .ok (.invokevirtual 27, 3) := by decide +kernel
theorem dX2_pitch_24 : decode cX2_pitch 24 = .ok (.imul, 1) := by decide +kernel
theorem dX2_pitch_25 : decode cX2_pitch 25 = .ok (.iadd, 1) := by decide +kernel
theorem dX2_pitch_26 : decode cX2_pitch 26 = .ok (.goto 5, 3) := by decide +kernel
theorem dX2_pitch_29 : decode cX2_pitch 29 = .ok (.bipush (-4), 2) := by decide +kernel
theorem dX2_pitch_31 : decode cX2_pitch 31 = .ok (.ireturn, 1) := by decide +kernel
set_option maxRecDepth 20000 in
theorem ggX2_freeze_X2_trait : GoodIn wsX2_freeze wsX2_trait := goodIn_r _ [12, 13, 18] (by decide +kernel) (by decide +kernel)
set_option maxRecDepth 20000 in
theorem gX2_freeze_X2_trait : GoodIn wsX2_freeze (wsV RX2 27 RX2 yX2_trait wsX2_trait) := goodIn_app (goodIn_of _ (by decide +kernel)) ggX2_freeze_X2_trait
set_option maxRecDepth 20000 in
theorem ggX2_freeze_X2_put : GoodIn wsX2_freeze wsX2_put := goodIn_r _ [17, 13, 18] (by decide +kernel) (by decide +kernel)
set_option maxRecDepth 20000 in
theorem gX2_freeze_X2_put : GoodIn wsX2_freeze (wsV RX2 48 RX2 yX2_put wsX2_put) := goodIn_app (goodIn_of _ (by decide +kernel)) ggX2_freeze_X2_put
theorem dX2_freeze_0 : decode cX2_freeze 0 = .ok (.iconst 0, 1) := by decide +kernel
theorem dX2_freeze_1 : decode cX2_freeze 1 = .ok (.istore_n 2, 1) := by decide +kernel
theorem dX2_freeze_2 : decode cX2_freeze 2 = .ok (.iload_n 2, 1) := by decide +kernel
theorem dX2_freeze_3 : decode cX2_freeze 3 = .ok (.bipush 64, 2) := by decide +kernel
theorem dX2_freeze_5 : decode cX2_freeze 5 = .ok (.if_icmp .ge 80, 3) := by decide +kernel
theorem dX2_freeze_8 : decode cX2_freeze 8 = .ok (.aload_n 0, 1) := by decide +kernel
theorem dX2_freeze_9 : decode cX2_freeze 9 = .ok (.iload_n 2, 1) := by decide +kernel
theorem dX2_freeze_10 : decode cX2_freeze 10 = .ok (.iconst 0, 1) := by decide +kernel
theorem dX2_freeze_11 : decode cX2_freeze 11 = .ok (.invokevirtual 27, 3) := by decide +kernel
theorem dX2_freeze_14 : decode cX2_freeze 14 = .ok (.istore_n 3, 1) := by decide +kernel
theorem dX2_freeze_15 : decode cX2_freeze 15 = .ok (.iload_n 3, 1) := by decide +kernel
theorem dX2_freeze_16 : decode cX2_freeze 16 = .ok (.iload_n 1, 1) := by decide +kernel
theorem dX2_freeze_17 : decode cX2_freeze 17 = .ok (.bipush 10, 2) := by decide +kernel
theorem dX2_freeze_19 : decode cX2_freeze 19 = .ok (.aload_n 0, 1) := by decide +kernel
theorem dX2_freeze_20 : decode cX2_freeze 20 = .ok (.iload_n 2, 1) := by decide +kernel
theorem dX2_freeze_21 : decode cX2_freeze 21 = .ok (.iconst 2, 1) := by decide +kernel
theorem dX2_freeze_22 : decode cX2_freeze 22 = .ok (.invokevirtual 27, 3) := by decide +kernel
theorem dX2_freeze_25 : decode cX2_freeze 25 = .ok (.isub, 1) := by decide +kernel
theorem dX2_freeze_26 : decode cX2_freeze 26 = .ok (.imul, 1) := by decide +kernel
theorem dX2_freeze_27 : decode cX2_freeze 27 = .ok (.bipush 10, 2) := by decide +kernel
theorem dX2_freeze_29 : decode cX2_freeze 29 = .ok (.idiv, 1) := by decide +kernel
theorem dX2_freeze_30 : decode cX2_freeze 30 = .ok (.iadd, 1) := by decide +kernel
theorem dX2_freeze_31 : decode cX2_freeze 31 = .ok (.iconst 3, 1) := by decide +kernel
theorem dX2_freeze_32 : decode cX2_freeze 32 = .ok (.aload_n 0, 1) := by decide +kernel
theorem dX2_freeze_33 : decode cX2_freeze 33 = .ok (.iload_n 2, 1) := by decide +kernel
theorem dX2_freeze_34 : decode cX2_freeze 34 = .ok (.iconst 3, 1) := by decide +kernel
theorem dX2_freeze_35 : decode cX2_freeze 35 = .ok (.invokevirtual 27, 3) := by decide +kernel
theorem dX2_freeze_38 : decode cX2_freeze 38 = .ok (.imul, 1) := by decide +kernel
theorem dX2_freeze_39 : decode cX2_freeze 39 = .ok (.isub, 1) := by decide +kernel
theorem dX2_freeze_40 : decode cX2_freeze 40 = .ok (.istore 4, 2) := by decide +kernel
theorem dX2_freeze_42 : decode cX2_freeze 42 = .ok (.iconst 0, 1) := by decide +kernel
theorem dX2_freeze_43 : decode cX2_freeze 43 = .ok (.bipush 99, 2) := by decide +kernel
theorem dX2_freeze_45 : decode cX2_freeze 45 = .ok (.iload 4, 2) := by decide +kernel
theorem dX2_freeze_47 : decode cX2_freeze 47 = .ok (.invokestatic 40, 3) := by decide +kernel
theorem dX2_freeze_50 : decode cX2_freeze 50 = .ok (.invokestatic 45, 3) := by decide +kernel
theorem dX2_freeze_53 : decode cX2_freeze 53 = .ok (.istore 5, 2) := by decide +kernel
theorem dX2_freeze_55 : decode cX2_freeze 55 = .ok (.aload_n 0, 1) := by decide +kernel
theorem dX2_freeze_56 : decode cX2_freeze 56 = .ok (.iload_n 2, 1) := by decide +kernel
theorem dX2_freeze_57 : decode cX2_freeze 57 = .ok (.iconst 0, 1) := by decide +kernel
theorem dX2_freeze_58 : decode cX2_freeze 58 = .ok (.iload 5, 2) := by decide +kernel
theorem dX2_freeze_60 : decode cX2_freeze 60 = .ok (.invokevirtual 48, 3) := by decide +kernel
theorem dX2_freeze_63 : decode cX2_freeze 63 = .ok (.iload_n 3, 1) := by decide +kernel
theorem dX2_freeze_64 : decode cX2_freeze 64 = .ok (.ifCond .ne 15, 3) := by decide +kernel
theorem dX2_freeze_67 : decode cX2_freeze 67 = .ok (.iload 5, 2) := by decide +kernel
theorem dX2_freeze_69 : decode cX2_freeze 69 = .ok (.ifCond .le 10, 3) := by decide +kernel
theorem dX2_freeze_72 : decode cX2_freeze 72 = .ok (.aload_n 0, 1) := by decide +kernel
theorem dX2_freeze_73 : decode cX2_freeze 73 = .ok (.iload_n 2, 1) := by decide +kernel
theorem dX2_freeze_74 : decode cX2_freeze 74 = .ok (.iconst 1, 1) := by decide +kernel
theorem dX2_freeze_75 : decode cX2_freeze 75 = .ok (.iconst 0, 1) := by decide +kernel
theorem dX2_freeze_76 : decode cX2_freeze 76 = .ok (.invokevirtual 48, 3) := by decide +kernel
theorem dX2_freeze_79 : decode cX2_freeze 79 = .ok (.iinc 2 1, 3) := by decide +kernel
theorem dX2_freeze_82 : decode cX2_freeze 82 = .ok (.goto (-80), 3) := by decide +kernel
theorem dX2_freeze_85 : decode cX2_freeze 85 = .ok (.return_, 1) := by decide +kernel
set_option maxRecDepth 20000 in
theorem ggX2_thinnerThan_X2_trait : GoodIn wsX2_thinnerThan wsX2_trait := goodIn_r _ [5, 6, 7] (by decide +kernel) (by decide +kernel)
set_option maxRecDepth 20000 in
theorem gX2_thinnerThan_X2_trait : GoodIn wsX2_thinnerThan (wsV RX2 27 RX2 yX2_trait wsX2_trait) := goodIn_app (goodIn_of _ (by decide +kernel)) ggX2_thinnerThan_X2_trait
theorem dX2_thinnerThan_0 : decode cX2_thinnerThan 0 = .ok (.lconst 0, 1) := by decide +kernel
theorem dX2_thinnerThan_1 : decode cX2_thinnerThan 1 = .ok (.lstore_n 2, 1) := by decide +kernel
theorem dX2_thinnerThan_2 : decode cX2_thinnerThan 2 = .ok (.iconst 0, 1) := by decide +kernel
theorem dX2_thinnerThan_3 : decode cX2_thinnerThan 3 = .ok (.istore 4, 2) := by decide +kernel
theorem dX2_thinnerThan_5 : decode cX2_thinnerThan 5 = .ok (.iload 4, 2) := by decide +kernel
theorem dX2_thinnerThan_7 : decode cX2_thinnerThan 7 = .ok (.bipush 64, 2) := by decide +kernel
theorem dX2_thinnerThan_9 : decode cX2_thinnerThan 9 = .ok (.if_icmp .ge 27, 3) := by decide +kernel
theorem dX2_thinnerThan_12 : decode cX2_thinnerThan 12 = .ok (.aload_n 0, 1) := by decide +kernel
theorem dX2_thinnerThan_13 : decode cX2_thinnerThan 13 = .ok (.iload 4, 2) := by decide +kernel
theorem dX2_thinnerThan_15 : decode cX2_thinnerThan 15 = .ok (.iconst 0, 1) := by decide +kernel
theorem dX2_thinnerThan_16 : decode cX2_thinnerThan 16 = .ok (.invokevirtual 27, 3) := by decide +kernel
theorem dX2_thinnerThan_19 : decode cX2_thinnerThan 19 = .ok (.iload_n 1, 1) := by decide +kernel
theorem dX2_thinnerThan_20 : decode cX2_thinnerThan 20 = .ok (.if_icmp .ge 10, 3) := by decide +kernel
theorem dX2_thinnerThan_23 : decode cX2_thinnerThan 23 = .ok (.lload_n 2, 1) := by decide +kernel
theorem dX2_thinnerThan_24 : decode cX2_thinnerThan 24 = .ok (.lconst 1, 1) := by decide +kernel
theorem dX2_thinnerThan_25 : decode cX2_thinnerThan 25 = .ok (.iload 4, 2) := by decide +kernel
theorem dX2_thinnerThan_27 : decode cX2_thinnerThan 27 = .ok (.lshl, 1) := by decide +kernel
theorem dX2_thinnerThan_28 : decode cX2_thinnerThan 28 = .ok (.lor, 1) := by decide +kernel
theorem dX2_thinnerThan_29 : decode cX2_thinnerThan 29 = .ok (.lstore_n 2, 1) := by decide +kernel
theorem dX2_thinnerThan_30 : decode cX2_thinnerThan 30 = .ok (.iinc 4 1, 3) := by decide +kernel
theorem dX2_thinnerThan_33 : decode cX2_thinnerThan 33 = .ok (.goto (-28), 3) := by decide +kernel
theorem dX2_thinnerThan_36 : decode cX2_thinnerThan 36 = .ok (.lload_n 2, 1) := by decide +kernel
theorem dX2_thinnerThan_37 : decode cX2_thinnerThan 37 = .ok (.lreturn, 1) := by decide +kernel
set_option maxRecDepth 20000 in
theorem ggX2_melt_X2_put : GoodIn wsX2_melt wsX2_put := goodIn_r _ [5, 6, 7] (by decide +kernel) (by decide +kernel)
set_option maxRecDepth 20000 in
theorem gX2_melt_X2_put : GoodIn wsX2_melt (wsV RX2 48 RX2 yX2_put wsX2_put) := goodIn_app (goodIn_of _ (by decide +kernel)) ggX2_melt_X2_put
theorem dX2_melt_0 : decode cX2_melt 0 = .ok (.iconst 0, 1) := by decide +kernel
theorem dX2_melt_1 : decode cX2_melt 1 = .ok (.istore_n 3, 1) := by decide +kernel
theorem dX2_melt_2 : decode cX2_melt 2 = .ok (.iload_n 3, 1) := by decide +kernel
theorem dX2_melt_3 : decode cX2_melt 3 = .ok (.bipush 64, 2) := by decide +kernel
theorem dX2_melt_5 : decode cX2_melt 5 = .ok (.if_icmp .ge 26, 3) := by decide +kernel
theorem dX2_melt_8 : decode cX2_melt 8 = .ok (.lload_n 1, 1) := by decide +kernel
theorem dX2_melt_9 : decode cX2_melt 9 = .ok (.iload_n 3, 1) := by decide +kernel
theorem dX2_melt_10 : decode cX2_melt 10 = .ok (.lushr, 1) := by decide +kernel
theorem dX2_melt_11 : decode cX2_melt 11 = .ok (.lconst 1, 1) := by decide +kernel
theorem dX2_melt_12 : decode cX2_melt 12 = .ok (.land, 1) := by decide +kernel
theorem dX2_melt_13 : decode cX2_melt 13 = .ok (.lconst 0, 1) := by decide +kernel
theorem dX2_melt_14 : decode cX2_melt 14 = .ok (.lcmp, 1) := by decide +kernel
theorem dX2_melt_15 : decode cX2_melt 15 = .ok (.ifCond .eq 10, 3) := by decide +kernel
theorem dX2_melt_18 : decode cX2_melt 18 = .ok (.aload_n 0, 1) := by decide +kernel
theorem dX2_melt_19 : decode cX2_melt 19 = .ok (.iload_n 3, 1) := by decide +kernel
theorem dX2_melt_20 : decode cX2_melt 20 = .ok (.iconst 0, 1) := by decide +kernel
theorem dX2_melt_21 : decode cX2_melt 21 = .ok (.iconst 0, 1) := by decide +kernel
theorem dX2_melt_22 : decode cX2_melt 22 = .ok (.invokevirtual 48, 3) := by decide +kernel
theorem dX2_melt_25 : decode cX2_melt 25 = .ok (.iinc 3 1, 3) := by decide +kernel
theorem dX2_melt_28 : decode cX2_melt 28 = .ok (.goto (-26), 3) := by decide +kernel
theorem dX2_melt_31 : decode cX2_melt 31 = .ok (.return_, 1) := by decide +kernel
theorem dX3_init_0 : decode cX3_init 0 = .ok (.aload_n 0, 1) := by decide +kernel
theorem dX3_init_1 : decode cX3_init 1 = .ok (.invokespecial 3, 3) := by decide +kernel
theorem dX3_init_4 : decode cX3_init 4 = .ok (.aload_n 0, 1) := by decide +kernel
theorem dX3_init_5 : decode cX3_init 5 = .ok (.bipush 64, 2) := by decide +kernel
theorem dX3_init_7 : decode cX3_init 7 = .ok (.newarray .int, 2) := by decide +kernel
theorem dX3_init_9 : decode cX3_init 9 = .ok (.putfield 9, 3) := by decide +kernel
theorem dX3_init_12 : decode cX3_init 12 = .ok (.aload_n 0, 1) := by decide +kernel
theorem dX3_init_13 : decode cX3_init 13 = .ok (.bipush 64, 2) := by decide +kernel
theorem dX3_init_15 : decode cX3_init 15 = .ok (.newarray .int, 2) := by decide +kernel
theorem dX3_init_17 : decode cX3_init 17 = .ok (.putfield 15, 3) := by decide +kernel
theorem dX3_init_20 : decode cX3_init 20 = .ok (.aload_n 0, 1) := by decide +kernel
theorem dX3_init_21 : decode cX3_init 21 = .ok (.bipush 64, 2) := by decide +kernel
theorem dX3_init_23 : decode cX3_init 23 = .ok (.newarray .int, 2) := by decide +kernel
theorem dX3_init_25 : decode cX3_init 25 = .ok (.putfield 18, 3) := by decide +kernel
theorem dX3_init_28 : decode cX3_init 28 = .ok (.aload_n 0, 1) := by decide +kernel
theorem dX3_init_29 : decode cX3_init 29 = .ok (.sipush 128, 3) := by decide +kernel
theorem dX3_init_32 : decode cX3_init 32 = .ok (.newarray .int, 2) := by decide +kernel
theorem dX3_init_34 : decode cX3_init 34 = .ok (.putfield 21, 3) := by decide +kernel
theorem dX3_init_37 : decode cX3_init 37 = .ok (.return_, 1) := by decide +kernel
set_option maxRecDepth 20000 in
theorem ggX3_weigh_X2_bearing : GoodIn wsX3_weigh wsX2_bearing := goodIn_r _ [6, 7, 8, 9, 5, 10, 11, 12, 13, 14, 15, 16, 17, 18, 19, 24] (by decide +kernel) (by decide +kernel)
set_option maxRecDepth 20000 in
theorem gX3_weigh_X2_bearing : GoodIn wsX3_weigh (wsV RX3 24 RX2 yX2_bearing wsX2_bearing) := goodIn_app (goodIn_of _ (by decide +kernel)) ggX3_weigh_X2_bearing
theorem dX3_weigh_0 : decode cX3_weigh 0 = .ok (.iconst 0, 1) := by decide +kernel
theorem dX3_weigh_1 : decode cX3_weigh 1 = .ok (.istore_n 2, 1) := by decide +kernel
theorem dX3_weigh_2 : decode cX3_weigh 2 = .ok (.iload_n 2, 1) := by decide +kernel
theorem dX3_weigh_3 : decode cX3_weigh 3 = .ok (.bipush 64, 2) := by decide +kernel
theorem dX3_weigh_5 : decode cX3_weigh 5 = .ok (.if_icmp .ge 20, 3) := by decide +kernel
theorem dX3_weigh_8 : decode cX3_weigh 8 = .ok (.aload_n 0, 1) := by decide +kernel
theorem dX3_weigh_9 : decode cX3_weigh 9 = .ok (.getfield 9, 3) := by decide +kernel
theorem dX3_weigh_12 : decode cX3_weigh 12 = .ok (.iload_n 2, 1) := by decide +kernel
theorem dX3_weigh_13 : decode cX3_weigh 13 = .ok (.aload_n 1, 1) := by decide +kernel
theorem dX3_weigh_14 : decode cX3_weigh 14 = .ok (.iload_n 2, 1) := by decide +kernel
theorem dX3_weigh_15 : decode cX3_weigh 15 = .ok (.invokevirtual 24, 3) := by decide +kernel
theorem dX3_weigh_18 : decode cX3_weigh 18 = .ok (.iastore, 1) := by decide +kernel
theorem dX3_weigh_19 : decode cX3_weigh 19 = .ok (.iinc 2 1, 3) := by decide +kernel
theorem dX3_weigh_22 : decode cX3_weigh 22 = .ok (.goto (-20), 3) := by decide +kernel
theorem dX3_weigh_25 : decode cX3_weigh 25 = .ok (.return_, 1) := by decide +kernel
set_option maxRecDepth 20000 in
theorem ggX3_weighAt_X2_bearingAt : GoodIn wsX3_weighAt wsX2_bearingAt := goodIn_r _ [6, 7, 8, 9, 5, 10, 11, 12, 13, 14, 15, 20] (by decide +kernel) (by decide +kernel)
set_option maxRecDepth 20000 in
theorem gX3_weighAt_X2_bearingAt : GoodIn wsX3_weighAt (wsV RX3 30 RX2 yX2_bearingAt wsX2_bearingAt) := goodIn_app (goodIn_of _ (by decide +kernel)) ggX3_weighAt_X2_bearingAt
theorem dX3_weighAt_0 : decode cX3_weighAt 0 = .ok (.iconst 0, 1) := by decide +kernel
theorem dX3_weighAt_1 : decode cX3_weighAt 1 = .ok (.istore_n 3, 1) := by decide +kernel
theorem dX3_weighAt_2 : decode cX3_weighAt 2 = .ok (.iload_n 3, 1) := by decide +kernel
theorem dX3_weighAt_3 : decode cX3_weighAt 3 = .ok (.bipush 64, 2) := by decide +kernel
theorem dX3_weighAt_5 : decode cX3_weighAt 5 = .ok (.if_icmp .ge 23, 3) := by decide +kernel
theorem dX3_weighAt_8 : decode cX3_weighAt 8 = .ok (.aload_n 0, 1) := by decide +kernel
theorem dX3_weighAt_9 : decode cX3_weighAt 9 = .ok (.getfield 9, 3) := by decide +kernel
theorem dX3_weighAt_12 : decode cX3_weighAt 12 = .ok (.iload_n 3, 1) := by decide +kernel
theorem dX3_weighAt_13 : decode cX3_weighAt 13 = .ok (.aload_n 1, 1) := by decide +kernel
theorem dX3_weighAt_14 : decode cX3_weighAt 14 = .ok (.iload_n 3, 1) := by decide +kernel
theorem dX3_weighAt_15 : decode cX3_weighAt 15 = .ok (.aload_n 2, 1) := by decide +kernel
theorem dX3_weighAt_16 : decode cX3_weighAt 16 = .ok (.iload_n 3, 1) := by decide +kernel
theorem dX3_weighAt_17 : decode cX3_weighAt 17 = .ok (.iaload, 1) := by decide +kernel
theorem dX3_weighAt_18 : decode cX3_weighAt 18 = .ok (.invokevirtual 30, 3) := by decide +kernel
theorem dX3_weighAt_21 : decode cX3_weighAt 21 = .ok (.iastore, 1) := by decide +kernel
theorem dX3_weighAt_22 : decode cX3_weighAt 22 = .ok (.iinc 3 1, 3) := by decide +kernel
theorem dX3_weighAt_25 : decode cX3_weighAt 25 = .ok (.goto (-23), 3) := by decide +kernel
theorem dX3_weighAt_28 : decode cX3_weighAt 28 = .ok (.return_, 1) := by decide +kernel
set_option maxRecDepth 20000 in
theorem ggX3_length_X3_spread : GoodIn wsX3_length wsX3_spread := goodIn_r _ [8, 3, 1, 9, 10, 11, 12, 13, 14, 15, 16, 17, 18, 19, 20] (by decide +kernel) (by decide +kernel)
set_option maxRecDepth 20000 in
theorem gX3_length_X3_spread : GoodIn wsX3_length (wsV RX3 34 RX3 yX3_spread wsX3_spread) := goodIn_app (goodIn_of _ (by decide +kernel)) ggX3_length_X3_spread
theorem dX3_length_0 : decode cX3_length 0 = .ok (.iconst 0, 1) := by decide +kernel
theorem dX3_length_1 : decode cX3_length 1 = .ok (.istore 4, 2) := by decide +kernel
theorem dX3_length_3 : decode cX3_length 3 = .ok (.iload 4, 2) := by decide +kernel
theorem dX3_length_5 : decode cX3_length 5 = .ok (.bipush 64, 2) := by decide +kernel
theorem dX3_length_7 : decode cX3_length 7 = .ok (.if_icmp .ge 32, 3) := by decide +kernel
theorem dX3_length_10 : decode cX3_length 10 = .ok (.aload_n 0, 1) := by decide +kernel
theorem dX3_length_11 : decode cX3_length 11 = .ok (.getfield 15, 3) := by decide +kernel
theorem dX3_length_14 : decode cX3_length 14 = .ok (.iload 4, 2) := by decide +kernel
theorem dX3_length_16 : decode cX3_length 16 = .ok (.aload_n 0, 1) := by decide +kernel
theorem dX3_length_17 : decode cX3_length 17 = .ok (.getfield 9, 3) := by decide +kernel
theorem dX3_length_20 : decode cX3_length 20 = .ok (.iload 4, 2) := by decide +kernel
theorem dX3_length_22 : decode cX3_length 22 = .ok (.iaload, 1) := by decide +kernel
theorem dX3_length_23 : decode cX3_length 23 = .ok (.iload_n 3, 1) := by decide +kernel
theorem dX3_length_24 : decode cX3_length 24 = .ok (.if_icmp .lt 7, 3) := by decide +kernel
theorem dX3_length_27 : decode cX3_length 27 = .ok (.iconst 1, 1) := by decide +kernel
theorem dX3_length_28 : decode cX3_length 28 = .ok (.goto 4, 3) := by decide +kernel
theorem dX3_length_31 : decode cX3_length 31 = .ok (.iconst (-1), 1) := by decide +kernel
theorem dX3_length_32 : decode cX3_length 32 = .ok (.iastore, 1) := by decide +kernel
theorem dX3_length_33 : decode cX3_length 33 = .ok (.iinc 4 1, 3) := by decide +kernel
theorem dX3_length_36 : decode cX3_length 36 = .ok (.goto (-33), 3) := by decide +kernel
theorem dX3_length_39 : decode cX3_length 39 = .ok (.aload_n 0, 1) := by decide +kernel
theorem dX3_length_40 : decode cX3_length 40 = .ok (.iload_n 2, 1) := by decide +kernel
theorem dX3_length_41 : decode cX3_length 41 = .ok (.invokevirtual 34, 3) := by decide +kernel
theorem dX3_length_44 : decode cX3_length 44 = .ok (.aload_n 0, 1) := by decide +kernel
theorem dX3_length_45 : decode cX3_length 45 = .ok (.getfield 18, 3) := by decide +kernel
theorem dX3_length_48 : decode cX3_length 48 = .ok (.iload_n 1, 1) := by decide +kernel
theorem dX3_length_49 : decode cX3_length 49 = .ok (.iaload, 1) := by decide +kernel
theorem dX3_length_50 : decode cX3_length 50 = .ok (.iconst (-1), 1) := by decide +kernel
theorem dX3_length_51 : decode cX3_length 51 = .ok (.if_icmp .ne 8, 3) := by decide +kernel
theorem dX3_length_54 : decode cX3_length 54 = .ok (.bipush (-4), 2) := by decide +kernel
theorem dX3_length_56 : decode cX3_length 56 = .ok (.goto 9, 3) := by decide +kernel
theorem dX3_length_59 : decode cX3_length 59 = .ok (.aload_n 0, 1) := by decide +kernel
theorem dX3_length_60 : decode cX3_length 60 = .ok (.getfield 18, 3) := by decide +kernel
theorem dX3_length_63 : decode cX3_length 63 = .ok (.iload_n 1, 1) := by decide +kernel
theorem dX3_length_64 : decode cX3_length 64 = .ok (.iaload, 1) := by decide +kernel
theorem dX3_length_65 : decode cX3_length 65 = .ok (.ireturn, 1) := by decide +kernel
set_option maxRecDepth 20000 in
theorem ggX3_fewestLaid_X2_trait : GoodIn wsX3_fewestLaid wsX2_trait := goodIn_r _ [7, 8, 31] (by decide +kernel) (by decide +kernel)
set_option maxRecDepth 20000 in
theorem gX3_fewestLaid_X2_trait : GoodIn wsX3_fewestLaid (wsV RX3 38 RX2 yX2_trait wsX2_trait) := goodIn_app (goodIn_of _ (by decide +kernel)) ggX3_fewestLaid_X2_trait
set_option maxRecDepth 20000 in
theorem ggX3_fewestLaid_X2_bareBearing : GoodIn wsX3_fewestLaid wsX2_bareBearing := goodIn_r _ [12, 13, 4, 5, 6, 7, 8, 31] (by decide +kernel) (by decide +kernel)
set_option maxRecDepth 20000 in
theorem gX3_fewestLaid_X2_bareBearing : GoodIn wsX3_fewestLaid (wsV RX3 41 RX2 yX2_bareBearing wsX2_bareBearing) := goodIn_app (goodIn_of _ (by decide +kernel)) ggX3_fewestLaid_X2_bareBearing
set_option maxRecDepth 20000 in
theorem ggX3_fewestLaid_X3_spread : GoodIn wsX3_fewestLaid wsX3_spread := goodIn_r _ [18, 2, 1, 19, 20, 21, 22, 23, 24, 25, 26, 27, 28, 29, 30] (by decide +kernel) (by decide +kernel)
set_option maxRecDepth 20000 in
theorem gX3_fewestLaid_X3_spread : GoodIn wsX3_fewestLaid (wsV RX3 34 RX3 yX3_spread wsX3_spread) := goodIn_app (goodIn_of _ (by decide +kernel)) ggX3_fewestLaid_X3_spread
theorem dX3_fewestLaid_0 : decode cX3_fewestLaid 0 = .ok (.iconst 0, 1) := by decide +kernel
theorem dX3_fewestLaid_1 : decode cX3_fewestLaid 1 = .ok (.istore 5, 2) := by decide +kernel
theorem dX3_fewestLaid_3 : decode cX3_fewestLaid 3 = .ok (.iload 5, 2) := by decide +kernel
theorem dX3_fewestLaid_5 : decode cX3_fewestLaid 5 = .ok (.bipush 64, 2) := by decide +kernel
theorem dX3_fewestLaid_7 : decode cX3_fewestLaid 7 = .ok (.if_icmp .ge 62, 3) := by decide +kernel
theorem dX3_fewestLaid_10 : decode cX3_fewestLaid 10 = .ok (.aload_n 1, 1) := by decide +kernel
theorem dX3_fewestLaid_11 : decode cX3_fewestLaid 11 = .ok (.iload 5, 2) := by decide +kernel
theorem dX3_fewestLaid_13 : decode cX3_fewestLaid 13 = .ok (.aload_n 1, 1) := by decide +kernel
theorem dX3_fewestLaid_14 : decode cX3_fewestLaid 14 = .ok (.iload 5, 2) := by decide +kernel
theorem dX3_fewestLaid_16 : decode cX3_fewestLaid 16 = .ok (.iconst 0, 1) := by decide +kernel
theorem dX3_fewestLaid_17 : decode cX3_fewestLaid 17 = .ok (.invokevirtual 38, 3) := by decide +kernel
theorem dX3_fewestLaid_20 : decode cX3_fewestLaid 20 = .ok (.invokevirtual 41, 3) := by decide +kernel
theorem dX3_fewestLaid_23 : decode cX3_fewestLaid 23 = .ok (.istore 6, 2) := by decide +kernel
theorem dX3_fewestLaid_25 : decode cX3_fewestLaid 25 = .ok (.iload 6, 2) := by decide +kernel
theorem dX3_fewestLaid_27 : decode cX3_fewestLaid 27 = .ok (.sipush 180, 3) := by decide +kernel
theorem dX3_fewestLaid_30 : decode cX3_fewestLaid 30 = .ok (.iadd, 1) := by decide +kernel
theorem dX3_fewestLaid_31 : decode cX3_fewestLaid 31 = .ok (.iload 4, 2) := by decide +kernel
theorem dX3_fewestLaid_33 : decode cX3_fewestLaid 33 = .ok (.if_icmp .lt 7, 3) := by decide +kernel
theorem dX3_fewestLaid_36 : decode cX3_fewestLaid 36 = .ok (.iconst 1, 1) := by decide +kernel
theorem dX3_fewestLaid_37 : decode cX3_fewestLaid 37 = .ok (.goto 4, 3) := by decide +kernel
theorem dX3_fewestLaid_40 : decode cX3_fewestLaid 40 = .ok (.iconst (-1), 1) := by decide +kernel
theorem dX3_fewestLaid_41 : decode cX3_fewestLaid 41 = .ok (.istore 7, 2) := by decide +kernel
theorem dX3_fewestLaid_43 : decode cX3_fewestLaid 43 = .ok (.aload_n 0, 1) := by decide +kernel
theorem dX3_fewestLaid_44 : decode cX3_fewestLaid 44 = .ok (.getfield 15, 3) := by decide +kernel
theorem dX3_fewestLaid_47 : decode cX3_fewestLaid 47 = .ok (.iload 5, 2) := by decide +kernel
theorem dX3_fewestLaid_49 : decode cX3_fewestLaid 49 = .ok (.iload 6, 2) := by decide +kernel
theorem dX3_fewestLaid_51 : decode cX3_fewestLaid 51 = .ok (.iload 4, 2) := by decide +kernel
theorem dX3_fewestLaid_53 : decode cX3_fewestLaid 53 = .ok (.if_icmp .lt 7, 3) := by decide +kernel
theorem dX3_fewestLaid_56 : decode cX3_fewestLaid 56 = .ok (.iconst 0, 1) := by decide +kernel
theorem dX3_fewestLaid_57 : decode cX3_fewestLaid 57 = .ok (.goto 5, 3) := by decide +kernel
theorem dX3_fewestLaid_60 : decode cX3_fewestLaid 60 = .ok (.iload 7, 2) := by decide +kernel
theorem dX3_fewestLaid_62 : decode cX3_fewestLaid 62 = .ok (.iastore, 1) := by decide +kernel
theorem dX3_fewestLaid_63 : decode cX3_fewestLaid 63 = .ok (.iinc 5 1, 3) := by decide +kernel
theorem dX3_fewestLaid_66 : decode cX3_fewestLaid 66 = .ok (.goto (-63), 3) := by decide +kernel
theorem dX3_fewestLaid_69 : decode cX3_fewestLaid 69 = .ok (.aload_n 0, 1) := by decide +kernel
theorem dX3_fewestLaid_70 : decode cX3_fewestLaid 70 = .ok (.iload_n 2, 1) := by decide +kernel
theorem dX3_fewestLaid_71 : decode cX3_fewestLaid 71 = .ok (.invokevirtual 34, 3) := by decide +kernel
theorem dX3_fewestLaid_74 : decode cX3_fewestLaid 74 = .ok (.aload_n 0, 1) := by decide +kernel
theorem dX3_fewestLaid_75 : decode cX3_fewestLaid 75 = .ok (.getfield 18, 3) := by decide +kernel
theorem dX3_fewestLaid_78 : decode cX3_fewestLaid 78 = .ok (.iload_n 3, 1) := by decide +kernel
theorem dX3_fewestLaid_79 : decode cX3_fewestLaid 79 = .ok (.iaload, 1) := by decide +kernel
theorem dX3_fewestLaid_80 : decode cX3_fewestLaid 80 = .ok (.iconst (-1), 1) := by decide +kernel
theorem dX3_fewestLaid_81 : decode cX3_fewestLaid 81 = .ok (.if_icmp .ne 8, 3) := by decide +kernel
theorem dX3_fewestLaid_84 : decode cX3_fewestLaid 84 = .ok (.bipush (-4), 2) := by decide +kernel
theorem dX3_fewestLaid_86 : decode cX3_fewestLaid 86 = .ok (.goto 9, 3) := by decide +kernel
theorem dX3_fewestLaid_89 : decode cX3_fewestLaid 89 = .ok (.aload_n 0, 1) := by decide +kernel
theorem dX3_fewestLaid_90 : decode cX3_fewestLaid 90 = .ok (.getfield 18, 3) := by decide +kernel
theorem dX3_fewestLaid_93 : decode cX3_fewestLaid 93 = .ok (.iload_n 3, 1) := by decide +kernel
theorem dX3_fewestLaid_94 : decode cX3_fewestLaid 94 = .ok (.iaload, 1) := by decide +kernel
theorem dX3_fewestLaid_95 : decode cX3_fewestLaid 95 = .ok (.ireturn, 1) := by decide +kernel
set_option maxRecDepth 20000 in
theorem ggX3_spread_J7_fill_53178 : GoodIn wsX3_spread wsJ7_fill_53178 := goodIn_r _ [7] (by decide +kernel) (by decide +kernel)
set_option maxRecDepth 20000 in
theorem gX3_spread_J7_fill_53178 : GoodIn wsX3_spread (va_wsS RX3 44 yJ7_fill_53178 wsJ7_fill_53178) := goodIn_app (goodIn_of _ (by decide +kernel)) ggX3_spread_J7_fill_53178
set_option maxRecDepth 20000 in
theorem ggX3_spread_X10_beside : GoodIn wsX3_spread wsX10_beside := goodIn_r _ [10] (by decide +kernel) (by decide +kernel)
set_option maxRecDepth 20000 in
theorem gX3_spread_X10_beside_n50 : GoodIn wsX3_spread (wsX10_beside) := ggX3_spread_X10_beside
theorem dX3_spread_0 : decode cX3_spread 0 = .ok (.aload_n 0, 1) := by decide +kernel
theorem dX3_spread_1 : decode cX3_spread 1 = .ok (.getfield 18, 3) := by decide +kernel
theorem dX3_spread_4 : decode cX3_spread 4 = .ok (.iconst (-1), 1) := by decide +kernel
theorem dX3_spread_5 : decode cX3_spread 5 = .ok (.invokestatic 44, 3) := by decide +kernel
theorem dX3_spread_8 : decode cX3_spread 8 = .ok (.aload_n 0, 1) := by decide +kernel
theorem dX3_spread_9 : decode cX3_spread 9 = .ok (.getfield 15, 3) := by decide +kernel
theorem dX3_spread_12 : decode cX3_spread 12 = .ok (.iload_n 1, 1) := by decide +kernel
theorem dX3_spread_13 : decode cX3_spread 13 = .ok (.iaload, 1) := by decide +kernel
theorem dX3_spread_14 : decode cX3_spread 14 = .ok (.iconst (-1), 1) := by decide +kernel
theorem dX3_spread_15 : decode cX3_spread 15 = .ok (.if_icmp .ne 4, 3) := by decide +kernel
theorem dX3_spread_18 : decode cX3_spread 18 = .ok (.return_, 1) := by decide +kernel
theorem dX3_spread_19 : decode cX3_spread 19 = .ok (.bipush 64, 2) := by decide +kernel
theorem dX3_spread_21 : decode cX3_spread 21 = .ok (.istore_n 2, 1) := by decide +kernel
theorem dX3_spread_22 : decode cX3_spread 22 = .ok (.bipush 65, 2) := by decide +kernel
theorem dX3_spread_24 : decode cX3_spread 24 = .ok (.istore_n 3, 1) := by decide +kernel
theorem dX3_spread_25 : decode cX3_spread 25 = .ok (.aload_n 0, 1) := by decide +kernel
theorem dX3_spread_26 : decode cX3_spread 26 = .ok (.getfield 21, 3) := by decide +kernel
theorem dX3_spread_29 : decode cX3_spread 29 = .ok (.iload_n 2, 1) := by decide +kernel
theorem dX3_spread_30 : decode cX3_spread 30 = .ok (.iload_n 1, 1) := by decide +kernel
theorem dX3_spread_31 : decode cX3_spread 31 = .ok (.iastore, 1) := by decide +kernel
theorem dX3_spread_32 : decode cX3_spread 32 = .ok (.aload_n 0, 1) := by decide +kernel
theorem dX3_spread_33 : decode cX3_spread 33 = .ok (.getfield 18, 3) := by decide +kernel
theorem dX3_spread_36 : decode cX3_spread 36 = .ok (.iload_n 1, 1) := by decide +kernel
theorem dX3_spread_37 : decode cX3_spread 37 = .ok (.aload_n 0, 1) := by decide +kernel
theorem dX3_spread_38 : decode cX3_spread 38 = .ok (.getfield 15, 3) := by decide +kernel
theorem dX3_spread_41 : decode cX3_spread 41 = .ok (.iload_n 1, 1) := by decide +kernel
theorem dX3_spread_42 : decode cX3_spread 42 = .ok (.iaload, 1) := by decide +kernel
theorem dX3_spread_43 : decode cX3_spread 43 = .ok (.iastore, 1) := by decide +kernel
theorem dX3_spread_44 : decode cX3_spread 44 = .ok (.iconst 0, 1) := by decide +kernel
theorem dX3_spread_45 : decode cX3_spread 45 = .ok (.istore 4, 2) := by decide +kernel
theorem dX3_spread_47 : decode cX3_spread 47 = .ok (.iload 4, 2) := by decide +kernel
theorem dX3_spread_49 : decode cX3_spread 49 = .ok (.bipush 64, 2) := by decide +kernel
theorem dX3_spread_51 : decode cX3_spread 51 = .ok (.if_icmp .ge 137, 3) := by decide +kernel
theorem dX3_spread_54 : decode cX3_spread 54 = .ok (.iload_n 2, 1) := by decide +kernel
theorem dX3_spread_55 : decode cX3_spread 55 = .ok (.iload_n 3, 1) := by decide +kernel
theorem dX3_spread_56 : decode cX3_spread 56 = .ok (.if_icmp .ge 132, 3) := by decide +kernel
theorem dX3_spread_59 : decode cX3_spread 59 = .ok (.aload_n 0, 1) := by decide +kernel
theorem dX3_spread_60 : decode cX3_spread 60 = .ok (.getfield 21, 3) := by decide +kernel
theorem dX3_spread_63 : decode cX3_spread 63 = .ok (.iload_n 2, 1) := by decide +kernel
theorem dX3_spread_64 : decode cX3_spread 64 = .ok (.iaload, 1) := by decide +kernel
theorem dX3_spread_65 : decode cX3_spread 65 = .ok (.istore 5, 2) := by decide +kernel
theorem dX3_spread_67 : decode cX3_spread 67 = .ok (.iinc 2 1, 3) := by decide +kernel
theorem dX3_spread_70 : decode cX3_spread 70 = .ok (.iconst 0, 1) := by decide +kernel
theorem dX3_spread_71 : decode cX3_spread 71 = .ok (.istore 6, 2) := by decide +kernel
theorem dX3_spread_73 : decode cX3_spread 73 = .ok (.iload 6, 2) := by decide +kernel
theorem dX3_spread_75 : decode cX3_spread 75 = .ok (.iconst 4, 1) := by decide +kernel
theorem dX3_spread_76 : decode cX3_spread 76 = .ok (.if_icmp .ge 106, 3) := by decide +kernel
theorem dX3_spread_79 : decode cX3_spread 79 = .ok (.iload 5, 2) := by decide +kernel
theorem dX3_spread_81 : decode cX3_spread 81 = .ok (.iload 6, 2) := by decide +kernel
theorem dX3_spread_83 : decode cX3_spread 83 = .ok (.invokestatic 50, 3) := by decide +kernel
theorem dX3_spread_86 : decode cX3_spread 86 = .ok (.istore 7, 2) := by decide +kernel
theorem dX3_spread_88 : decode cX3_spread 88 = .ok (.iload 7, 2) := by decide +kernel
theorem dX3_spread_90 : decode cX3_spread 90 = .ok (.iconst (-1), 1) := by decide +kernel
theorem dX3_spread_91 : decode cX3_spread 91 = .ok (.if_icmp .eq 85, 3) := by decide +kernel
theorem dX3_spread_94 : decode cX3_spread 94 = .ok (.aload_n 0, 1) := by decide +kernel
theorem dX3_spread_95 : decode cX3_spread 95 = .ok (.getfield 15, 3) := by decide +kernel
theorem dX3_spread_98 : decode cX3_spread 98 = .ok (.iload 7, 2) := by decide +kernel
theorem dX3_spread_100 : decode cX3_spread 100 = .ok (.iaload, 1) := by decide +kernel
theorem dX3_spread_101 : decode cX3_spread 101 = .ok (.iconst (-1), 1) := by decide +kernel
theorem dX3_spread_102 : decode cX3_spread 102 = .ok (.if_icmp .eq 74, 3) := by decide +kernel
theorem dX3_spread_105 : decode cX3_spread 105 = .ok (.aload_n 0, 1) := by decide +kernel
theorem dX3_spread_106 : decode cX3_spread 106 = .ok (.getfield 18, 3) := by decide +kernel
theorem dX3_spread_109 : decode cX3_spread 109 = .ok (.iload 7, 2) := by decide +kernel
theorem dX3_spread_111 : decode cX3_spread 111 = .ok (.iaload, 1) := by decide +kernel
theorem dX3_spread_112 : decode cX3_spread 112 = .ok (.iconst (-1), 1) := by decide +kernel
theorem dX3_spread_113 : decode cX3_spread 113 = .ok (.if_icmp .eq 6, 3) := by decide +kernel
theorem dX3_spread_116 : decode cX3_spread 116 = .ok (.goto 60, 3) := by decide +kernel
theorem dX3_spread_119 : decode cX3_spread 119 = .ok (.aload_n 0, 1) := by decide +kernel
theorem dX3_spread_120 : decode cX3_spread 120 = .ok (.getfield 18, 3) := by decide +kernel
theorem dX3_spread_123 : decode cX3_spread 123 = .ok (.iload 7, 2) := by decide +kernel
theorem dX3_spread_125 : decode cX3_spread 125 = .ok (.aload_n 0, 1) := by decide +kernel
theorem dX3_spread_126 : decode cX3_spread 126 = .ok (.getfield 18, 3) := by decide +kernel
theorem dX3_spread_129 : decode cX3_spread 129 = .ok (.iload 5, 2) := by decide +kernel
theorem dX3_spread_131 : decode cX3_spread 131 = .ok (.iaload, 1) := by decide +kernel
theorem dX3_spread_132 : decode cX3_spread 132 = .ok (.aload_n 0, 1) := by decide +kernel
theorem dX3_spread_133 : decode cX3_spread 133 = .ok (.getfield 15, 3) := by decide +kernel
theorem dX3_spread_136 : decode cX3_spread 136 = .ok (.iload 7, 2) := by decide +kernel
theorem dX3_spread_138 : decode cX3_spread 138 = .ok (.iaload, 1) := by decide +kernel
theorem dX3_spread_139 : decode cX3_spread 139 = .ok (.iadd, 1) := by decide +kernel
theorem dX3_spread_140 : decode cX3_spread 140 = .ok (.iastore, 1) := by decide +kernel
theorem dX3_spread_141 : decode cX3_spread 141 = .ok (.aload_n 0, 1) := by decide +kernel
theorem dX3_spread_142 : decode cX3_spread 142 = .ok (.getfield 15, 3) := by decide +kernel
theorem dX3_spread_145 : decode cX3_spread 145 = .ok (.iload 7, 2) := by decide +kernel
theorem dX3_spread_147 : decode cX3_spread 147 = .ok (.iaload, 1) := by decide +kernel
theorem dX3_spread_148 : decode cX3_spread 148 = .ok (.ifCond .ne 17, 3) := by decide +kernel
theorem dX3_spread_151 : decode cX3_spread 151 = .ok (.iinc 2 (-1), 3) := by decide +kernel
theorem dX3_spread_154 : decode cX3_spread 154 = .ok (.aload_n 0, 1) := by decide +kernel
theorem dX3_spread_155 : decode cX3_spread 155 = .ok (.getfield 21, 3) := by decide +kernel
theorem dX3_spread_158 : decode cX3_spread 158 = .ok (.iload_n 2, 1) := by decide +kernel
theorem dX3_spread_159 : decode cX3_spread 159 = .ok (.iload 7, 2) := by decide +kernel
theorem dX3_spread_161 : decode cX3_spread 161 = .ok (.iastore, 1) := by decide +kernel
theorem dX3_spread_162 : decode cX3_spread 162 = .ok (.goto 14, 3) := by decide +kernel
theorem dX3_spread_165 : decode cX3_spread 165 = .ok (.aload_n 0, 1) := by decide +kernel
theorem dX3_spread_166 : decode cX3_spread 166 = .ok (.getfield 21, 3) := by decide +kernel
theorem dX3_spread_169 : decode cX3_spread 169 = .ok (.iload_n 3, 1) := by decide +kernel
theorem dX3_spread_170 : decode cX3_spread 170 = .ok (.iload 7, 2) := by decide +kernel
theorem dX3_spread_172 : decode cX3_spread 172 = .ok (.iastore, 1) := by decide +kernel
theorem dX3_spread_173 : decode cX3_spread 173 = .ok (.iinc 3 1, 3) := by decide +kernel
theorem dX3_spread_176 : decode cX3_spread 176 = .ok (.iinc 6 1, 3) := by decide +kernel
theorem dX3_spread_179 : decode cX3_spread 179 = .ok (.goto (-106), 3) := by decide +kernel
theorem dX3_spread_182 : decode cX3_spread 182 = .ok (.iinc 4 1, 3) := by decide +kernel
theorem dX3_spread_185 : decode cX3_spread 185 = .ok (.goto (-138), 3) := by decide +kernel
theorem dX3_spread_188 : decode cX3_spread 188 = .ok (.return_, 1) := by decide +kernel
set_option maxRecDepth 20000 in
theorem ggX3_walk_X3_nearer : GoodIn wsX3_walk wsX3_nearer := goodIn_r _ [5, 6, 7, 8, 9, 10, 11, 12, 13] (by decide +kernel) (by decide +kernel)
set_option maxRecDepth 20000 in
theorem gX3_walk_X3_nearer : GoodIn wsX3_walk (wsV RX3 53 RX3 yX3_nearer wsX3_nearer) := goodIn_app (goodIn_of _ (by decide +kernel)) ggX3_walk_X3_nearer
theorem dX3_walk_0 : decode cX3_walk 0 = .ok (.iload_n 1, 1) := by decide +kernel
theorem dX3_walk_1 : decode cX3_walk 1 = .ok (.istore_n 3, 1) := by decide +kernel
theorem dX3_walk_2 : decode cX3_walk 2 = .ok (.iconst 0, 1) := by decide +kernel
theorem dX3_walk_3 : decode cX3_walk 3 = .ok (.istore 4, 2) := by decide +kernel
theorem dX3_walk_5 : decode cX3_walk 5 = .ok (.iload 4, 2) := by decide +kernel
theorem dX3_walk_7 : decode cX3_walk 7 = .ok (.iload_n 2, 1) := by decide +kernel
theorem dX3_walk_8 : decode cX3_walk 8 = .ok (.if_icmp .ge 15, 3) := by decide +kernel
theorem dX3_walk_11 : decode cX3_walk 11 = .ok (.aload_n 0, 1) := by decide +kernel
theorem dX3_walk_12 : decode cX3_walk 12 = .ok (.iload_n 3, 1) := by decide +kernel
theorem dX3_walk_13 : decode cX3_walk 13 = .ok (.invokevirtual 53, 3) := by decide +kernel
theorem dX3_walk_16 : decode cX3_walk 16 = .ok (.istore_n 3, 1) := by decide +kernel
theorem dX3_walk_17 : decode cX3_walk 17 = .ok (.iinc 4 1, 3) := by decide +kernel
theorem dX3_walk_20 : decode cX3_walk 20 = .ok (.goto (-15), 3) := by decide +kernel
theorem dX3_walk_23 : decode cX3_walk 23 = .ok (.iload_n 3, 1) := by decide +kernel
theorem dX3_walk_24 : decode cX3_walk 24 = .ok (.ireturn, 1) := by decide +kernel
set_option maxRecDepth 20000 in
theorem ggX3_nearer_X10_beside : GoodIn wsX3_nearer wsX10_beside := goodIn_r _ [4] (by decide +kernel) (by decide +kernel)
set_option maxRecDepth 20000 in
theorem gX3_nearer_X10_beside_n50 : GoodIn wsX3_nearer (wsX10_beside) := ggX3_nearer_X10_beside
theorem dX3_nearer_0 : decode cX3_nearer 0 = .ok (.iconst 0, 1) := by decide +kernel
theorem dX3_nearer_1 : decode cX3_nearer 1 = .ok (.istore_n 2, 1) := by decide +kernel
theorem dX3_nearer_2 : decode cX3_nearer 2 = .ok (.iload_n 2, 1) := by decide +kernel
theorem dX3_nearer_3 : decode cX3_nearer 3 = .ok (.iconst 4, 1) := by decide +kernel
theorem dX3_nearer_4 : decode cX3_nearer 4 = .ok (.if_icmp .ge 39, 3) := by decide +kernel
theorem dX3_nearer_7 : decode cX3_nearer 7 = .ok (.iload_n 1, 1) := by decide +kernel
theorem dX3_nearer_8 : decode cX3_nearer 8 = .ok (.iload_n 2, 1) := by decide +kernel
theorem dX3_nearer_9 : decode cX3_nearer 9 = .ok (.invokestatic 50, 3) := by decide +kernel
theorem dX3_nearer_12 : decode cX3_nearer 12 = .ok (.istore_n 3, 1) := by decide +kernel
theorem dX3_nearer_13 : decode cX3_nearer 13 = .ok (.iload_n 3, 1) := by decide +kernel
theorem dX3_nearer_14 : decode cX3_nearer 14 = .ok (.iconst (-1), 1) := by decide +kernel
theorem dX3_nearer_15 : decode cX3_nearer 15 = .ok (.if_icmp .eq 22, 3) := by decide +kernel
theorem dX3_nearer_18 : decode cX3_nearer 18 = .ok (.aload_n 0, 1) := by decide +kernel
theorem dX3_nearer_19 : decode cX3_nearer 19 = .ok (.getfield 18, 3) := by decide +kernel
theorem dX3_nearer_22 : decode cX3_nearer 22 = .ok (.iload_n 3, 1) := by decide +kernel
theorem dX3_nearer_23 : decode cX3_nearer 23 = .ok (.iaload, 1) := by decide +kernel
theorem dX3_nearer_24 : decode cX3_nearer 24 = .ok (.aload_n 0, 1) := by decide +kernel
theorem dX3_nearer_25 : decode cX3_nearer 25 = .ok (.getfield 18, 3) := by decide +kernel
theorem dX3_nearer_28 : decode cX3_nearer 28 = .ok (.iload_n 1, 1) := by decide +kernel
theorem dX3_nearer_29 : decode cX3_nearer 29 = .ok (.iaload, 1) := by decide +kernel
theorem dX3_nearer_30 : decode cX3_nearer 30 = .ok (.iconst 1, 1) := by decide +kernel
theorem dX3_nearer_31 : decode cX3_nearer 31 = .ok (.isub, 1) := by decide +kernel
theorem dX3_nearer_32 : decode cX3_nearer 32 = .ok (.if_icmp .ne 5, 3) := by decide +kernel
theorem dX3_nearer_35 : decode cX3_nearer 35 = .ok (.iload_n 3, 1) := by decide +kernel
theorem dX3_nearer_36 : decode cX3_nearer 36 = .ok (.ireturn, 1) := by decide +kernel
theorem dX3_nearer_37 : decode cX3_nearer 37 = .ok (.iinc 2 1, 3) := by decide +kernel
theorem dX3_nearer_40 : decode cX3_nearer 40 = .ok (.goto (-38), 3) := by decide +kernel
theorem dX3_nearer_43 : decode cX3_nearer 43 = .ok (.iload_n 1, 1) := by decide +kernel
theorem dX3_nearer_44 : decode cX3_nearer 44 = .ok (.ireturn, 1) := by decide +kernel
set_option maxRecDepth 20000 in
theorem ggX4_init_X2_init : GoodIn wsX4_init wsX2_init := goodIn_r _ [24, 25, 2, 3, 26, 27, 28, 29, 30, 31, 32, 33, 34, 55] (by decide +kernel) (by decide +kernel)
set_option maxRecDepth 20000 in
theorem gX4_init_X2_init : GoodIn wsX4_init (wsX2_init) := ggX4_init_X2_init
set_option maxRecDepth 20000 in
theorem ggX4_init_X8_init : GoodIn wsX4_init wsX8_init := goodIn_r _ [36, 37, 2, 3, 26, 38, 39, 40, 41, 62, 63, 64, 65] (by decide +kernel) (by decide +kernel)
set_option maxRecDepth 20000 in
theorem gX4_init_X8_init_n20 : GoodIn wsX4_init (wsX8_init) := ggX4_init_X8_init
set_option maxRecDepth 20000 in
theorem ggX4_init_X9_init : GoodIn wsX4_init wsX9_init := goodIn_r _ [43, 44, 2, 3, 26, 45, 46, 66, 67] (by decide +kernel) (by decide +kernel)
set_option maxRecDepth 20000 in
theorem gX4_init_X9_init_n27 : GoodIn wsX4_init (wsX9_init) := ggX4_init_X9_init
set_option maxRecDepth 20000 in
theorem ggX4_init_X1_init : GoodIn wsX4_init wsX1_init := goodIn_r _ [48, 49, 2, 3, 26, 50, 51, 52, 53, 54, 68, 69, 70, 71, 72] (by decide +kernel) (by decide +kernel)
set_option maxRecDepth 20000 in
theorem gX4_init_X1_init_n34 : GoodIn wsX4_init (wsX1_init) := ggX4_init_X1_init
theorem dX4_init_0 : decode cX4_init 0 = .ok (.aload_n 0, 1) := by decide +kernel
theorem dX4_init_1 : decode cX4_init 1 = .ok (.invokespecial 3, 3) := by decide +kernel
theorem dX4_init_4 : decode cX4_init 4 = .ok (.aload_n 0, 1) := by decide +kernel
theorem dX4_init_5 : decode cX4_init 5 = .ok (.new 9, 3) := by decide +kernel
theorem dX4_init_8 : decode cX4_init 8 = .ok (.dup, 1) := by decide +kernel
theorem dX4_init_9 : decode cX4_init 9 = .ok (.invokespecial 11, 3) := by decide +kernel
theorem dX4_init_12 : decode cX4_init 12 = .ok (.putfield 12, 3) := by decide +kernel
theorem dX4_init_15 : decode cX4_init 15 = .ok (.aload_n 0, 1) := by decide +kernel
theorem dX4_init_16 : decode cX4_init 16 = .ok (.new 18, 3) := by decide +kernel
theorem dX4_init_19 : decode cX4_init 19 = .ok (.dup, 1) := by decide +kernel
theorem dX4_init_20 : decode cX4_init 20 = .ok (.invokespecial 20, 3) := by decide +kernel
theorem dX4_init_23 : decode cX4_init 23 = .ok (.putfield 21, 3) := by decide +kernel
theorem dX4_init_26 : decode cX4_init 26 = .ok (.aload_n 0, 1) := by decide +kernel
theorem dX4_init_27 : decode cX4_init 27 = .ok (.new 25, 3) := by decide +kernel
theorem dX4_init_30 : decode cX4_init 30 = .ok (.dup, 1) := by decide +kernel
theorem dX4_init_31 : decode cX4_init 31 = .ok (.invokespecial 27, 3) := by decide +kernel
theorem dX4_init_34 : decode cX4_init 34 = .ok (.putfield 28, 3) := by decide +kernel
theorem dX4_init_37 : decode cX4_init 37 = .ok (.aload_n 0, 1) := by decide +kernel
theorem dX4_init_38 : decode cX4_init 38 = .ok (.new 32, 3) := by decide +kernel
theorem dX4_init_41 : decode cX4_init 41 = .ok (.dup, 1) := by decide +kernel
theorem dX4_init_42 : decode cX4_init 42 = .ok (.invokespecial 34, 3) := by decide +kernel
theorem dX4_init_45 : decode cX4_init 45 = .ok (.putfield 35, 3) := by decide +kernel
theorem dX4_init_48 : decode cX4_init 48 = .ok (.aload_n 0, 1) := by decide +kernel
theorem dX4_init_49 : decode cX4_init 49 = .ok (.bipush 20, 2) := by decide +kernel
theorem dX4_init_51 : decode cX4_init 51 = .ok (.putfield 39, 3) := by decide +kernel
theorem dX4_init_54 : decode cX4_init 54 = .ok (.aload_n 0, 1) := by decide +kernel
theorem dX4_init_55 : decode cX4_init 55 = .ok (.bipush 10, 2) := by decide +kernel
theorem dX4_init_57 : decode cX4_init 57 = .ok (.putfield 43, 3) := by decide +kernel
theorem dX4_init_60 : decode cX4_init 60 = .ok (.return_, 1) := by decide +kernel
set_option maxRecDepth 20000 in
theorem ggX4_copy_X2_copy : GoodIn wsX4_copy wsX2_copy := goodIn_r _ [11, 12, 13, 14, 15, 16, 52] (by decide +kernel) (by decide +kernel)
set_option maxRecDepth 20000 in
theorem gX4_copy_X2_copy : GoodIn wsX4_copy (wsV RX4 46 RX2 yX2_copy wsX2_copy) := goodIn_app (goodIn_of _ (by decide +kernel)) ggX4_copy_X2_copy
set_option maxRecDepth 20000 in
theorem ggX4_copy_X8_copy : GoodIn wsX4_copy wsX8_copy := goodIn_r _ [21, 22, 23, 14, 15, 16, 24, 25, 26, 53, 54, 55, 56] (by decide +kernel) (by decide +kernel)
set_option maxRecDepth 20000 in
theorem gX4_copy_X8_copy : GoodIn wsX4_copy (wsV RX4 50 RX8 yX8_copy wsX8_copy) := goodIn_app (goodIn_of _ (by decide +kernel)) ggX4_copy_X8_copy
set_option maxRecDepth 20000 in
theorem ggX4_copy_X9_copy : GoodIn wsX4_copy wsX9_copy := goodIn_r _ [31, 32, 33, 14, 15, 16, 34, 57, 58] (by decide +kernel) (by decide +kernel)
set_option maxRecDepth 20000 in
theorem gX4_copy_X9_copy : GoodIn wsX4_copy (wsV RX4 53 RX9 yX9_copy wsX9_copy) := goodIn_app (goodIn_of _ (by decide +kernel)) ggX4_copy_X9_copy
set_option maxRecDepth 20000 in
theorem ggX4_copy_X1_copy : GoodIn wsX4_copy wsX1_copy := goodIn_r _ [39, 40, 41, 14, 15, 16, 42, 43, 44, 45, 59, 60, 61, 62, 63] (by decide +kernel) (by decide +kernel)
set_option maxRecDepth 20000 in
theorem gX4_copy_X1_copy : GoodIn wsX4_copy (wsV RX4 56 RX1 yX1_copy wsX1_copy) := goodIn_app (goodIn_of _ (by decide +kernel)) ggX4_copy_X1_copy
theorem dX4_copy_0 : decode cX4_copy 0 = .ok (.aload_n 0, 1) := by decide +kernel
theorem dX4_copy_1 : decode cX4_copy 1 = .ok (.getfield 12, 3) := by decide +kernel
theorem dX4_copy_4 : decode cX4_copy 4 = .ok (.aload_n 1, 1) := by decide +kernel
theorem dX4_copy_5 : decode cX4_copy 5 = .ok (.getfield 12, 3) := by decide +kernel
theorem dX4_copy_8 : decode cX4_copy 8 = .ok (.invokevirtual 46, 3) := by decide +kernel
theorem dX4_copy_11 : decode cX4_copy 11 = .ok (.aload_n 0, 1) := by decide +kernel
theorem dX4_copy_12 : decode cX4_copy 12 = .ok (.getfield 21, 3) := by decide +kernel
theorem dX4_copy_15 : decode cX4_copy 15 = .ok (.aload_n 1, 1) := by decide +kernel
theorem dX4_copy_16 : decode cX4_copy 16 = .ok (.getfield 21, 3) := by decide +kernel
theorem dX4_copy_19 : decode cX4_copy 19 = .ok (.invokevirtual 50, 3) := by decide +kernel
theorem dX4_copy_22 : decode cX4_copy 22 = .ok (.aload_n 0, 1) := by decide +kernel
theorem dX4_copy_23 : decode cX4_copy 23 = .ok (.getfield 28, 3) := by decide +kernel
theorem dX4_copy_26 : decode cX4_copy 26 = .ok (.aload_n 1, 1) := by decide +kernel
theorem dX4_copy_27 : decode cX4_copy 27 = .ok (.getfield 28, 3) := by decide +kernel
theorem dX4_copy_30 : decode cX4_copy 30 = .ok (.invokevirtual 53, 3) := by decide +kernel
theorem dX4_copy_33 : decode cX4_copy 33 = .ok (.aload_n 0, 1) := by decide +kernel
theorem dX4_copy_34 : decode cX4_copy 34 = .ok (.getfield 35, 3) := by decide +kernel
theorem dX4_copy_37 : decode cX4_copy 37 = .ok (.aload_n 1, 1) := by decide +kernel
theorem dX4_copy_38 : decode cX4_copy 38 = .ok (.getfield 35, 3) := by decide +kernel
theorem dX4_copy_41 : decode cX4_copy 41 = .ok (.invokevirtual 56, 3) := by decide +kernel
theorem dX4_copy_44 : decode cX4_copy 44 = .ok (.aload_n 0, 1) := by decide +kernel
theorem dX4_copy_45 : decode cX4_copy 45 = .ok (.aload_n 1, 1) := by decide +kernel
theorem dX4_copy_46 : decode cX4_copy 46 = .ok (.getfield 39, 3) := by decide +kernel
theorem dX4_copy_49 : decode cX4_copy 49 = .ok (.putfield 39, 3) := by decide +kernel
theorem dX4_copy_52 : decode cX4_copy 52 = .ok (.aload_n 0, 1) := by decide +kernel
theorem dX4_copy_53 : decode cX4_copy 53 = .ok (.aload_n 1, 1) := by decide +kernel
theorem dX4_copy_54 : decode cX4_copy 54 = .ok (.getfield 43, 3) := by decide +kernel
theorem dX4_copy_57 : decode cX4_copy 57 = .ok (.putfield 43, 3) := by decide +kernel
theorem dX4_copy_60 : decode cX4_copy 60 = .ok (.return_, 1) := by decide +kernel
set_option maxRecDepth 20000 in
theorem ggX4_crackedFrom_X2_thinnerThan : GoodIn wsX4_crackedFrom wsX2_thinnerThan := goodIn_r _ [7, 8, 9, 10, 6, 11, 12, 24] (by decide +kernel) (by decide +kernel)
set_option maxRecDepth 20000 in
theorem gX4_crackedFrom_X2_thinnerThan : GoodIn wsX4_crackedFrom (wsV RX4 59 RX2 yX2_thinnerThan wsX2_thinnerThan) := goodIn_app (goodIn_of _ (by decide +kernel)) ggX4_crackedFrom_X2_thinnerThan
set_option maxRecDepth 20000 in
theorem ggX4_crackedFrom_X10_allBeside : GoodIn wsX4_crackedFrom wsX10_allBeside := goodIn_r _ [15, 16, 17] (by decide +kernel) (by decide +kernel)
set_option maxRecDepth 20000 in
theorem gX4_crackedFrom_X10_allBeside_n63 : GoodIn wsX4_crackedFrom (wsX10_allBeside) := ggX4_crackedFrom_X10_allBeside
theorem dX4_crackedFrom_0 : decode cX4_crackedFrom 0 = .ok (.aload_n 0, 1) := by decide +kernel
theorem dX4_crackedFrom_1 : decode cX4_crackedFrom 1 = .ok (.getfield 12, 3) := by decide +kernel
theorem dX4_crackedFrom_4 : decode cX4_crackedFrom 4 = .ok (.aload_n 0, 1) := by decide +kernel
theorem dX4_crackedFrom_5 : decode cX4_crackedFrom 5 = .ok (.getfield 39, 3) := by decide +kernel
theorem dX4_crackedFrom_8 : decode cX4_crackedFrom 8 = .ok (.invokevirtual 59, 3) := by decide +kernel
theorem dX4_crackedFrom_11 : decode cX4_crackedFrom 11 = .ok (.lstore_n 2, 1) := by decide +kernel
theorem dX4_crackedFrom_12 : decode cX4_crackedFrom 12 = .ok (.lconst 1, 1) := by decide +kernel
theorem dX4_crackedFrom_13 : decode cX4_crackedFrom 13 = .ok (.iload_n 1, 1) := by decide +kernel
theorem dX4_crackedFrom_14 : decode cX4_crackedFrom 14 = .ok (.lshl, 1) := by decide +kernel
theorem dX4_crackedFrom_15 : decode cX4_crackedFrom 15 = .ok (.lstore 4, 2) := by decide +kernel
theorem dX4_crackedFrom_17 : decode cX4_crackedFrom 17 = .ok (.iconst 0, 1) := by decide +kernel
theorem dX4_crackedFrom_18 : decode cX4_crackedFrom 18 = .ok (.istore 6, 2) := by decide +kernel
theorem dX4_crackedFrom_20 : decode cX4_crackedFrom 20 = .ok (.iload 6, 2) := by decide +kernel
theorem dX4_crackedFrom_22 : decode cX4_crackedFrom 22 = .ok (.bipush 64, 2) := by decide +kernel
theorem dX4_crackedFrom_24 : decode cX4_crackedFrom 24 = .ok (.if_icmp .ge 36, 3) := by decide +kernel
theorem dX4_crackedFrom_27 : decode cX4_crackedFrom 27 = .ok (.lload 4, 2) := by decide +kernel
theorem dX4_crackedFrom_29 : decode cX4_crackedFrom 29 = .ok (.lload 4, 2) := by decide +kernel
theorem dX4_crackedFrom_31 : decode cX4_crackedFrom 31 = .ok (.invokestatic 63, 3) := by decide +kernel
theorem dX4_crackedFrom_34 : decode cX4_crackedFrom 34 = .ok (.lload_n 2, 1) := by decide +kernel
theorem dX4_crackedFrom_35 : decode cX4_crackedFrom 35 = .ok (.land, 1) := by decide +kernel
theorem dX4_crackedFrom_36 : decode cX4_crackedFrom 36 = .ok (.lor, 1) := by decide +kernel
theorem dX4_crackedFrom_37 : decode cX4_crackedFrom 37 = .ok (.lstore 7, 2) := by decide +kernel
theorem dX4_crackedFrom_39 : decode cX4_crackedFrom 39 = .ok (.lload 7, 2) := by decide +kernel
theorem dX4_crackedFrom_41 : decode cX4_crackedFrom 41 = .ok (.lload 4, 2) := by decide +kernel
theorem dX4_crackedFrom_43 : decode cX4_crackedFrom 43 = .ok (.lcmp, 1) := by decide +kernel
theorem dX4_crackedFrom_44 : decode cX4_crackedFrom 44 = .ok (.ifCond .ne 6, 3) := by decide +kernel
theorem dX4_crackedFrom_47 : decode cX4_crackedFrom 47 = .ok (.goto 13, 3) := by decide +kernel
theorem dX4_crackedFrom_50 : decode cX4_crackedFrom 50 = .ok (.lload 7, 2) := by decide +kernel
theorem dX4_crackedFrom_52 : decode cX4_crackedFrom 52 = .ok (.lstore 4, 2) := by decide +kernel
theorem dX4_crackedFrom_54 : decode cX4_crackedFrom 54 = .ok (.iinc 6 1, 3) := by decide +kernel
theorem dX4_crackedFrom_57 : decode cX4_crackedFrom 57 = .ok (.goto (-37), 3) := by decide +kernel
theorem dX4_crackedFrom_60 : decode cX4_crackedFrom 60 = .ok (.lload 4, 2) := by decide +kernel
theorem dX4_crackedFrom_62 : decode cX4_crackedFrom 62 = .ok (.lreturn, 1) := by decide +kernel
set_option maxRecDepth 20000 in
theorem ggX4_firstToBreak_X4_breakingPlace : GoodIn wsX4_firstToBreak wsX4_breakingPlace := goodIn_r _ [7, 8, 9, 1, 10, 11, 12, 13, 14, 15, 16, 17, 18, 19, 20, 21, 22, 23, 24, 25, 26, 27, 28, 29, 30, 31, 32, 33, 34, 35, 36, 37, 38, 39, 40, 41, 42, 43, 44, 45, 46, 47, 48, 49, 51, 52, 53, 54, 55, 56, 61, 62, 57, 58, 59, 60, 63] (by decide +kernel) (by decide +kernel)
set_option maxRecDepth 20000 in
theorem gX4_firstToBreak_X4_breakingPlace : GoodIn wsX4_firstToBreak (wsV RX4 70 RX4 yX4_breakingPlace wsX4_breakingPlace) := goodIn_app (goodIn_of _ (by decide +kernel)) ggX4_firstToBreak_X4_breakingPlace
set_option maxRecDepth 20000 in
theorem ggX4_firstToBreak_X8_minute : GoodIn wsX4_firstToBreak wsX8_minute := goodIn_r _ [20, 21, 22, 57, 58, 59, 60] (by decide +kernel) (by decide +kernel)
set_option maxRecDepth 20000 in
theorem gX4_firstToBreak_X8_minute : GoodIn wsX4_firstToBreak (wsV RX4 74 RX8 yX8_minute wsX8_minute) := goodIn_app (goodIn_of _ (by decide +kernel)) ggX4_firstToBreak_X8_minute
theorem dX4_firstToBreak_0 : decode cX4_firstToBreak 0 = .ok (.iconst (-1), 1) := by decide +kernel
theorem dX4_firstToBreak_1 : decode cX4_firstToBreak 1 = .ok (.istore_n 1, 1) := by decide +kernel
theorem dX4_firstToBreak_2 : decode cX4_firstToBreak 2 = .ok (.iconst 0, 1) := by decide +kernel
theorem dX4_firstToBreak_3 : decode cX4_firstToBreak 3 = .ok (.istore_n 2, 1) := by decide +kernel
theorem dX4_firstToBreak_4 : decode cX4_firstToBreak 4 = .ok (.iconst 0, 1) := by decide +kernel
theorem dX4_firstToBreak_5 : decode cX4_firstToBreak 5 = .ok (.istore_n 3, 1) := by decide +kernel
theorem dX4_firstToBreak_6 : decode cX4_firstToBreak 6 = .ok (.iload_n 3, 1) := by decide +kernel
theorem dX4_firstToBreak_7 : decode cX4_firstToBreak 7 = .ok (.aload_n 0, 1) := by decide +kernel
theorem dX4_firstToBreak_8 : decode cX4_firstToBreak 8 = .ok (.getfield 21, 3) := by decide +kernel
theorem dX4_firstToBreak_11 : decode cX4_firstToBreak 11 = .ok (.getfield 67, 3) := by decide +kernel
theorem dX4_firstToBreak_14 : decode cX4_firstToBreak 14 = .ok (.if_icmp .ge 52, 3) := by decide +kernel
theorem dX4_firstToBreak_17 : decode cX4_firstToBreak 17 = .ok (.aload_n 0, 1) := by decide +kernel
theorem dX4_firstToBreak_18 : decode cX4_firstToBreak 18 = .ok (.iload_n 3, 1) := by decide +kernel
theorem dX4_firstToBreak_19 : decode cX4_firstToBreak 19 = .ok (.invokevirtual 70, 3) := by decide +kernel
theorem dX4_firstToBreak_22 : decode cX4_firstToBreak 22 = .ok (.istore 4, 2) := by decide +kernel
theorem dX4_firstToBreak_24 : decode cX4_firstToBreak 24 = .ok (.iload 4, 2) := by decide +kernel
theorem dX4_firstToBreak_26 : decode cX4_firstToBreak 26 = .ok (.ifCond .lt 34, 3) := by decide +kernel
theorem dX4_firstToBreak_29 : decode cX4_firstToBreak 29 = .ok (.iload_n 1, 1) := by decide +kernel
theorem dX4_firstToBreak_30 : decode cX4_firstToBreak 30 = .ok (.ifCond .lt 17, 3) := by decide +kernel
theorem dX4_firstToBreak_33 : decode cX4_firstToBreak 33 = .ok (.aload_n 0, 1) := by decide +kernel
theorem dX4_firstToBreak_34 : decode cX4_firstToBreak 34 = .ok (.getfield 21, 3) := by decide +kernel
theorem dX4_firstToBreak_37 : decode cX4_firstToBreak 37 = .ok (.iload_n 3, 1) := by decide +kernel
theorem dX4_firstToBreak_38 : decode cX4_firstToBreak 38 = .ok (.iload 4, 2) := by decide +kernel
theorem dX4_firstToBreak_40 : decode cX4_firstToBreak 40 = .ok (.invokevirtual 74, 3) := by decide +kernel
theorem dX4_firstToBreak_43 : decode cX4_firstToBreak 43 = .ok (.iload_n 2, 1) := by decide +kernel
theorem dX4_firstToBreak_44 : decode cX4_firstToBreak 44 = .ok (.if_icmp .ge 16, 3) := by decide +kernel
theorem dX4_firstToBreak_47 : decode cX4_firstToBreak 47 = .ok (.iload_n 3, 1) := by decide +kernel
theorem dX4_firstToBreak_48 : decode cX4_firstToBreak 48 = .ok (.istore_n 1, 1) := by decide +kernel
theorem dX4_firstToBreak_49 : decode cX4_firstToBreak 49 = .ok (.aload_n 0, 1) := by decide +kernel
theorem dX4_firstToBreak_50 : decode cX4_firstToBreak 50 = .ok (.getfield 21, 3) := by decide +kernel
theorem dX4_firstToBreak_53 : decode cX4_firstToBreak 53 = .ok (.iload_n 3, 1) := by decide +kernel
theorem dX4_firstToBreak_54 : decode cX4_firstToBreak 54 = .ok (.iload 4, 2) := by decide +kernel
theorem dX4_firstToBreak_56 : decode cX4_firstToBreak 56 = .ok (.invokevirtual 74, 3) := by decide +kernel
theorem dX4_firstToBreak_59 : decode cX4_firstToBreak 59 = .ok (.istore_n 2, 1) := by decide +kernel
theorem dX4_firstToBreak_60 : decode cX4_firstToBreak 60 = .ok (.iinc 3 1, 3) := by decide +kernel
theorem dX4_firstToBreak_63 : decode cX4_firstToBreak 63 = .ok (.goto (-57), 3) := by decide +kernel
theorem dX4_firstToBreak_66 : decode cX4_firstToBreak 66 = .ok (.iload_n 1, 1) := by decide +kernel
theorem dX4_firstToBreak_67 : decode cX4_firstToBreak 67 = .ok (.ireturn, 1) := by decide +kernel
set_option maxRecDepth 20000 in
theorem ggX4_breakingPlace_X8_meets : GoodIn wsX4_breakingPlace wsX8_meets := goodIn_r _ [10, 11, 12, 13, 9, 14, 15, 16, 52, 53, 54, 55] (by decide +kernel) (by decide +kernel)
set_option maxRecDepth 20000 in
theorem gX4_breakingPlace_X8_meets : GoodIn wsX4_breakingPlace (wsV RX4 79 RX8 yX8_meets wsX8_meets) := goodIn_app (goodIn_of _ (by decide +kernel)) ggX4_breakingPlace_X8_meets
set_option maxRecDepth 20000 in
theorem ggX4_breakingPlace_X8_weight : GoodIn wsX4_breakingPlace wsX8_weight := goodIn_r _ [20, 21, 16, 22, 23, 24, 25, 11, 12, 13, 9, 14, 15, 52, 53, 54, 55] (by decide +kernel) (by decide +kernel)
