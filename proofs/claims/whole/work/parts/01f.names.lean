theorem dX11_readSleigh_34 : decode cX11_readSleigh 34 = .ok (.dup, 1) := by decide +kernel
theorem dX11_readSleigh_35 : decode cX11_readSleigh 35 = .ok (.getfield 133, 3) := by decide +kernel
theorem dX11_readSleigh_38 : decode cX11_readSleigh 38 = .ok (.iconst 1, 1) := by decide +kernel
theorem dX11_readSleigh_39 : decode cX11_readSleigh 39 = .ok (.iadd, 1) := by decide +kernel
theorem dX11_readSleigh_40 : decode cX11_readSleigh 40 = .ok (.putfield 133, 3) := by decide +kernel
theorem dX11_readSleigh_43 : decode cX11_readSleigh 43 = .ok (.aload_n 0, 1) := by decide +kernel
theorem dX11_readSleigh_44 : decode cX11_readSleigh 44 = .ok (.getfield 37, 3) := by decide +kernel
theorem dX11_readSleigh_47 : decode cX11_readSleigh 47 = .ok (.iload_n 1, 1) := by decide +kernel
theorem dX11_readSleigh_48 : decode cX11_readSleigh 48 = .ok (.iconst 1, 1) := by decide +kernel
theorem dX11_readSleigh_49 : decode cX11_readSleigh 49 = .ok (.iadd, 1) := by decide +kernel
theorem dX11_readSleigh_50 : decode cX11_readSleigh 50 = .ok (.aload_n 0, 1) := by decide +kernel
theorem dX11_readSleigh_51 : decode cX11_readSleigh 51 = .ok (.invokevirtual 136, 3) := by decide +kernel
theorem dX11_readSleigh_54 : decode cX11_readSleigh 54 = .ok (.bipush 48, 2) := by decide +kernel
theorem dX11_readSleigh_56 : decode cX11_readSleigh 56 = .ok (.isub, 1) := by decide +kernel
theorem dX11_readSleigh_57 : decode cX11_readSleigh 57 = .ok (.iastore, 1) := by decide +kernel
theorem dX11_readSleigh_58 : decode cX11_readSleigh 58 = .ok (.aload_n 0, 1) := by decide +kernel
theorem dX11_readSleigh_59 : decode cX11_readSleigh 59 = .ok (.getfield 37, 3) := by decide +kernel
theorem dX11_readSleigh_62 : decode cX11_readSleigh 62 = .ok (.iload_n 1, 1) := by decide +kernel
theorem dX11_readSleigh_63 : decode cX11_readSleigh 63 = .ok (.iconst 1, 1) := by decide +kernel
theorem dX11_readSleigh_64 : decode cX11_readSleigh 64 = .ok (.iadd, 1) := by decide +kernel
theorem dX11_readSleigh_65 : decode cX11_readSleigh 65 = .ok (.iaload, 1) := by decide +kernel
theorem dX11_readSleigh_66 : decode cX11_readSleigh 66 = .ok (.i2l, 1) := by decide +kernel
theorem dX11_readSleigh_67 : decode cX11_readSleigh 67 = .ok (.lconst 1, 1) := by decide +kernel
theorem dX11_readSleigh_68 : decode cX11_readSleigh 68 = .ok (.ldc2_w 102, 3) := by decide +kernel
theorem dX11_readSleigh_71 : decode cX11_readSleigh 71 = .ok (.invokestatic 73, 3) := by decide +kernel
theorem dX11_readSleigh_74 : decode cX11_readSleigh 74 = .ok (.ifCond .ne 5, 3) := by decide +kernel
theorem dX11_readSleigh_77 : decode cX11_readSleigh 77 = .ok (.iconst 0, 1) := by decide +kernel
theorem dX11_readSleigh_78 : decode cX11_readSleigh 78 = .ok (.ireturn, 1) := by decide +kernel
theorem dX11_readSleigh_79 : decode cX11_readSleigh 79 = .ok (.aload_n 0, 1) := by decide +kernel
theorem dX11_readSleigh_80 : decode cX11_readSleigh 80 = .ok (.dup, 1) := by decide +kernel
theorem dX11_readSleigh_81 : decode cX11_readSleigh 81 = .ok (.getfield 133, 3) := by decide +kernel
theorem dX11_readSleigh_84 : decode cX11_readSleigh 84 = .ok (.iconst 1, 1) := by decide +kernel
theorem dX11_readSleigh_85 : decode cX11_readSleigh 85 = .ok (.iadd, 1) := by decide +kernel
theorem dX11_readSleigh_86 : decode cX11_readSleigh 86 = .ok (.putfield 133, 3) := by decide +kernel
theorem dX11_readSleigh_89 : decode cX11_readSleigh 89 = .ok (.aload_n 0, 1) := by decide +kernel
theorem dX11_readSleigh_90 : decode cX11_readSleigh 90 = .ok (.getfield 37, 3) := by decide +kernel
theorem dX11_readSleigh_93 : decode cX11_readSleigh 93 = .ok (.iload_n 1, 1) := by decide +kernel
theorem dX11_readSleigh_94 : decode cX11_readSleigh 94 = .ok (.iconst 2, 1) := by decide +kernel
theorem dX11_readSleigh_95 : decode cX11_readSleigh 95 = .ok (.iadd, 1) := by decide +kernel
theorem dX11_readSleigh_96 : decode cX11_readSleigh 96 = .ok (.iconst 0, 1) := by decide +kernel
theorem dX11_readSleigh_97 : decode cX11_readSleigh 97 = .ok (.iastore, 1) := by decide +kernel
theorem dX11_readSleigh_98 : decode cX11_readSleigh 98 = .ok (.aload_n 0, 1) := by decide +kernel
theorem dX11_readSleigh_99 : decode cX11_readSleigh 99 = .ok (.invokevirtual 136, 3) := by decide +kernel
theorem dX11_readSleigh_102 : decode cX11_readSleigh 102 = .ok (.bipush 109, 2) := by decide +kernel
theorem dX11_readSleigh_104 : decode cX11_readSleigh 104 = .ok (.if_icmp .ne 28, 3) := by decide +kernel
theorem dX11_readSleigh_107 : decode cX11_readSleigh 107 = .ok (.aload_n 0, 1) := by decide +kernel
theorem dX11_readSleigh_108 : decode cX11_readSleigh 108 = .ok (.dup, 1) := by decide +kernel
theorem dX11_readSleigh_109 : decode cX11_readSleigh 109 = .ok (.getfield 133, 3) := by decide +kernel
theorem dX11_readSleigh_112 : decode cX11_readSleigh 112 = .ok (.iconst 1, 1) := by decide +kernel
theorem dX11_readSleigh_113 : decode cX11_readSleigh 113 = .ok (.iadd, 1) := by decide +kernel
theorem dX11_readSleigh_114 : decode cX11_readSleigh 114 = .ok (.putfield 133, 3) := by decide +kernel
theorem dX11_readSleigh_117 : decode cX11_readSleigh 117 = .ok (.aload_n 0, 1) := by decide +kernel
theorem dX11_readSleigh_118 : decode cX11_readSleigh 118 = .ok (.getfield 37, 3) := by decide +kernel
theorem dX11_readSleigh_121 : decode cX11_readSleigh 121 = .ok (.iload_n 1, 1) := by decide +kernel
theorem dX11_readSleigh_122 : decode cX11_readSleigh 122 = .ok (.iconst 2, 1) := by decide +kernel
theorem dX11_readSleigh_123 : decode cX11_readSleigh 123 = .ok (.iadd, 1) := by decide +kernel
theorem dX11_readSleigh_124 : decode cX11_readSleigh 124 = .ok (.aload_n 0, 1) := by decide +kernel
theorem dX11_readSleigh_125 : decode cX11_readSleigh 125 = .ok (.iconst 0, 1) := by decide +kernel
theorem dX11_readSleigh_126 : decode cX11_readSleigh 126 = .ok (.bipush 99, 2) := by decide +kernel
theorem dX11_readSleigh_128 : decode cX11_readSleigh 128 = .ok (.invokevirtual 158, 3) := by decide +kernel
theorem dX11_readSleigh_131 : decode cX11_readSleigh 131 = .ok (.iastore, 1) := by decide +kernel
theorem dX11_readSleigh_132 : decode cX11_readSleigh 132 = .ok (.aload_n 0, 1) := by decide +kernel
theorem dX11_readSleigh_133 : decode cX11_readSleigh 133 = .ok (.getfield 37, 3) := by decide +kernel
theorem dX11_readSleigh_136 : decode cX11_readSleigh 136 = .ok (.iload_n 1, 1) := by decide +kernel
theorem dX11_readSleigh_137 : decode cX11_readSleigh 137 = .ok (.iconst 2, 1) := by decide +kernel
theorem dX11_readSleigh_138 : decode cX11_readSleigh 138 = .ok (.iadd, 1) := by decide +kernel
theorem dX11_readSleigh_139 : decode cX11_readSleigh 139 = .ok (.iaload, 1) := by decide +kernel
theorem dX11_readSleigh_140 : decode cX11_readSleigh 140 = .ok (.ifCond .lt 7, 3) := by decide +kernel
theorem dX11_readSleigh_143 : decode cX11_readSleigh 143 = .ok (.iconst 1, 1) := by decide +kernel
theorem dX11_readSleigh_144 : decode cX11_readSleigh 144 = .ok (.goto 4, 3) := by decide +kernel
theorem dX11_readSleigh_147 : decode cX11_readSleigh 147 = .ok (.iconst 0, 1) := by decide +kernel
theorem dX11_readSleigh_148 : decode cX11_readSleigh 148 = .ok (.ireturn, 1) := by decide +kernel
set_option maxRecDepth 20000 in
theorem ggX11_readSleighs_X11_readSleigh : GoodIn wsX11_readSleighs wsX11_readSleigh := goodIn_r _ [7, 8, 1, 9, 10, 11, 12, 6, 13, 14, 15, 16, 17, 18, 19, 20, 21, 22, 23, 24, 25, 26, 27, 28, 29, 30, 31, 32, 33, 34, 35, 36, 37, 38, 39, 40, 41, 42, 43, 44, 45, 46, 47, 48, 49, 50, 51, 52] (by decide +kernel) (by decide +kernel)
set_option maxRecDepth 20000 in
theorem gX11_readSleighs_X11_readSleigh : GoodIn wsX11_readSleighs (wsV RX11 161 RX11 yX11_readSleigh wsX11_readSleigh) := goodIn_app (goodIn_of _ (by decide +kernel)) ggX11_readSleighs_X11_readSleigh
set_option maxRecDepth 20000 in
theorem ggX11_readSleighs_X11_nextByte : GoodIn wsX11_readSleighs wsX11_nextByte := goodIn_r _ [21, 1, 14, 15, 25, 26, 27, 28, 29, 30, 31, 32, 33, 34, 35, 36, 37, 38, 39, 40, 41, 42, 43, 44, 45, 46, 47, 48, 49, 50, 51, 52] (by decide +kernel) (by decide +kernel)
set_option maxRecDepth 20000 in
theorem gX11_readSleighs_X11_nextByte : GoodIn wsX11_readSleighs (wsV RX11 136 RX11 yX11_nextByte wsX11_nextByte) := goodIn_app (goodIn_of _ (by decide +kernel)) ggX11_readSleighs_X11_nextByte
theorem dX11_readSleighs_0 : decode cX11_readSleighs 0 = .ok (.aload_n 0, 1) := by decide +kernel
theorem dX11_readSleighs_1 : decode cX11_readSleighs 1 = .ok (.iconst 0, 1) := by decide +kernel
theorem dX11_readSleighs_2 : decode cX11_readSleighs 2 = .ok (.putfield 133, 3) := by decide +kernel
theorem dX11_readSleighs_5 : decode cX11_readSleighs 5 = .ok (.iconst 0, 1) := by decide +kernel
theorem dX11_readSleighs_6 : decode cX11_readSleighs 6 = .ok (.istore_n 1, 1) := by decide +kernel
theorem dX11_readSleighs_7 : decode cX11_readSleighs 7 = .ok (.iload_n 1, 1) := by decide +kernel
theorem dX11_readSleighs_8 : decode cX11_readSleighs 8 = .ok (.bipush 6, 2) := by decide +kernel
theorem dX11_readSleighs_10 : decode cX11_readSleighs 10 = .ok (.if_icmp .ge 62, 3) := by decide +kernel
theorem dX11_readSleighs_13 : decode cX11_readSleighs 13 = .ok (.aload_n 0, 1) := by decide +kernel
theorem dX11_readSleighs_14 : decode cX11_readSleighs 14 = .ok (.iconst 3, 1) := by decide +kernel
theorem dX11_readSleighs_15 : decode cX11_readSleighs 15 = .ok (.iload_n 1, 1) := by decide +kernel
theorem dX11_readSleighs_16 : decode cX11_readSleighs 16 = .ok (.imul, 1) := by decide +kernel
theorem dX11_readSleighs_17 : decode cX11_readSleighs 17 = .ok (.invokevirtual 161, 3) := by decide +kernel
theorem dX11_readSleighs_20 : decode cX11_readSleighs 20 = .ok (.ifCond .ne 5, 3) := by decide +kernel
theorem dX11_readSleighs_23 : decode cX11_readSleighs 23 = .ok (.iconst 0, 1) := by decide +kernel
theorem dX11_readSleighs_24 : decode cX11_readSleighs 24 = .ok (.ireturn, 1) := by decide +kernel
theorem dX11_readSleighs_25 : decode cX11_readSleighs 25 = .ok (.aload_n 0, 1) := by decide +kernel
theorem dX11_readSleighs_26 : decode cX11_readSleighs 26 = .ok (.iload_n 1, 1) := by decide +kernel
theorem dX11_readSleighs_27 : decode cX11_readSleighs 27 = .ok (.iconst 1, 1) := by decide +kernel
theorem dX11_readSleighs_28 : decode cX11_readSleighs 28 = .ok (.iadd, 1) := by decide +kernel
theorem dX11_readSleighs_29 : decode cX11_readSleighs 29 = .ok (.putfield 147, 3) := by decide +kernel
theorem dX11_readSleighs_32 : decode cX11_readSleighs 32 = .ok (.aload_n 0, 1) := by decide +kernel
theorem dX11_readSleighs_33 : decode cX11_readSleighs 33 = .ok (.invokevirtual 136, 3) := by decide +kernel
theorem dX11_readSleighs_36 : decode cX11_readSleighs 36 = .ok (.istore_n 2, 1) := by decide +kernel
theorem dX11_readSleighs_37 : decode cX11_readSleighs 37 = .ok (.iload_n 2, 1) := by decide +kernel
theorem dX11_readSleighs_38 : decode cX11_readSleighs 38 = .ok (.ifCond .ge 5, 3) := by decide +kernel
theorem dX11_readSleighs_41 : decode cX11_readSleighs 41 = .ok (.iconst 1, 1) := by decide +kernel
theorem dX11_readSleighs_42 : decode cX11_readSleighs 42 = .ok (.ireturn, 1) := by decide +kernel
theorem dX11_readSleighs_43 : decode cX11_readSleighs 43 = .ok (.iload_n 2, 1) := by decide +kernel
theorem dX11_readSleighs_44 : decode cX11_readSleighs 44 = .ok (.bipush 44, 2) := by decide +kernel
theorem dX11_readSleighs_46 : decode cX11_readSleighs 46 = .ok (.if_icmp .ne 8, 3) := by decide +kernel
theorem dX11_readSleighs_49 : decode cX11_readSleighs 49 = .ok (.iload_n 1, 1) := by decide +kernel
theorem dX11_readSleighs_50 : decode cX11_readSleighs 50 = .ok (.iconst 5, 1) := by decide +kernel
theorem dX11_readSleighs_51 : decode cX11_readSleighs 51 = .ok (.if_icmp .ne 5, 3) := by decide +kernel
theorem dX11_readSleighs_54 : decode cX11_readSleighs 54 = .ok (.iconst 0, 1) := by decide +kernel
theorem dX11_readSleighs_55 : decode cX11_readSleighs 55 = .ok (.ireturn, 1) := by decide +kernel
theorem dX11_readSleighs_56 : decode cX11_readSleighs 56 = .ok (.aload_n 0, 1) := by decide +kernel
theorem dX11_readSleighs_57 : decode cX11_readSleighs 57 = .ok (.dup, 1) := by decide +kernel
theorem dX11_readSleighs_58 : decode cX11_readSleighs 58 = .ok (.getfield 133, 3) := by decide +kernel
theorem dX11_readSleighs_61 : decode cX11_readSleighs 61 = .ok (.iconst 1, 1) := by decide +kernel
theorem dX11_readSleighs_62 : decode cX11_readSleighs 62 = .ok (.iadd, 1) := by decide +kernel
theorem dX11_readSleighs_63 : decode cX11_readSleighs 63 = .ok (.putfield 133, 3) := by decide +kernel
theorem dX11_readSleighs_66 : decode cX11_readSleighs 66 = .ok (.iinc 1 1, 3) := by decide +kernel
theorem dX11_readSleighs_69 : decode cX11_readSleighs 69 = .ok (.goto (-62), 3) := by decide +kernel
theorem dX11_readSleighs_72 : decode cX11_readSleighs 72 = .ok (.iconst 0, 1) := by decide +kernel
theorem dX11_readSleighs_73 : decode cX11_readSleighs 73 = .ok (.ireturn, 1) := by decide +kernel
set_option maxRecDepth 20000 in
theorem ggX11_sleighs_X11_readSleighs : GoodIn wsX11_sleighs wsX11_readSleighs := goodIn_r _ [13, 2, 3, 14, 15, 16, 12, 17, 6, 18, 19, 20, 21, 22, 1, 23, 24, 25, 26, 27, 28, 29, 30, 31, 32, 33, 34, 35, 36, 37, 38, 39, 40, 41, 42, 43, 44, 45, 46, 47, 48, 49, 50, 51, 52, 53, 54, 55, 56, 57, 58, 59, 60] (by decide +kernel) (by decide +kernel)
set_option maxRecDepth 20000 in
theorem gX11_sleighs_X11_readSleighs : GoodIn wsX11_sleighs (wsV RX11 164 RX11 yX11_readSleighs wsX11_readSleighs) := goodIn_app (goodIn_of _ (by decide +kernel)) ggX11_sleighs_X11_readSleighs
set_option maxRecDepth 20000 in
theorem ggX11_sleighs_X11_nextByte : GoodIn wsX11_sleighs wsX11_nextByte := goodIn_r _ [29, 2, 1, 23, 33, 34, 35, 36, 37, 38, 39, 40, 41, 42, 43, 44, 45, 46, 47, 48, 49, 50, 51, 52, 53, 54, 55, 56, 57, 58, 59, 60] (by decide +kernel) (by decide +kernel)
set_option maxRecDepth 20000 in
theorem gX11_sleighs_X11_nextByte : GoodIn wsX11_sleighs (wsV RX11 136 RX11 yX11_nextByte wsX11_nextByte) := goodIn_app (goodIn_of _ (by decide +kernel)) ggX11_sleighs_X11_nextByte
theorem dX11_sleighs_0 : decode cX11_sleighs 0 = .ok (.aload_n 0, 1) := by decide +kernel
theorem dX11_sleighs_1 : decode cX11_sleighs 1 = .ok (.invokevirtual 164, 3) := by decide +kernel
theorem dX11_sleighs_4 : decode cX11_sleighs 4 = .ok (.istore_n 1, 1) := by decide +kernel
theorem dX11_sleighs_5 : decode cX11_sleighs 5 = .ok (.iload_n 1, 1) := by decide +kernel
theorem dX11_sleighs_6 : decode cX11_sleighs 6 = .ok (.ifCond .ne 8, 3) := by decide +kernel
theorem dX11_sleighs_9 : decode cX11_sleighs 9 = .ok (.aload_n 0, 1) := by decide +kernel
theorem dX11_sleighs_10 : decode cX11_sleighs 10 = .ok (.invokevirtual 136, 3) := by decide +kernel
theorem dX11_sleighs_13 : decode cX11_sleighs 13 = .ok (.pop, 1) := by decide +kernel
theorem dX11_sleighs_14 : decode cX11_sleighs 14 = .ok (.aload_n 0, 1) := by decide +kernel
theorem dX11_sleighs_15 : decode cX11_sleighs 15 = .ok (.iconst 0, 1) := by decide +kernel
theorem dX11_sleighs_16 : decode cX11_sleighs 16 = .ok (.putfield 130, 3) := by decide +kernel
theorem dX11_sleighs_19 : decode cX11_sleighs 19 = .ok (.iload_n 1, 1) := by decide +kernel
theorem dX11_sleighs_20 : decode cX11_sleighs 20 = .ok (.ifCond .ne 11, 3) := by decide +kernel
theorem dX11_sleighs_23 : decode cX11_sleighs 23 = .ok (.bipush (-20), 2) := by decide +kernel
theorem dX11_sleighs_25 : decode cX11_sleighs 25 = .ok (.aload_n 0, 1) := by decide +kernel
theorem dX11_sleighs_26 : decode cX11_sleighs 26 = .ok (.getfield 133, 3) := by decide +kernel
theorem dX11_sleighs_29 : decode cX11_sleighs 29 = .ok (.isub, 1) := by decide +kernel
theorem dX11_sleighs_30 : decode cX11_sleighs 30 = .ok (.ireturn, 1) := by decide +kernel
theorem dX11_sleighs_31 : decode cX11_sleighs 31 = .ok (.aload_n 0, 1) := by decide +kernel
theorem dX11_sleighs_32 : decode cX11_sleighs 32 = .ok (.aload_n 0, 1) := by decide +kernel
theorem dX11_sleighs_33 : decode cX11_sleighs 33 = .ok (.getfield 147, 3) := by decide +kernel
theorem dX11_sleighs_36 : decode cX11_sleighs 36 = .ok (.putfield 112, 3) := by decide +kernel
theorem dX11_sleighs_39 : decode cX11_sleighs 39 = .ok (.iconst 0, 1) := by decide +kernel
theorem dX11_sleighs_40 : decode cX11_sleighs 40 = .ok (.istore_n 2, 1) := by decide +kernel
theorem dX11_sleighs_41 : decode cX11_sleighs 41 = .ok (.iload_n 2, 1) := by decide +kernel
theorem dX11_sleighs_42 : decode cX11_sleighs 42 = .ok (.aload_n 0, 1) := by decide +kernel
theorem dX11_sleighs_43 : decode cX11_sleighs 43 = .ok (.getfield 112, 3) := by decide +kernel
theorem dX11_sleighs_46 : decode cX11_sleighs 46 = .ok (.if_icmp .ge 55, 3) := by decide +kernel
theorem dX11_sleighs_49 : decode cX11_sleighs 49 = .ok (.aload_n 0, 1) := by decide +kernel
theorem dX11_sleighs_50 : decode cX11_sleighs 50 = .ok (.getfield 13, 3) := by decide +kernel
theorem dX11_sleighs_53 : decode cX11_sleighs 53 = .ok (.iload_n 2, 1) := by decide +kernel
theorem dX11_sleighs_54 : decode cX11_sleighs 54 = .ok (.aload_n 0, 1) := by decide +kernel
theorem dX11_sleighs_55 : decode cX11_sleighs 55 = .ok (.getfield 37, 3) := by decide +kernel
theorem dX11_sleighs_58 : decode cX11_sleighs 58 = .ok (.iconst 3, 1) := by decide +kernel
theorem dX11_sleighs_59 : decode cX11_sleighs 59 = .ok (.iload_n 2, 1) := by decide +kernel
theorem dX11_sleighs_60 : decode cX11_sleighs 60 = .ok (.imul, 1) := by decide +kernel
theorem dX11_sleighs_61 : decode cX11_sleighs 61 = .ok (.iaload, 1) := by decide +kernel
theorem dX11_sleighs_62 : decode cX11_sleighs 62 = .ok (.iastore, 1) := by decide +kernel
theorem dX11_sleighs_63 : decode cX11_sleighs 63 = .ok (.aload_n 0, 1) := by decide +kernel
theorem dX11_sleighs_64 : decode cX11_sleighs 64 = .ok (.getfield 16, 3) := by decide +kernel
theorem dX11_sleighs_67 : decode cX11_sleighs 67 = .ok (.iload_n 2, 1) := by decide +kernel
theorem dX11_sleighs_68 : decode cX11_sleighs 68 = .ok (.aload_n 0, 1) := by decide +kernel
theorem dX11_sleighs_69 : decode cX11_sleighs 69 = .ok (.getfield 37, 3) := by decide +kernel
theorem dX11_sleighs_72 : decode cX11_sleighs 72 = .ok (.iconst 3, 1) := by decide +kernel
theorem dX11_sleighs_73 : decode cX11_sleighs 73 = .ok (.iload_n 2, 1) := by decide +kernel
theorem dX11_sleighs_74 : decode cX11_sleighs 74 = .ok (.imul, 1) := by decide +kernel
theorem dX11_sleighs_75 : decode cX11_sleighs 75 = .ok (.iconst 1, 1) := by decide +kernel
theorem dX11_sleighs_76 : decode cX11_sleighs 76 = .ok (.iadd, 1) := by decide +kernel
theorem dX11_sleighs_77 : decode cX11_sleighs 77 = .ok (.iaload, 1) := by decide +kernel
theorem dX11_sleighs_78 : decode cX11_sleighs 78 = .ok (.iastore, 1) := by decide +kernel
theorem dX11_sleighs_79 : decode cX11_sleighs 79 = .ok (.aload_n 0, 1) := by decide +kernel
theorem dX11_sleighs_80 : decode cX11_sleighs 80 = .ok (.getfield 19, 3) := by decide +kernel
theorem dX11_sleighs_83 : decode cX11_sleighs 83 = .ok (.iload_n 2, 1) := by decide +kernel
theorem dX11_sleighs_84 : decode cX11_sleighs 84 = .ok (.aload_n 0, 1) := by decide +kernel
theorem dX11_sleighs_85 : decode cX11_sleighs 85 = .ok (.getfield 37, 3) := by decide +kernel
theorem dX11_sleighs_88 : decode cX11_sleighs 88 = .ok (.iconst 3, 1) := by decide +kernel
theorem dX11_sleighs_89 : decode cX11_sleighs 89 = .ok (.iload_n 2, 1) := by decide +kernel
theorem dX11_sleighs_90 : decode cX11_sleighs 90 = .ok (.imul, 1) := by decide +kernel
theorem dX11_sleighs_91 : decode cX11_sleighs 91 = .ok (.iconst 2, 1) := by decide +kernel
theorem dX11_sleighs_92 : decode cX11_sleighs 92 = .ok (.iadd, 1) := by decide +kernel
theorem dX11_sleighs_93 : decode cX11_sleighs 93 = .ok (.iaload, 1) := by decide +kernel
theorem dX11_sleighs_94 : decode cX11_sleighs 94 = .ok (.iastore, 1) := by decide +kernel
theorem dX11_sleighs_95 : decode cX11_sleighs 95 = .ok (.iinc 2 1, 3) := by decide +kernel
theorem dX11_sleighs_98 : decode cX11_sleighs 98 = .ok (.goto (-57), 3) := by decide +kernel
theorem dX11_sleighs_101 : decode cX11_sleighs 101 = .ok (.aload_n 0, 1) := by decide +kernel
theorem dX11_sleighs_102 : decode cX11_sleighs 102 = .ok (.getfield 112, 3) := by decide +kernel
theorem dX11_sleighs_105 : decode cX11_sleighs 105 = .ok (.ireturn, 1) := by decide +kernel
set_option maxRecDepth 20000 in
theorem ggX11_sleigh_X11_in : GoodIn wsX11_sleigh wsX11_in := goodIn_r _ [10] (by decide +kernel) (by decide +kernel)
set_option maxRecDepth 20000 in
theorem gX11_sleigh_X11_in : GoodIn wsX11_sleigh (va_wsS RX11 73 yX11_in wsX11_in) := goodIn_app (goodIn_of _ (by decide +kernel)) ggX11_sleigh_X11_in
theorem dX11_sleigh_0 : decode cX11_sleigh 0 = .ok (.iload_n 1, 1) := by decide +kernel
theorem dX11_sleigh_1 : decode cX11_sleigh 1 = .ok (.i2l, 1) := by decide +kernel
theorem dX11_sleigh_2 : decode cX11_sleigh 2 = .ok (.lconst 1, 1) := by decide +kernel
theorem dX11_sleigh_3 : decode cX11_sleigh 3 = .ok (.ldc2_w 110, 3) := by decide +kernel
theorem dX11_sleigh_6 : decode cX11_sleigh 6 = .ok (.invokestatic 73, 3) := by decide +kernel
theorem dX11_sleigh_9 : decode cX11_sleigh 9 = .ok (.ifCond .eq 27, 3) := by decide +kernel
theorem dX11_sleigh_12 : decode cX11_sleigh 12 = .ok (.iload_n 2, 1) := by decide +kernel
theorem dX11_sleigh_13 : decode cX11_sleigh 13 = .ok (.i2l, 1) := by decide +kernel
theorem dX11_sleigh_14 : decode cX11_sleigh 14 = .ok (.lconst 1, 1) := by decide +kernel
theorem dX11_sleigh_15 : decode cX11_sleigh 15 = .ok (.ldc2_w 102, 3) := by decide +kernel
theorem dX11_sleigh_18 : decode cX11_sleigh 18 = .ok (.invokestatic 73, 3) := by decide +kernel
theorem dX11_sleigh_21 : decode cX11_sleigh 21 = .ok (.ifCond .eq 15, 3) := by decide +kernel
theorem dX11_sleigh_24 : decode cX11_sleigh 24 = .ok (.iload_n 3, 1) := by decide +kernel
theorem dX11_sleigh_25 : decode cX11_sleigh 25 = .ok (.i2l, 1) := by decide +kernel
theorem dX11_sleigh_26 : decode cX11_sleigh 26 = .ok (.lconst 0, 1) := by decide +kernel
theorem dX11_sleigh_27 : decode cX11_sleigh 27 = .ok (.ldc2_w 110, 3) := by decide +kernel
theorem dX11_sleigh_30 : decode cX11_sleigh 30 = .ok (.invokestatic 73, 3) := by decide +kernel
theorem dX11_sleigh_33 : decode cX11_sleigh 33 = .ok (.ifCond .ne 5, 3) := by decide +kernel
theorem dX11_sleigh_36 : decode cX11_sleigh 36 = .ok (.iconst (-1), 1) := by decide +kernel
theorem dX11_sleigh_37 : decode cX11_sleigh 37 = .ok (.ireturn, 1) := by decide +kernel
theorem dX11_sleigh_38 : decode cX11_sleigh 38 = .ok (.aload_n 0, 1) := by decide +kernel
theorem dX11_sleigh_39 : decode cX11_sleigh 39 = .ok (.getfield 112, 3) := by decide +kernel
theorem dX11_sleigh_42 : decode cX11_sleigh 42 = .ok (.bipush 6, 2) := by decide +kernel
theorem dX11_sleigh_44 : decode cX11_sleigh 44 = .ok (.if_icmp .ne 6, 3) := by decide +kernel
theorem dX11_sleigh_47 : decode cX11_sleigh 47 = .ok (.bipush (-3), 2) := by decide +kernel
theorem dX11_sleigh_49 : decode cX11_sleigh 49 = .ok (.ireturn, 1) := by decide +kernel
theorem dX11_sleigh_50 : decode cX11_sleigh 50 = .ok (.aload_n 0, 1) := by decide +kernel
theorem dX11_sleigh_51 : decode cX11_sleigh 51 = .ok (.getfield 13, 3) := by decide +kernel
theorem dX11_sleigh_54 : decode cX11_sleigh 54 = .ok (.aload_n 0, 1) := by decide +kernel
theorem dX11_sleigh_55 : decode cX11_sleigh 55 = .ok (.getfield 112, 3) := by decide +kernel
theorem dX11_sleigh_58 : decode cX11_sleigh 58 = .ok (.iload_n 1, 1) := by decide +kernel
theorem dX11_sleigh_59 : decode cX11_sleigh 59 = .ok (.iastore, 1) := by decide +kernel
theorem dX11_sleigh_60 : decode cX11_sleigh 60 = .ok (.aload_n 0, 1) := by decide +kernel
theorem dX11_sleigh_61 : decode cX11_sleigh 61 = .ok (.getfield 16, 3) := by decide +kernel
theorem dX11_sleigh_64 : decode cX11_sleigh 64 = .ok (.aload_n 0, 1) := by decide +kernel
theorem dX11_sleigh_65 : decode cX11_sleigh 65 = .ok (.getfield 112, 3) := by decide +kernel
theorem dX11_sleigh_68 : decode cX11_sleigh 68 = .ok (.iload_n 2, 1) := by decide +kernel
theorem dX11_sleigh_69 : decode cX11_sleigh 69 = .ok (.iastore, 1) := by decide +kernel
theorem dX11_sleigh_70 : decode cX11_sleigh 70 = .ok (.aload_n 0, 1) := by decide +kernel
theorem dX11_sleigh_71 : decode cX11_sleigh 71 = .ok (.getfield 19, 3) := by decide +kernel
theorem dX11_sleigh_74 : decode cX11_sleigh 74 = .ok (.aload_n 0, 1) := by decide +kernel
theorem dX11_sleigh_75 : decode cX11_sleigh 75 = .ok (.getfield 112, 3) := by decide +kernel
theorem dX11_sleigh_78 : decode cX11_sleigh 78 = .ok (.iload_n 3, 1) := by decide +kernel
theorem dX11_sleigh_79 : decode cX11_sleigh 79 = .ok (.iastore, 1) := by decide +kernel
theorem dX11_sleigh_80 : decode cX11_sleigh 80 = .ok (.aload_n 0, 1) := by decide +kernel
theorem dX11_sleigh_81 : decode cX11_sleigh 81 = .ok (.dup, 1) := by decide +kernel
theorem dX11_sleigh_82 : decode cX11_sleigh 82 = .ok (.getfield 112, 3) := by decide +kernel
theorem dX11_sleigh_85 : decode cX11_sleigh 85 = .ok (.iconst 1, 1) := by decide +kernel
theorem dX11_sleigh_86 : decode cX11_sleigh 86 = .ok (.iadd, 1) := by decide +kernel
theorem dX11_sleigh_87 : decode cX11_sleigh 87 = .ok (.putfield 112, 3) := by decide +kernel
theorem dX11_sleigh_90 : decode cX11_sleigh 90 = .ok (.aload_n 0, 1) := by decide +kernel
theorem dX11_sleigh_91 : decode cX11_sleigh 91 = .ok (.getfield 112, 3) := by decide +kernel
theorem dX11_sleigh_94 : decode cX11_sleigh 94 = .ok (.iconst 1, 1) := by decide +kernel
theorem dX11_sleigh_95 : decode cX11_sleigh 95 = .ok (.isub, 1) := by decide +kernel
theorem dX11_sleigh_96 : decode cX11_sleigh 96 = .ok (.ireturn, 1) := by decide +kernel
theorem dX11_home_0 : decode cX11_home 0 = .ok (.aload_n 0, 1) := by decide +kernel
theorem dX11_home_1 : decode cX11_home 1 = .ok (.getfield 112, 3) := by decide +kernel
theorem dX11_home_4 : decode cX11_home 4 = .ok (.istore_n 1, 1) := by decide +kernel
theorem dX11_home_5 : decode cX11_home 5 = .ok (.aload_n 0, 1) := by decide +kernel
theorem dX11_home_6 : decode cX11_home 6 = .ok (.iconst 0, 1) := by decide +kernel
theorem dX11_home_7 : decode cX11_home 7 = .ok (.putfield 112, 3) := by decide +kernel
theorem dX11_home_10 : decode cX11_home 10 = .ok (.iload_n 1, 1) := by decide +kernel
theorem dX11_home_11 : decode cX11_home 11 = .ok (.ireturn, 1) := by decide +kernel
theorem dX11_nextTo_0 : decode cX11_nextTo 0 = .ok (.iload_n 1, 1) := by decide +kernel
theorem dX11_nextTo_1 : decode cX11_nextTo 1 = .ok (.ifCond .ne 18, 3) := by decide +kernel
theorem dX11_nextTo_4 : decode cX11_nextTo 4 = .ok (.iload_n 0, 1) := by decide +kernel
theorem dX11_nextTo_5 : decode cX11_nextTo 5 = .ok (.bipush 8, 2) := by decide +kernel
theorem dX11_nextTo_7 : decode cX11_nextTo 7 = .ok (.if_icmp .ge 7, 3) := by decide +kernel
theorem dX11_nextTo_10 : decode cX11_nextTo 10 = .ok (.iconst (-1), 1) := by decide +kernel
theorem dX11_nextTo_11 : decode cX11_nextTo 11 = .ok (.goto 7, 3) := by decide +kernel
theorem dX11_nextTo_14 : decode cX11_nextTo 14 = .ok (.iload_n 0, 1) := by decide +kernel
theorem dX11_nextTo_15 : decode cX11_nextTo 15 = .ok (.bipush 8, 2) := by decide +kernel
theorem dX11_nextTo_17 : decode cX11_nextTo 17 = .ok (.isub, 1) := by decide +kernel
theorem dX11_nextTo_18 : decode cX11_nextTo 18 = .ok (.ireturn, 1) := by decide +kernel
theorem dX11_nextTo_19 : decode cX11_nextTo 19 = .ok (.iload_n 1, 1) := by decide +kernel
theorem dX11_nextTo_20 : decode cX11_nextTo 20 = .ok (.iconst 3, 1) := by decide +kernel
theorem dX11_nextTo_21 : decode cX11_nextTo 21 = .ok (.if_icmp .ne 18, 3) := by decide +kernel
theorem dX11_nextTo_24 : decode cX11_nextTo 24 = .ok (.iload_n 0, 1) := by decide +kernel
theorem dX11_nextTo_25 : decode cX11_nextTo 25 = .ok (.bipush 55, 2) := by decide +kernel
theorem dX11_nextTo_27 : decode cX11_nextTo 27 = .ok (.if_icmp .le 7, 3) := by decide +kernel
theorem dX11_nextTo_30 : decode cX11_nextTo 30 = .ok (.iconst (-1), 1) := by decide +kernel
theorem dX11_nextTo_31 : decode cX11_nextTo 31 = .ok (.goto 7, 3) := by decide +kernel
theorem dX11_nextTo_34 : decode cX11_nextTo 34 = .ok (.iload_n 0, 1) := by decide +kernel
theorem dX11_nextTo_35 : decode cX11_nextTo 35 = .ok (.bipush 8, 2) := by decide +kernel
theorem dX11_nextTo_37 : decode cX11_nextTo 37 = .ok (.iadd, 1) := by decide +kernel
theorem dX11_nextTo_38 : decode cX11_nextTo 38 = .ok (.ireturn, 1) := by decide +kernel
theorem dX11_nextTo_39 : decode cX11_nextTo 39 = .ok (.iload_n 1, 1) := by decide +kernel
theorem dX11_nextTo_40 : decode cX11_nextTo 40 = .ok (.iconst 1, 1) := by decide +kernel
theorem dX11_nextTo_41 : decode cX11_nextTo 41 = .ok (.if_icmp .ne 20, 3) := by decide +kernel
theorem dX11_nextTo_44 : decode cX11_nextTo 44 = .ok (.iload_n 0, 1) := by decide +kernel
theorem dX11_nextTo_45 : decode cX11_nextTo 45 = .ok (.bipush 8, 2) := by decide +kernel
theorem dX11_nextTo_47 : decode cX11_nextTo 47 = .ok (.irem, 1) := by decide +kernel
theorem dX11_nextTo_48 : decode cX11_nextTo 48 = .ok (.ifCond .ne 7, 3) := by decide +kernel
theorem dX11_nextTo_51 : decode cX11_nextTo 51 = .ok (.iconst (-1), 1) := by decide +kernel
theorem dX11_nextTo_52 : decode cX11_nextTo 52 = .ok (.goto 25, 3) := by decide +kernel
theorem dX11_nextTo_55 : decode cX11_nextTo 55 = .ok (.iload_n 0, 1) := by decide +kernel
theorem dX11_nextTo_56 : decode cX11_nextTo 56 = .ok (.iconst 1, 1) := by decide +kernel
theorem dX11_nextTo_57 : decode cX11_nextTo 57 = .ok (.isub, 1) := by decide +kernel
theorem dX11_nextTo_58 : decode cX11_nextTo 58 = .ok (.goto 19, 3) := by decide +kernel
theorem dX11_nextTo_61 : decode cX11_nextTo 61 = .ok (.iload_n 0, 1) := by decide +kernel
theorem dX11_nextTo_62 : decode cX11_nextTo 62 = .ok (.bipush 8, 2) := by decide +kernel
theorem dX11_nextTo_64 : decode cX11_nextTo 64 = .ok (.irem, 1) := by decide +kernel
theorem dX11_nextTo_65 : decode cX11_nextTo 65 = .ok (.bipush 7, 2) := by decide +kernel
theorem dX11_nextTo_67 : decode cX11_nextTo 67 = .ok (.if_icmp .ne 7, 3) := by decide +kernel
theorem dX11_nextTo_70 : decode cX11_nextTo 70 = .ok (.iconst (-1), 1) := by decide +kernel
theorem dX11_nextTo_71 : decode cX11_nextTo 71 = .ok (.goto 6, 3) := by decide +kernel
theorem dX11_nextTo_74 : decode cX11_nextTo 74 = .ok (.iload_n 0, 1) := by decide +kernel
theorem dX11_nextTo_75 : decode cX11_nextTo 75 = .ok (.iconst 1, 1) := by decide +kernel
theorem dX11_nextTo_76 : decode cX11_nextTo 76 = .ok (.iadd, 1) := by decide +kernel
theorem dX11_nextTo_77 : decode cX11_nextTo 77 = .ok (.ireturn, 1) := by decide +kernel
set_option maxRecDepth 20000 in
theorem ggX11_areNext_X11_nextTo : GoodIn wsX11_areNext wsX11_nextTo := goodIn_r _ [4] (by decide +kernel) (by decide +kernel)
set_option maxRecDepth 20000 in
theorem gX11_areNext_X11_nextTo : GoodIn wsX11_areNext (va_wsS RX11 167 yX11_nextTo wsX11_nextTo) := goodIn_app (goodIn_of _ (by decide +kernel)) ggX11_areNext_X11_nextTo
theorem dX11_areNext_0 : decode cX11_areNext 0 = .ok (.iconst 0, 1) := by decide +kernel
theorem dX11_areNext_1 : decode cX11_areNext 1 = .ok (.istore_n 2, 1) := by decide +kernel
theorem dX11_areNext_2 : decode cX11_areNext 2 = .ok (.iconst 0, 1) := by decide +kernel
theorem dX11_areNext_3 : decode cX11_areNext 3 = .ok (.istore_n 3, 1) := by decide +kernel
theorem dX11_areNext_4 : decode cX11_areNext 4 = .ok (.iload_n 3, 1) := by decide +kernel
theorem dX11_areNext_5 : decode cX11_areNext 5 = .ok (.iconst 4, 1) := by decide +kernel
theorem dX11_areNext_6 : decode cX11_areNext 6 = .ok (.if_icmp .ge 28, 3) := by decide +kernel
theorem dX11_areNext_9 : decode cX11_areNext 9 = .ok (.iload_n 2, 1) := by decide +kernel
theorem dX11_areNext_10 : decode cX11_areNext 10 = .ok (.ifCond .ne 12, 3) := by decide +kernel
theorem dX11_areNext_13 : decode cX11_areNext 13 = .ok (.iload_n 0, 1) := by decide +kernel
theorem dX11_areNext_14 : decode cX11_areNext 14 = .ok (.iload_n 3, 1) := by decide +kernel
theorem dX11_areNext_15 : decode cX11_areNext 15 = .ok (.invokestatic 167, 3) := by decide +kernel
theorem dX11_areNext_18 : decode cX11_areNext 18 = .ok (.iload_n 1, 1) := by decide +kernel
theorem dX11_areNext_19 : decode cX11_areNext 19 = .ok (.if_icmp .ne 7, 3) := by decide +kernel
theorem dX11_areNext_22 : decode cX11_areNext 22 = .ok (.iconst 1, 1) := by decide +kernel
theorem dX11_areNext_23 : decode cX11_areNext 23 = .ok (.goto 4, 3) := by decide +kernel
theorem dX11_areNext_26 : decode cX11_areNext 26 = .ok (.iconst 0, 1) := by decide +kernel
theorem dX11_areNext_27 : decode cX11_areNext 27 = .ok (.istore_n 2, 1) := by decide +kernel
theorem dX11_areNext_28 : decode cX11_areNext 28 = .ok (.iinc 3 1, 3) := by decide +kernel
theorem dX11_areNext_31 : decode cX11_areNext 31 = .ok (.goto (-27), 3) := by decide +kernel
theorem dX11_areNext_34 : decode cX11_areNext 34 = .ok (.iload_n 2, 1) := by decide +kernel
theorem dX11_areNext_35 : decode cX11_areNext 35 = .ok (.ireturn, 1) := by decide +kernel
set_option maxRecDepth 20000 in
theorem ggX11_step_X11_isSquare : GoodIn wsX11_step wsX11_isSquare := goodIn_r _ [6, 7, 8, 9, 5, 10] (by decide +kernel) (by decide +kernel)
set_option maxRecDepth 20000 in
theorem gX11_step_X11_isSquare : GoodIn wsX11_step (va_wsS RX11 77 yX11_isSquare wsX11_isSquare) := goodIn_app (goodIn_of _ (by decide +kernel)) ggX11_step_X11_isSquare
set_option maxRecDepth 20000 in
theorem ggX11_step_X11_areNext : GoodIn wsX11_step wsX11_areNext := goodIn_r _ [13, 14, 15, 5, 16] (by decide +kernel) (by decide +kernel)
set_option maxRecDepth 20000 in
theorem gX11_step_X11_areNext : GoodIn wsX11_step (va_wsS RX11 170 yX11_areNext wsX11_areNext) := goodIn_app (goodIn_of _ (by decide +kernel)) ggX11_step_X11_areNext
theorem dX11_step_0 : decode cX11_step 0 = .ok (.iload_n 1, 1) := by decide +kernel
theorem dX11_step_1 : decode cX11_step 1 = .ok (.i2l, 1) := by decide +kernel
theorem dX11_step_2 : decode cX11_step 2 = .ok (.invokestatic 77, 3) := by decide +kernel
theorem dX11_step_5 : decode cX11_step 5 = .ok (.ifCond .ne 5, 3) := by decide +kernel
theorem dX11_step_8 : decode cX11_step 8 = .ok (.iconst (-1), 1) := by decide +kernel
theorem dX11_step_9 : decode cX11_step 9 = .ok (.ireturn, 1) := by decide +kernel
theorem dX11_step_10 : decode cX11_step 10 = .ok (.aload_n 0, 1) := by decide +kernel
theorem dX11_step_11 : decode cX11_step 11 = .ok (.getfield 116, 3) := by decide +kernel
theorem dX11_step_14 : decode cX11_step 14 = .ok (.ifCond .le 24, 3) := by decide +kernel
theorem dX11_step_17 : decode cX11_step 17 = .ok (.aload_n 0, 1) := by decide +kernel
theorem dX11_step_18 : decode cX11_step 18 = .ok (.getfield 22, 3) := by decide +kernel
theorem dX11_step_21 : decode cX11_step 21 = .ok (.aload_n 0, 1) := by decide +kernel
theorem dX11_step_22 : decode cX11_step 22 = .ok (.getfield 116, 3) := by decide +kernel
theorem dX11_step_25 : decode cX11_step 25 = .ok (.iconst 1, 1) := by decide +kernel
theorem dX11_step_26 : decode cX11_step 26 = .ok (.isub, 1) := by decide +kernel
theorem dX11_step_27 : decode cX11_step 27 = .ok (.iaload, 1) := by decide +kernel
theorem dX11_step_28 : decode cX11_step 28 = .ok (.iload_n 1, 1) := by decide +kernel
theorem dX11_step_29 : decode cX11_step 29 = .ok (.invokestatic 170, 3) := by decide +kernel
theorem dX11_step_32 : decode cX11_step 32 = .ok (.ifCond .ne 6, 3) := by decide +kernel
theorem dX11_step_35 : decode cX11_step 35 = .ok (.bipush (-2), 2) := by decide +kernel
theorem dX11_step_37 : decode cX11_step 37 = .ok (.ireturn, 1) := by decide +kernel
theorem dX11_step_38 : decode cX11_step 38 = .ok (.aload_n 0, 1) := by decide +kernel
theorem dX11_step_39 : decode cX11_step 39 = .ok (.getfield 116, 3) := by decide +kernel
theorem dX11_step_42 : decode cX11_step 42 = .ok (.bipush 24, 2) := by decide +kernel
theorem dX11_step_44 : decode cX11_step 44 = .ok (.if_icmp .ne 6, 3) := by decide +kernel
theorem dX11_step_47 : decode cX11_step 47 = .ok (.bipush (-3), 2) := by decide +kernel
theorem dX11_step_49 : decode cX11_step 49 = .ok (.ireturn, 1) := by decide +kernel
theorem dX11_step_50 : decode cX11_step 50 = .ok (.aload_n 0, 1) := by decide +kernel
theorem dX11_step_51 : decode cX11_step 51 = .ok (.getfield 22, 3) := by decide +kernel
theorem dX11_step_54 : decode cX11_step 54 = .ok (.aload_n 0, 1) := by decide +kernel
theorem dX11_step_55 : decode cX11_step 55 = .ok (.getfield 116, 3) := by decide +kernel
theorem dX11_step_58 : decode cX11_step 58 = .ok (.iload_n 1, 1) := by decide +kernel
theorem dX11_step_59 : decode cX11_step 59 = .ok (.iastore, 1) := by decide +kernel
theorem dX11_step_60 : decode cX11_step 60 = .ok (.aload_n 0, 1) := by decide +kernel
theorem dX11_step_61 : decode cX11_step 61 = .ok (.dup, 1) := by decide +kernel
theorem dX11_step_62 : decode cX11_step 62 = .ok (.getfield 116, 3) := by decide +kernel
theorem dX11_step_65 : decode cX11_step 65 = .ok (.iconst 1, 1) := by decide +kernel
theorem dX11_step_66 : decode cX11_step 66 = .ok (.iadd, 1) := by decide +kernel
theorem dX11_step_67 : decode cX11_step 67 = .ok (.putfield 116, 3) := by decide +kernel
theorem dX11_step_70 : decode cX11_step 70 = .ok (.aload_n 0, 1) := by decide +kernel
theorem dX11_step_71 : decode cX11_step 71 = .ok (.getfield 116, 3) := by decide +kernel
theorem dX11_step_74 : decode cX11_step 74 = .ok (.ireturn, 1) := by decide +kernel
set_option maxRecDepth 20000 in
theorem ggX11_back_X11_in : GoodIn wsX11_back wsX11_in := goodIn_r _ [6] (by decide +kernel) (by decide +kernel)
set_option maxRecDepth 20000 in
theorem gX11_back_X11_in : GoodIn wsX11_back (va_wsS RX11 73 yX11_in wsX11_in) := goodIn_app (goodIn_of _ (by decide +kernel)) ggX11_back_X11_in
theorem dX11_back_0 : decode cX11_back 0 = .ok (.iload_n 1, 1) := by decide +kernel
theorem dX11_back_1 : decode cX11_back 1 = .ok (.i2l, 1) := by decide +kernel
theorem dX11_back_2 : decode cX11_back 2 = .ok (.lconst 1, 1) := by decide +kernel
theorem dX11_back_3 : decode cX11_back 3 = .ok (.ldc2_w 174, 3) := by decide +kernel
theorem dX11_back_6 : decode cX11_back 6 = .ok (.invokestatic 73, 3) := by decide +kernel
theorem dX11_back_9 : decode cX11_back 9 = .ok (.ifCond .ne 5, 3) := by decide +kernel
theorem dX11_back_12 : decode cX11_back 12 = .ok (.iconst (-1), 1) := by decide +kernel
theorem dX11_back_13 : decode cX11_back 13 = .ok (.ireturn, 1) := by decide +kernel
theorem dX11_back_14 : decode cX11_back 14 = .ok (.iload_n 1, 1) := by decide +kernel
theorem dX11_back_15 : decode cX11_back 15 = .ok (.aload_n 0, 1) := by decide +kernel
theorem dX11_back_16 : decode cX11_back 16 = .ok (.getfield 116, 3) := by decide +kernel
theorem dX11_back_19 : decode cX11_back 19 = .ok (.if_icmp .le 6, 3) := by decide +kernel
theorem dX11_back_22 : decode cX11_back 22 = .ok (.bipush (-2), 2) := by decide +kernel
theorem dX11_back_24 : decode cX11_back 24 = .ok (.ireturn, 1) := by decide +kernel
theorem dX11_back_25 : decode cX11_back 25 = .ok (.aload_n 0, 1) := by decide +kernel
theorem dX11_back_26 : decode cX11_back 26 = .ok (.dup, 1) := by decide +kernel
theorem dX11_back_27 : decode cX11_back 27 = .ok (.getfield 116, 3) := by decide +kernel
theorem dX11_back_30 : decode cX11_back 30 = .ok (.iload_n 1, 1) := by decide +kernel
theorem dX11_back_31 : decode cX11_back 31 = .ok (.isub, 1) := by decide +kernel
theorem dX11_back_32 : decode cX11_back 32 = .ok (.putfield 116, 3) := by decide +kernel
theorem dX11_back_35 : decode cX11_back 35 = .ok (.aload_n 0, 1) := by decide +kernel
theorem dX11_back_36 : decode cX11_back 36 = .ok (.getfield 116, 3) := by decide +kernel
theorem dX11_back_39 : decode cX11_back 39 = .ok (.ireturn, 1) := by decide +kernel
theorem dX11_minuteAt_0 : decode cX11_minuteAt 0 = .ok (.aload_n 0, 1) := by decide +kernel
theorem dX11_minuteAt_1 : decode cX11_minuteAt 1 = .ok (.getfield 19, 3) := by decide +kernel
theorem dX11_minuteAt_4 : decode cX11_minuteAt 4 = .ok (.iload_n 1, 1) := by decide +kernel
theorem dX11_minuteAt_5 : decode cX11_minuteAt 5 = .ok (.iaload, 1) := by decide +kernel
theorem dX11_minuteAt_6 : decode cX11_minuteAt 6 = .ok (.iload_n 2, 1) := by decide +kernel
theorem dX11_minuteAt_7 : decode cX11_minuteAt 7 = .ok (.bipush 10, 2) := by decide +kernel
theorem dX11_minuteAt_9 : decode cX11_minuteAt 9 = .ok (.aload_n 0, 1) := by decide +kernel
theorem dX11_minuteAt_10 : decode cX11_minuteAt 10 = .ok (.getfield 16, 3) := by decide +kernel
theorem dX11_minuteAt_13 : decode cX11_minuteAt 13 = .ok (.iload_n 1, 1) := by decide +kernel
theorem dX11_minuteAt_14 : decode cX11_minuteAt 14 = .ok (.iaload, 1) := by decide +kernel
theorem dX11_minuteAt_15 : decode cX11_minuteAt 15 = .ok (.isub, 1) := by decide +kernel
theorem dX11_minuteAt_16 : decode cX11_minuteAt 16 = .ok (.imul, 1) := by decide +kernel
theorem dX11_minuteAt_17 : decode cX11_minuteAt 17 = .ok (.iadd, 1) := by decide +kernel
theorem dX11_minuteAt_18 : decode cX11_minuteAt 18 = .ok (.ireturn, 1) := by decide +kernel
set_option maxRecDepth 20000 in
theorem ggX11_needAt_X11_minuteAt : GoodIn wsX11_needAt wsX11_minuteAt := goodIn_r _ [8, 9, 2, 10, 11, 12, 13, 14, 15, 16, 17, 18, 19, 20, 21, 22, 23, 24, 25, 26, 27, 28, 29, 30, 31, 32, 33, 34, 35, 36, 37] (by decide +kernel) (by decide +kernel)
set_option maxRecDepth 20000 in
theorem gX11_needAt_X11_minuteAt : GoodIn wsX11_needAt (wsV RX11 176 RX11 yX11_minuteAt wsX11_minuteAt) := goodIn_app (goodIn_of _ (by decide +kernel)) ggX11_needAt_X11_minuteAt
theorem dX11_needAt_0 : decode cX11_needAt 0 = .ok (.aload_n 0, 1) := by decide +kernel
theorem dX11_needAt_1 : decode cX11_needAt 1 = .ok (.getfield 13, 3) := by decide +kernel
theorem dX11_needAt_4 : decode cX11_needAt 4 = .ok (.iload_n 1, 1) := by decide +kernel
theorem dX11_needAt_5 : decode cX11_needAt 5 = .ok (.iaload, 1) := by decide +kernel
theorem dX11_needAt_6 : decode cX11_needAt 6 = .ok (.bipush 10, 2) := by decide +kernel
theorem dX11_needAt_8 : decode cX11_needAt 8 = .ok (.aload_n 0, 1) := by decide +kernel
theorem dX11_needAt_9 : decode cX11_needAt 9 = .ok (.getfield 16, 3) := by decide +kernel
theorem dX11_needAt_12 : decode cX11_needAt 12 = .ok (.iload_n 1, 1) := by decide +kernel
theorem dX11_needAt_13 : decode cX11_needAt 13 = .ok (.iaload, 1) := by decide +kernel
theorem dX11_needAt_14 : decode cX11_needAt 14 = .ok (.iadd, 1) := by decide +kernel
theorem dX11_needAt_15 : decode cX11_needAt 15 = .ok (.imul, 1) := by decide +kernel
theorem dX11_needAt_16 : decode cX11_needAt 16 = .ok (.bipush 10, 2) := by decide +kernel
theorem dX11_needAt_18 : decode cX11_needAt 18 = .ok (.idiv, 1) := by decide +kernel
theorem dX11_needAt_19 : decode cX11_needAt 19 = .ok (.istore_n 3, 1) := by decide +kernel
theorem dX11_needAt_20 : decode cX11_needAt 20 = .ok (.aload_n 0, 1) := by decide +kernel
theorem dX11_needAt_21 : decode cX11_needAt 21 = .ok (.iload_n 1, 1) := by decide +kernel
theorem dX11_needAt_22 : decode cX11_needAt 22 = .ok (.iload_n 2, 1) := by decide +kernel
theorem dX11_needAt_23 : decode cX11_needAt 23 = .ok (.invokevirtual 176, 3) := by decide +kernel
theorem dX11_needAt_26 : decode cX11_needAt 26 = .ok (.istore 4, 2) := by decide +kernel
theorem dX11_needAt_28 : decode cX11_needAt 28 = .ok (.iconst 0, 1) := by decide +kernel
theorem dX11_needAt_29 : decode cX11_needAt 29 = .ok (.istore 5, 2) := by decide +kernel
theorem dX11_needAt_31 : decode cX11_needAt 31 = .ok (.iload 5, 2) := by decide +kernel
theorem dX11_needAt_33 : decode cX11_needAt 33 = .ok (.aload_n 0, 1) := by decide +kernel
theorem dX11_needAt_34 : decode cX11_needAt 34 = .ok (.getfield 112, 3) := by decide +kernel
theorem dX11_needAt_37 : decode cX11_needAt 37 = .ok (.if_icmp .ge 68, 3) := by decide +kernel
theorem dX11_needAt_40 : decode cX11_needAt 40 = .ok (.iload 4, 2) := by decide +kernel
theorem dX11_needAt_42 : decode cX11_needAt 42 = .ok (.aload_n 0, 1) := by decide +kernel
theorem dX11_needAt_43 : decode cX11_needAt 43 = .ok (.iload 5, 2) := by decide +kernel
theorem dX11_needAt_45 : decode cX11_needAt 45 = .ok (.iload_n 2, 1) := by decide +kernel
theorem dX11_needAt_46 : decode cX11_needAt 46 = .ok (.invokevirtual 176, 3) := by decide +kernel
theorem dX11_needAt_49 : decode cX11_needAt 49 = .ok (.isub, 1) := by decide +kernel
theorem dX11_needAt_50 : decode cX11_needAt 50 = .ok (.istore 6, 2) := by decide +kernel
theorem dX11_needAt_52 : decode cX11_needAt 52 = .ok (.iload 6, 2) := by decide +kernel
theorem dX11_needAt_54 : decode cX11_needAt 54 = .ok (.ifCond .ne 12, 3) := by decide +kernel
theorem dX11_needAt_57 : decode cX11_needAt 57 = .ok (.iload 5, 2) := by decide +kernel
theorem dX11_needAt_59 : decode cX11_needAt 59 = .ok (.iload_n 1, 1) := by decide +kernel
theorem dX11_needAt_60 : decode cX11_needAt 60 = .ok (.if_icmp .ge 6, 3) := by decide +kernel
theorem dX11_needAt_63 : decode cX11_needAt 63 = .ok (.bipush (-2), 2) := by decide +kernel
theorem dX11_needAt_65 : decode cX11_needAt 65 = .ok (.ireturn, 1) := by decide +kernel
theorem dX11_needAt_66 : decode cX11_needAt 66 = .ok (.iload_n 3, 1) := by decide +kernel
theorem dX11_needAt_67 : decode cX11_needAt 67 = .ok (.iload 6, 2) := by decide +kernel
theorem dX11_needAt_69 : decode cX11_needAt 69 = .ok (.ifCond .le 27, 3) := by decide +kernel
theorem dX11_needAt_72 : decode cX11_needAt 72 = .ok (.aload_n 0, 1) := by decide +kernel
theorem dX11_needAt_73 : decode cX11_needAt 73 = .ok (.getfield 13, 3) := by decide +kernel
theorem dX11_needAt_76 : decode cX11_needAt 76 = .ok (.iload 5, 2) := by decide +kernel
theorem dX11_needAt_78 : decode cX11_needAt 78 = .ok (.iaload, 1) := by decide +kernel
theorem dX11_needAt_79 : decode cX11_needAt 79 = .ok (.aload_n 0, 1) := by decide +kernel
theorem dX11_needAt_80 : decode cX11_needAt 80 = .ok (.getfield 16, 3) := by decide +kernel
theorem dX11_needAt_83 : decode cX11_needAt 83 = .ok (.iload 5, 2) := by decide +kernel
theorem dX11_needAt_85 : decode cX11_needAt 85 = .ok (.iaload, 1) := by decide +kernel
theorem dX11_needAt_86 : decode cX11_needAt 86 = .ok (.imul, 1) := by decide +kernel
theorem dX11_needAt_87 : decode cX11_needAt 87 = .ok (.bipush 10, 2) := by decide +kernel
theorem dX11_needAt_89 : decode cX11_needAt 89 = .ok (.iload 6, 2) := by decide +kernel
theorem dX11_needAt_91 : decode cX11_needAt 91 = .ok (.imul, 1) := by decide +kernel
theorem dX11_needAt_92 : decode cX11_needAt 92 = .ok (.idiv, 1) := by decide +kernel
theorem dX11_needAt_93 : decode cX11_needAt 93 = .ok (.goto 4, 3) := by decide +kernel
theorem dX11_needAt_96 : decode cX11_needAt 96 = .ok (.iconst 0, 1) := by decide +kernel
theorem dX11_needAt_97 : decode cX11_needAt 97 = .ok (.iadd, 1) := by decide +kernel
theorem dX11_needAt_98 : decode cX11_needAt 98 = .ok (.istore_n 3, 1) := by decide +kernel
theorem dX11_needAt_99 : decode cX11_needAt 99 = .ok (.iinc 5 1, 3) := by decide +kernel
theorem dX11_needAt_102 : decode cX11_needAt 102 = .ok (.goto (-71), 3) := by decide +kernel
theorem dX11_needAt_105 : decode cX11_needAt 105 = .ok (.iload_n 3, 1) := by decide +kernel
theorem dX11_needAt_106 : decode cX11_needAt 106 = .ok (.ireturn, 1) := by decide +kernel
set_option maxRecDepth 20000 in
theorem ggX11_need_X11_in : GoodIn wsX11_need wsX11_in := goodIn_r _ [6] (by decide +kernel) (by decide +kernel)
set_option maxRecDepth 20000 in
theorem gX11_need_X11_in : GoodIn wsX11_need (va_wsS RX11 73 yX11_in wsX11_in) := goodIn_app (goodIn_of _ (by decide +kernel)) ggX11_need_X11_in
set_option maxRecDepth 20000 in
theorem ggX11_need_X11_needAt : GoodIn wsX11_need wsX11_needAt := goodIn_r _ [10, 11, 12, 1, 13, 14, 15, 5, 16, 17, 18, 19, 20, 21, 22, 23, 24, 25, 26, 27, 28, 29, 30, 31, 32, 33, 34, 35, 36, 37, 38, 39, 40, 41, 42, 43, 44, 45] (by decide +kernel) (by decide +kernel)
set_option maxRecDepth 20000 in
theorem gX11_need_X11_needAt : GoodIn wsX11_need (wsV RX11 179 RX11 yX11_needAt wsX11_needAt) := goodIn_app (goodIn_of _ (by decide +kernel)) ggX11_need_X11_needAt
theorem dX11_need_0 : decode cX11_need 0 = .ok (.iload_n 1, 1) := by decide +kernel
theorem dX11_need_1 : decode cX11_need 1 = .ok (.i2l, 1) := by decide +kernel
theorem dX11_need_2 : decode cX11_need 2 = .ok (.lconst 0, 1) := by decide +kernel
theorem dX11_need_3 : decode cX11_need 3 = .ok (.aload_n 0, 1) := by decide +kernel
theorem dX11_need_4 : decode cX11_need 4 = .ok (.getfield 112, 3) := by decide +kernel
theorem dX11_need_7 : decode cX11_need 7 = .ok (.iconst 1, 1) := by decide +kernel
theorem dX11_need_8 : decode cX11_need 8 = .ok (.isub, 1) := by decide +kernel
theorem dX11_need_9 : decode cX11_need 9 = .ok (.i2l, 1) := by decide +kernel
theorem dX11_need_10 : decode cX11_need 10 = .ok (.invokestatic 73, 3) := by decide +kernel
theorem dX11_need_13 : decode cX11_need 13 = .ok (.ifCond .eq 28, 3) := by decide +kernel
theorem dX11_need_16 : decode cX11_need 16 = .ok (.iload_n 2, 1) := by decide +kernel
theorem dX11_need_17 : decode cX11_need 17 = .ok (.i2l, 1) := by decide +kernel
theorem dX11_need_18 : decode cX11_need 18 = .ok (.lconst 0, 1) := by decide +kernel
theorem dX11_need_19 : decode cX11_need 19 = .ok (.aload_n 0, 1) := by decide +kernel
theorem dX11_need_20 : decode cX11_need 20 = .ok (.getfield 116, 3) := by decide +kernel
theorem dX11_need_23 : decode cX11_need 23 = .ok (.iconst 1, 1) := by decide +kernel
theorem dX11_need_24 : decode cX11_need 24 = .ok (.isub, 1) := by decide +kernel
theorem dX11_need_25 : decode cX11_need 25 = .ok (.i2l, 1) := by decide +kernel
theorem dX11_need_26 : decode cX11_need 26 = .ok (.invokestatic 73, 3) := by decide +kernel
theorem dX11_need_29 : decode cX11_need 29 = .ok (.ifCond .eq 12, 3) := by decide +kernel
theorem dX11_need_32 : decode cX11_need 32 = .ok (.aload_n 0, 1) := by decide +kernel
theorem dX11_need_33 : decode cX11_need 33 = .ok (.iload_n 1, 1) := by decide +kernel
theorem dX11_need_34 : decode cX11_need 34 = .ok (.iload_n 2, 1) := by decide +kernel
theorem dX11_need_35 : decode cX11_need 35 = .ok (.invokevirtual 179, 3) := by decide +kernel
theorem dX11_need_38 : decode cX11_need 38 = .ok (.goto 4, 3) := by decide +kernel
theorem dX11_need_41 : decode cX11_need 41 = .ok (.iconst (-1), 1) := by decide +kernel
theorem dX11_need_42 : decode cX11_need 42 = .ok (.ireturn, 1) := by decide +kernel
set_option maxRecDepth 20000 in
theorem ggX11_breaks_X11_in : GoodIn wsX11_breaks wsX11_in := goodIn_r _ [8] (by decide +kernel) (by decide +kernel)
set_option maxRecDepth 20000 in
theorem gX11_breaks_X11_in : GoodIn wsX11_breaks (va_wsS RX11 73 yX11_in wsX11_in) := goodIn_app (goodIn_of _ (by decide +kernel)) ggX11_breaks_X11_in
set_option maxRecDepth 20000 in
theorem ggX11_breaks_X11_needAt : GoodIn wsX11_breaks wsX11_needAt := goodIn_r _ [12, 13, 14, 2, 15, 16, 17, 7, 18, 19, 50, 51, 52, 53, 54, 55, 56, 57, 58, 59, 60, 61, 62, 63, 64, 65, 66, 67, 68, 69, 70, 71, 72, 73, 74, 75, 76, 77] (by decide +kernel) (by decide +kernel)
set_option maxRecDepth 20000 in
theorem gX11_breaks_X11_needAt : GoodIn wsX11_breaks (wsV RX11 179 RX11 yX11_needAt wsX11_needAt) := goodIn_app (goodIn_of _ (by decide +kernel)) ggX11_breaks_X11_needAt
set_option maxRecDepth 20000 in
theorem ggX11_breaks_X11_bears : GoodIn wsX11_breaks wsX11_bears := goodIn_r _ [23, 24, 25, 26, 7, 27, 28, 29, 30, 50, 51, 52, 53, 54, 55, 56, 57, 58, 59, 60, 61, 62, 63, 64, 65, 66, 67, 68, 69, 70, 71, 72, 73, 74, 75, 76, 77] (by decide +kernel) (by decide +kernel)
set_option maxRecDepth 20000 in
theorem gX11_breaks_X11_bears : GoodIn wsX11_breaks (wsV RX11 96 RX11 yX11_bears wsX11_bears) := goodIn_app (goodIn_of _ (by decide +kernel)) ggX11_breaks_X11_bears
set_option maxRecDepth 20000 in
theorem ggX11_breaks_X11_minuteAt : GoodIn wsX11_breaks wsX11_minuteAt := goodIn_r _ [18, 19, 14, 50, 51, 52, 53, 54, 55, 56, 57, 58, 59, 60, 61, 62, 63, 64, 65, 66, 67, 68, 69, 70, 71, 72, 73, 74, 75, 76, 77] (by decide +kernel) (by decide +kernel)
set_option maxRecDepth 20000 in
theorem gX11_breaks_X11_minuteAt : GoodIn wsX11_breaks (wsV RX11 176 RX11 yX11_minuteAt wsX11_minuteAt) := goodIn_app (goodIn_of _ (by decide +kernel)) ggX11_breaks_X11_minuteAt
set_option maxRecDepth 20000 in
theorem ggX11_breaks_X11_crackFrom : GoodIn wsX11_breaks wsX11_crackFrom := goodIn_r _ [34, 35, 36, 24, 37, 38, 39, 40, 7, 41, 42, 43, 44, 45, 46, 47, 48, 49, 50, 51, 52, 53, 54, 55, 56, 57, 58, 59, 60, 61, 62, 63, 64, 65, 66, 67, 68, 69, 70, 71, 72, 73, 74, 75, 76, 77] (by decide +kernel) (by decide +kernel)
set_option maxRecDepth 20000 in
theorem gX11_breaks_X11_crackFrom : GoodIn wsX11_breaks (wsV RX11 184 RX11 yX11_crackFrom wsX11_crackFrom) := goodIn_app (goodIn_of _ (by decide +kernel)) ggX11_breaks_X11_crackFrom
theorem dX11_breaks_0 : decode cX11_breaks 0 = .ok (.iload_n 1, 1) := by decide +kernel
theorem dX11_breaks_1 : decode cX11_breaks 1 = .ok (.i2l, 1) := by decide +kernel
theorem dX11_breaks_2 : decode cX11_breaks 2 = .ok (.lconst 0, 1) := by decide +kernel
theorem dX11_breaks_3 : decode cX11_breaks 3 = .ok (.ldc2_w 182, 3) := by decide +kernel
theorem dX11_breaks_6 : decode cX11_breaks 6 = .ok (.invokestatic 73, 3) := by decide +kernel
theorem dX11_breaks_9 : decode cX11_breaks 9 = .ok (.ifCond .ne 5, 3) := by decide +kernel
theorem dX11_breaks_12 : decode cX11_breaks 12 = .ok (.iconst (-1), 1) := by decide +kernel
theorem dX11_breaks_13 : decode cX11_breaks 13 = .ok (.ireturn, 1) := by decide +kernel
theorem dX11_breaks_14 : decode cX11_breaks 14 = .ok (.bipush (-4), 2) := by decide +kernel
theorem dX11_breaks_16 : decode cX11_breaks 16 = .ok (.istore_n 2, 1) := by decide +kernel
theorem dX11_breaks_17 : decode cX11_breaks 17 = .ok (.iconst 0, 1) := by decide +kernel
theorem dX11_breaks_18 : decode cX11_breaks 18 = .ok (.istore_n 3, 1) := by decide +kernel
theorem dX11_breaks_19 : decode cX11_breaks 19 = .ok (.iconst 0, 1) := by decide +kernel
theorem dX11_breaks_20 : decode cX11_breaks 20 = .ok (.istore 4, 2) := by decide +kernel
theorem dX11_breaks_22 : decode cX11_breaks 22 = .ok (.aload_n 0, 1) := by decide +kernel
theorem dX11_breaks_23 : decode cX11_breaks 23 = .ok (.getfield 112, 3) := by decide +kernel
theorem dX11_breaks_26 : decode cX11_breaks 26 = .ok (.iconst 1, 1) := by decide +kernel
theorem dX11_breaks_27 : decode cX11_breaks 27 = .ok (.isub, 1) := by decide +kernel
theorem dX11_breaks_28 : decode cX11_breaks 28 = .ok (.istore 5, 2) := by decide +kernel
theorem dX11_breaks_30 : decode cX11_breaks 30 = .ok (.iload 5, 2) := by decide +kernel
theorem dX11_breaks_32 : decode cX11_breaks 32 = .ok (.ifCond .lt 109, 3) := by decide +kernel
theorem dX11_breaks_35 : decode cX11_breaks 35 = .ok (.aload_n 0, 1) := by decide +kernel
theorem dX11_breaks_36 : decode cX11_breaks 36 = .ok (.getfield 116, 3) := by decide +kernel
theorem dX11_breaks_39 : decode cX11_breaks 39 = .ok (.iconst 1, 1) := by decide +kernel
theorem dX11_breaks_40 : decode cX11_breaks 40 = .ok (.isub, 1) := by decide +kernel
theorem dX11_breaks_41 : decode cX11_breaks 41 = .ok (.istore 6, 2) := by decide +kernel
theorem dX11_breaks_43 : decode cX11_breaks 43 = .ok (.iload 6, 2) := by decide +kernel
theorem dX11_breaks_45 : decode cX11_breaks 45 = .ok (.ifCond .lt 90, 3) := by decide +kernel
theorem dX11_breaks_48 : decode cX11_breaks 48 = .ok (.aload_n 0, 1) := by decide +kernel
theorem dX11_breaks_49 : decode cX11_breaks 49 = .ok (.iload 5, 2) := by decide +kernel
theorem dX11_breaks_51 : decode cX11_breaks 51 = .ok (.iload 6, 2) := by decide +kernel
theorem dX11_breaks_53 : decode cX11_breaks 53 = .ok (.invokevirtual 179, 3) := by decide +kernel
theorem dX11_breaks_56 : decode cX11_breaks 56 = .ok (.istore 7, 2) := by decide +kernel
theorem dX11_breaks_58 : decode cX11_breaks 58 = .ok (.iload 7, 2) := by decide +kernel
theorem dX11_breaks_60 : decode cX11_breaks 60 = .ok (.ifCond .lt 19, 3) := by decide +kernel
theorem dX11_breaks_63 : decode cX11_breaks 63 = .ok (.iload 7, 2) := by decide +kernel
theorem dX11_breaks_65 : decode cX11_breaks 65 = .ok (.aload_n 0, 1) := by decide +kernel
theorem dX11_breaks_66 : decode cX11_breaks 66 = .ok (.aload_n 0, 1) := by decide +kernel
theorem dX11_breaks_67 : decode cX11_breaks 67 = .ok (.getfield 22, 3) := by decide +kernel
theorem dX11_breaks_70 : decode cX11_breaks 70 = .ok (.iload 6, 2) := by decide +kernel
theorem dX11_breaks_72 : decode cX11_breaks 72 = .ok (.iaload, 1) := by decide +kernel
theorem dX11_breaks_73 : decode cX11_breaks 73 = .ok (.invokevirtual 96, 3) := by decide +kernel
theorem dX11_breaks_76 : decode cX11_breaks 76 = .ok (.if_icmp .le 7, 3) := by decide +kernel
theorem dX11_breaks_79 : decode cX11_breaks 79 = .ok (.iconst 1, 1) := by decide +kernel
theorem dX11_breaks_80 : decode cX11_breaks 80 = .ok (.goto 4, 3) := by decide +kernel
theorem dX11_breaks_83 : decode cX11_breaks 83 = .ok (.iconst 0, 1) := by decide +kernel
theorem dX11_breaks_84 : decode cX11_breaks 84 = .ok (.istore 8, 2) := by decide +kernel
theorem dX11_breaks_86 : decode cX11_breaks 86 = .ok (.iload 8, 2) := by decide +kernel
theorem dX11_breaks_88 : decode cX11_breaks 88 = .ok (.ifCond .eq 41, 3) := by decide +kernel
theorem dX11_breaks_91 : decode cX11_breaks 91 = .ok (.iload_n 2, 1) := by decide +kernel
theorem dX11_breaks_92 : decode cX11_breaks 92 = .ok (.ifCond .lt 16, 3) := by decide +kernel
theorem dX11_breaks_95 : decode cX11_breaks 95 = .ok (.aload_n 0, 1) := by decide +kernel
theorem dX11_breaks_96 : decode cX11_breaks 96 = .ok (.iload 5, 2) := by decide +kernel
theorem dX11_breaks_98 : decode cX11_breaks 98 = .ok (.iload 6, 2) := by decide +kernel
theorem dX11_breaks_100 : decode cX11_breaks 100 = .ok (.invokevirtual 176, 3) := by decide +kernel
theorem dX11_breaks_103 : decode cX11_breaks 103 = .ok (.iload 4, 2) := by decide +kernel
theorem dX11_breaks_105 : decode cX11_breaks 105 = .ok (.if_icmp .gt 24, 3) := by decide +kernel
theorem dX11_breaks_108 : decode cX11_breaks 108 = .ok (.iload 5, 2) := by decide +kernel
theorem dX11_breaks_110 : decode cX11_breaks 110 = .ok (.istore_n 2, 1) := by decide +kernel
theorem dX11_breaks_111 : decode cX11_breaks 111 = .ok (.aload_n 0, 1) := by decide +kernel
theorem dX11_breaks_112 : decode cX11_breaks 112 = .ok (.getfield 22, 3) := by decide +kernel
theorem dX11_breaks_115 : decode cX11_breaks 115 = .ok (.iload 6, 2) := by decide +kernel
theorem dX11_breaks_117 : decode cX11_breaks 117 = .ok (.iaload, 1) := by decide +kernel
theorem dX11_breaks_118 : decode cX11_breaks 118 = .ok (.istore_n 3, 1) := by decide +kernel
theorem dX11_breaks_119 : decode cX11_breaks 119 = .ok (.aload_n 0, 1) := by decide +kernel
theorem dX11_breaks_120 : decode cX11_breaks 120 = .ok (.iload 5, 2) := by decide +kernel
theorem dX11_breaks_122 : decode cX11_breaks 122 = .ok (.iload 6, 2) := by decide +kernel
theorem dX11_breaks_124 : decode cX11_breaks 124 = .ok (.invokevirtual 176, 3) := by decide +kernel
theorem dX11_breaks_127 : decode cX11_breaks 127 = .ok (.istore 4, 2) := by decide +kernel
theorem dX11_breaks_129 : decode cX11_breaks 129 = .ok (.iinc 6 (-1), 3) := by decide +kernel
theorem dX11_breaks_132 : decode cX11_breaks 132 = .ok (.goto (-89), 3) := by decide +kernel
theorem dX11_breaks_135 : decode cX11_breaks 135 = .ok (.iinc 5 (-1), 3) := by decide +kernel
theorem dX11_breaks_138 : decode cX11_breaks 138 = .ok (.goto (-108), 3) := by decide +kernel
theorem dX11_breaks_141 : decode cX11_breaks 141 = .ok (.iload_n 2, 1) := by decide +kernel
theorem dX11_breaks_142 : decode cX11_breaks 142 = .ok (.ifCond .ge 8, 3) := by decide +kernel
theorem dX11_breaks_145 : decode cX11_breaks 145 = .ok (.bipush (-4), 2) := by decide +kernel
theorem dX11_breaks_147 : decode cX11_breaks 147 = .ok (.goto 35, 3) := by decide +kernel
theorem dX11_breaks_150 : decode cX11_breaks 150 = .ok (.iload_n 1, 1) := by decide +kernel
theorem dX11_breaks_151 : decode cX11_breaks 151 = .ok (.ifCond .ne 7, 3) := by decide +kernel
theorem dX11_breaks_154 : decode cX11_breaks 154 = .ok (.iload_n 2, 1) := by decide +kernel
theorem dX11_breaks_155 : decode cX11_breaks 155 = .ok (.goto 27, 3) := by decide +kernel
theorem dX11_breaks_158 : decode cX11_breaks 158 = .ok (.iload_n 1, 1) := by decide +kernel
theorem dX11_breaks_159 : decode cX11_breaks 159 = .ok (.iconst 1, 1) := by decide +kernel
theorem dX11_breaks_160 : decode cX11_breaks 160 = .ok (.if_icmp .ne 7, 3) := by decide +kernel
theorem dX11_breaks_163 : decode cX11_breaks 163 = .ok (.iload_n 3, 1) := by decide +kernel
theorem dX11_breaks_164 : decode cX11_breaks 164 = .ok (.goto 18, 3) := by decide +kernel
theorem dX11_breaks_167 : decode cX11_breaks 167 = .ok (.iload_n 1, 1) := by decide +kernel
theorem dX11_breaks_168 : decode cX11_breaks 168 = .ok (.iconst 2, 1) := by decide +kernel
theorem dX11_breaks_169 : decode cX11_breaks 169 = .ok (.if_icmp .ne 8, 3) := by decide +kernel
theorem dX11_breaks_172 : decode cX11_breaks 172 = .ok (.iload 4, 2) := by decide +kernel
theorem dX11_breaks_174 : decode cX11_breaks 174 = .ok (.goto 8, 3) := by decide +kernel
theorem dX11_breaks_177 : decode cX11_breaks 177 = .ok (.aload_n 0, 1) := by decide +kernel
theorem dX11_breaks_178 : decode cX11_breaks 178 = .ok (.iload_n 3, 1) := by decide +kernel
theorem dX11_breaks_179 : decode cX11_breaks 179 = .ok (.invokevirtual 184, 3) := by decide +kernel
theorem dX11_breaks_182 : decode cX11_breaks 182 = .ok (.ireturn, 1) := by decide +kernel
theorem dX11_reach_0 : decode cX11_reach 0 = .ok (.aload_n 0, 1) := by decide +kernel
theorem dX11_reach_1 : decode cX11_reach 1 = .ok (.getfield 43, 3) := by decide +kernel
theorem dX11_reach_4 : decode cX11_reach 4 = .ok (.iload_n 1, 1) := by decide +kernel
theorem dX11_reach_5 : decode cX11_reach 5 = .ok (.iaload, 1) := by decide +kernel
theorem dX11_reach_6 : decode cX11_reach 6 = .ok (.ifCond .ge 30, 3) := by decide +kernel
theorem dX11_reach_9 : decode cX11_reach 9 = .ok (.aload_n 0, 1) := by decide +kernel
theorem dX11_reach_10 : decode cX11_reach 10 = .ok (.getfield 43, 3) := by decide +kernel
theorem dX11_reach_13 : decode cX11_reach 13 = .ok (.iload_n 1, 1) := by decide +kernel
theorem dX11_reach_14 : decode cX11_reach 14 = .ok (.iload_n 2, 1) := by decide +kernel
theorem dX11_reach_15 : decode cX11_reach 15 = .ok (.iastore, 1) := by decide +kernel
theorem dX11_reach_16 : decode cX11_reach 16 = .ok (.aload_n 0, 1) := by decide +kernel
theorem dX11_reach_17 : decode cX11_reach 17 = .ok (.getfield 40, 3) := by decide +kernel
theorem dX11_reach_20 : decode cX11_reach 20 = .ok (.aload_n 0, 1) := by decide +kernel
theorem dX11_reach_21 : decode cX11_reach 21 = .ok (.getfield 187, 3) := by decide +kernel
theorem dX11_reach_24 : decode cX11_reach 24 = .ok (.iload_n 1, 1) := by decide +kernel
theorem dX11_reach_25 : decode cX11_reach 25 = .ok (.iastore, 1) := by decide +kernel
theorem dX11_reach_26 : decode cX11_reach 26 = .ok (.aload_n 0, 1) := by decide +kernel
theorem dX11_reach_27 : decode cX11_reach 27 = .ok (.dup, 1) := by decide +kernel
theorem dX11_reach_28 : decode cX11_reach 28 = .ok (.getfield 187, 3) := by decide +kernel
theorem dX11_reach_31 : decode cX11_reach 31 = .ok (.iconst 1, 1) := by decide +kernel
theorem dX11_reach_32 : decode cX11_reach 32 = .ok (.iadd, 1) := by decide +kernel
theorem dX11_reach_33 : decode cX11_reach 33 = .ok (.putfield 187, 3) := by decide +kernel
theorem dX11_reach_36 : decode cX11_reach 36 = .ok (.return_, 1) := by decide +kernel
set_option maxRecDepth 20000 in
theorem ggX11_beginAt_X11_reach : GoodIn wsX11_beginAt wsX11_reach := goodIn_r _ [7, 1, 8, 2, 9, 10, 11, 12, 13, 14, 15, 16, 17, 18, 19, 20, 21, 22, 23, 24, 25, 26, 27, 28, 29, 30, 31, 32, 33, 34, 35, 36] (by decide +kernel) (by decide +kernel)
set_option maxRecDepth 20000 in
theorem gX11_beginAt_X11_reach : GoodIn wsX11_beginAt (wsV RX11 190 RX11 yX11_reach wsX11_reach) := goodIn_app (goodIn_of _ (by decide +kernel)) ggX11_beginAt_X11_reach
theorem dX11_beginAt_0 : decode cX11_beginAt 0 = .ok (.iconst 0, 1) := by decide +kernel
theorem dX11_beginAt_1 : decode cX11_beginAt 1 = .ok (.istore_n 2, 1) := by decide +kernel
theorem dX11_beginAt_2 : decode cX11_beginAt 2 = .ok (.iload_n 2, 1) := by decide +kernel
theorem dX11_beginAt_3 : decode cX11_beginAt 3 = .ok (.bipush 64, 2) := by decide +kernel
theorem dX11_beginAt_5 : decode cX11_beginAt 5 = .ok (.if_icmp .ge 16, 3) := by decide +kernel
theorem dX11_beginAt_8 : decode cX11_beginAt 8 = .ok (.aload_n 0, 1) := by decide +kernel
theorem dX11_beginAt_9 : decode cX11_beginAt 9 = .ok (.getfield 43, 3) := by decide +kernel
theorem dX11_beginAt_12 : decode cX11_beginAt 12 = .ok (.iload_n 2, 1) := by decide +kernel
theorem dX11_beginAt_13 : decode cX11_beginAt 13 = .ok (.iconst (-1), 1) := by decide +kernel
theorem dX11_beginAt_14 : decode cX11_beginAt 14 = .ok (.iastore, 1) := by decide +kernel
theorem dX11_beginAt_15 : decode cX11_beginAt 15 = .ok (.iinc 2 1, 3) := by decide +kernel
theorem dX11_beginAt_18 : decode cX11_beginAt 18 = .ok (.goto (-16), 3) := by decide +kernel
theorem dX11_beginAt_21 : decode cX11_beginAt 21 = .ok (.aload_n 0, 1) := by decide +kernel
theorem dX11_beginAt_22 : decode cX11_beginAt 22 = .ok (.iconst 0, 1) := by decide +kernel
theorem dX11_beginAt_23 : decode cX11_beginAt 23 = .ok (.putfield 187, 3) := by decide +kernel
theorem dX11_beginAt_26 : decode cX11_beginAt 26 = .ok (.aload_n 0, 1) := by decide +kernel
theorem dX11_beginAt_27 : decode cX11_beginAt 27 = .ok (.iload_n 1, 1) := by decide +kernel
theorem dX11_beginAt_28 : decode cX11_beginAt 28 = .ok (.iconst 0, 1) := by decide +kernel
theorem dX11_beginAt_29 : decode cX11_beginAt 29 = .ok (.invokevirtual 190, 3) := by decide +kernel
theorem dX11_beginAt_32 : decode cX11_beginAt 32 = .ok (.return_, 1) := by decide +kernel
set_option maxRecDepth 20000 in
theorem ggX11_crackFrom_X11_beginAt : GoodIn wsX11_crackFrom wsX11_beginAt := goodIn_r _ [9, 10, 1, 11, 12, 13, 8, 14, 2, 18, 19, 20, 21, 22, 23, 24, 25, 26, 27, 28, 29, 30, 31, 32, 33, 34, 35, 36, 37, 38, 39, 40, 41, 42, 43, 44, 45] (by decide +kernel) (by decide +kernel)
set_option maxRecDepth 20000 in
theorem gX11_crackFrom_X11_beginAt : GoodIn wsX11_crackFrom (wsV RX11 193 RX11 yX11_beginAt wsX11_beginAt) := goodIn_app (goodIn_of _ (by decide +kernel)) ggX11_crackFrom_X11_beginAt
set_option maxRecDepth 20000 in
theorem ggX11_crackFrom_X11_nextTo : GoodIn wsX11_crackFrom wsX11_nextTo := goodIn_r _ [17] (by decide +kernel) (by decide +kernel)
set_option maxRecDepth 20000 in
theorem gX11_crackFrom_X11_nextTo : GoodIn wsX11_crackFrom (va_wsS RX11 167 yX11_nextTo wsX11_nextTo) := goodIn_app (goodIn_of _ (by decide +kernel)) ggX11_crackFrom_X11_nextTo
set_option maxRecDepth 20000 in
theorem ggX11_crackFrom_X11_reach : GoodIn wsX11_crackFrom wsX11_reach := goodIn_r _ [14, 10, 2, 1, 18, 19, 20, 21, 22, 23, 24, 25, 26, 27, 28, 29, 30, 31, 32, 33, 34, 35, 36, 37, 38, 39, 40, 41, 42, 43, 44, 45] (by decide +kernel) (by decide +kernel)
set_option maxRecDepth 20000 in
theorem gX11_crackFrom_X11_reach : GoodIn wsX11_crackFrom (wsV RX11 190 RX11 yX11_reach wsX11_reach) := goodIn_app (goodIn_of _ (by decide +kernel)) ggX11_crackFrom_X11_reach
theorem dX11_crackFrom_0 : decode cX11_crackFrom 0 = .ok (.aload_n 0, 1) := by decide +kernel
theorem dX11_crackFrom_1 : decode cX11_crackFrom 1 = .ok (.iload_n 1, 1) := by decide +kernel
theorem dX11_crackFrom_2 : decode cX11_crackFrom 2 = .ok (.invokevirtual 193, 3) := by decide +kernel
theorem dX11_crackFrom_5 : decode cX11_crackFrom 5 = .ok (.iconst 0, 1) := by decide +kernel
theorem dX11_crackFrom_6 : decode cX11_crackFrom 6 = .ok (.istore_n 2, 1) := by decide +kernel
theorem dX11_crackFrom_7 : decode cX11_crackFrom 7 = .ok (.iload_n 2, 1) := by decide +kernel
theorem dX11_crackFrom_8 : decode cX11_crackFrom 8 = .ok (.aload_n 0, 1) := by decide +kernel
theorem dX11_crackFrom_9 : decode cX11_crackFrom 9 = .ok (.getfield 187, 3) := by decide +kernel
theorem dX11_crackFrom_12 : decode cX11_crackFrom 12 = .ok (.if_icmp .ge 62, 3) := by decide +kernel
theorem dX11_crackFrom_15 : decode cX11_crackFrom 15 = .ok (.iconst 0, 1) := by decide +kernel
theorem dX11_crackFrom_16 : decode cX11_crackFrom 16 = .ok (.istore_n 3, 1) := by decide +kernel
theorem dX11_crackFrom_17 : decode cX11_crackFrom 17 = .ok (.iload_n 3, 1) := by decide +kernel
theorem dX11_crackFrom_18 : decode cX11_crackFrom 18 = .ok (.iconst 4, 1) := by decide +kernel
theorem dX11_crackFrom_19 : decode cX11_crackFrom 19 = .ok (.if_icmp .ge 49, 3) := by decide +kernel
theorem dX11_crackFrom_22 : decode cX11_crackFrom 22 = .ok (.aload_n 0, 1) := by decide +kernel
theorem dX11_crackFrom_23 : decode cX11_crackFrom 23 = .ok (.getfield 40, 3) := by decide +kernel
theorem dX11_crackFrom_26 : decode cX11_crackFrom 26 = .ok (.iload_n 2, 1) := by decide +kernel
theorem dX11_crackFrom_27 : decode cX11_crackFrom 27 = .ok (.iaload, 1) := by decide +kernel
theorem dX11_crackFrom_28 : decode cX11_crackFrom 28 = .ok (.iload_n 3, 1) := by decide +kernel
theorem dX11_crackFrom_29 : decode cX11_crackFrom 29 = .ok (.invokestatic 167, 3) := by decide +kernel
theorem dX11_crackFrom_32 : decode cX11_crackFrom 32 = .ok (.istore 4, 2) := by decide +kernel
theorem dX11_crackFrom_34 : decode cX11_crackFrom 34 = .ok (.iload 4, 2) := by decide +kernel
theorem dX11_crackFrom_36 : decode cX11_crackFrom 36 = .ok (.ifCond .lt 26, 3) := by decide +kernel
theorem dX11_crackFrom_39 : decode cX11_crackFrom 39 = .ok (.aload_n 0, 1) := by decide +kernel
theorem dX11_crackFrom_40 : decode cX11_crackFrom 40 = .ok (.getfield 7, 3) := by decide +kernel
theorem dX11_crackFrom_43 : decode cX11_crackFrom 43 = .ok (.iload 4, 2) := by decide +kernel
theorem dX11_crackFrom_45 : decode cX11_crackFrom 45 = .ok (.iaload, 1) := by decide +kernel
theorem dX11_crackFrom_46 : decode cX11_crackFrom 46 = .ok (.aload_n 0, 1) := by decide +kernel
theorem dX11_crackFrom_47 : decode cX11_crackFrom 47 = .ok (.getfield 25, 3) := by decide +kernel
theorem dX11_crackFrom_50 : decode cX11_crackFrom 50 = .ok (.iconst 0, 1) := by decide +kernel
theorem dX11_crackFrom_51 : decode cX11_crackFrom 51 = .ok (.iaload, 1) := by decide +kernel
theorem dX11_crackFrom_52 : decode cX11_crackFrom 52 = .ok (.if_icmp .ge 10, 3) := by decide +kernel
theorem dX11_crackFrom_55 : decode cX11_crackFrom 55 = .ok (.aload_n 0, 1) := by decide +kernel
theorem dX11_crackFrom_56 : decode cX11_crackFrom 56 = .ok (.iload 4, 2) := by decide +kernel
theorem dX11_crackFrom_58 : decode cX11_crackFrom 58 = .ok (.iconst 1, 1) := by decide +kernel
theorem dX11_crackFrom_59 : decode cX11_crackFrom 59 = .ok (.invokevirtual 190, 3) := by decide +kernel
theorem dX11_crackFrom_62 : decode cX11_crackFrom 62 = .ok (.iinc 3 1, 3) := by decide +kernel
theorem dX11_crackFrom_65 : decode cX11_crackFrom 65 = .ok (.goto (-48), 3) := by decide +kernel
theorem dX11_crackFrom_68 : decode cX11_crackFrom 68 = .ok (.iinc 2 1, 3) := by decide +kernel
theorem dX11_crackFrom_71 : decode cX11_crackFrom 71 = .ok (.goto (-64), 3) := by decide +kernel
theorem dX11_crackFrom_74 : decode cX11_crackFrom 74 = .ok (.aload_n 0, 1) := by decide +kernel
theorem dX11_crackFrom_75 : decode cX11_crackFrom 75 = .ok (.getfield 187, 3) := by decide +kernel
theorem dX11_crackFrom_78 : decode cX11_crackFrom 78 = .ok (.ireturn, 1) := by decide +kernel
set_option maxRecDepth 20000 in
theorem ggX11_cracks_X11_isSquare : GoodIn wsX11_cracks wsX11_isSquare := goodIn_r _ [7, 8, 9, 10, 6, 11] (by decide +kernel) (by decide +kernel)
set_option maxRecDepth 20000 in
theorem gX11_cracks_X11_isSquare : GoodIn wsX11_cracks (va_wsS RX11 77 yX11_isSquare wsX11_isSquare) := goodIn_app (goodIn_of _ (by decide +kernel)) ggX11_cracks_X11_isSquare
set_option maxRecDepth 20000 in
theorem ggX11_cracks_X11_crackFrom : GoodIn wsX11_cracks wsX11_crackFrom := goodIn_r _ [15, 2, 3, 16, 17, 18, 19, 20, 6, 21, 22, 23, 24, 25, 26, 27, 28, 29, 30, 31, 32, 33, 34, 35, 36, 37, 38, 39, 40, 41, 42, 43, 44, 45, 46, 47, 48, 49, 50, 51, 52, 53, 54, 55, 56, 57] (by decide +kernel) (by decide +kernel)
set_option maxRecDepth 20000 in
theorem gX11_cracks_X11_crackFrom : GoodIn wsX11_cracks (wsV RX11 184 RX11 yX11_crackFrom wsX11_crackFrom) := goodIn_app (goodIn_of _ (by decide +kernel)) ggX11_cracks_X11_crackFrom
theorem dX11_cracks_0 : decode cX11_cracks 0 = .ok (.iload_n 1, 1) := by decide +kernel
theorem dX11_cracks_1 : decode cX11_cracks 1 = .ok (.i2l, 1) := by decide +kernel
theorem dX11_cracks_2 : decode cX11_cracks 2 = .ok (.invokestatic 77, 3) := by decide +kernel
theorem dX11_cracks_5 : decode cX11_cracks 5 = .ok (.ifCond .ne 7, 3) := by decide +kernel
theorem dX11_cracks_8 : decode cX11_cracks 8 = .ok (.ldc2_w 197, 3) := by decide +kernel
theorem dX11_cracks_11 : decode cX11_cracks 11 = .ok (.lreturn, 1) := by decide +kernel
theorem dX11_cracks_12 : decode cX11_cracks 12 = .ok (.aload_n 0, 1) := by decide +kernel
theorem dX11_cracks_13 : decode cX11_cracks 13 = .ok (.iload_n 1, 1) := by decide +kernel
theorem dX11_cracks_14 : decode cX11_cracks 14 = .ok (.invokevirtual 184, 3) := by decide +kernel
theorem dX11_cracks_17 : decode cX11_cracks 17 = .ok (.pop, 1) := by decide +kernel
theorem dX11_cracks_18 : decode cX11_cracks 18 = .ok (.lconst 0, 1) := by decide +kernel
theorem dX11_cracks_19 : decode cX11_cracks 19 = .ok (.lstore_n 2, 1) := by decide +kernel
theorem dX11_cracks_20 : decode cX11_cracks 20 = .ok (.iconst 0, 1) := by decide +kernel
theorem dX11_cracks_21 : decode cX11_cracks 21 = .ok (.istore 4, 2) := by decide +kernel
theorem dX11_cracks_23 : decode cX11_cracks 23 = .ok (.iload 4, 2) := by decide +kernel
theorem dX11_cracks_25 : decode cX11_cracks 25 = .ok (.aload_n 0, 1) := by decide +kernel
theorem dX11_cracks_26 : decode cX11_cracks 26 = .ok (.getfield 187, 3) := by decide +kernel
theorem dX11_cracks_29 : decode cX11_cracks 29 = .ok (.if_icmp .ge 21, 3) := by decide +kernel
theorem dX11_cracks_32 : decode cX11_cracks 32 = .ok (.lload_n 2, 1) := by decide +kernel
theorem dX11_cracks_33 : decode cX11_cracks 33 = .ok (.lconst 1, 1) := by decide +kernel
theorem dX11_cracks_34 : decode cX11_cracks 34 = .ok (.aload_n 0, 1) := by decide +kernel
theorem dX11_cracks_35 : decode cX11_cracks 35 = .ok (.getfield 40, 3) := by decide +kernel
theorem dX11_cracks_38 : decode cX11_cracks 38 = .ok (.iload 4, 2) := by decide +kernel
theorem dX11_cracks_40 : decode cX11_cracks 40 = .ok (.iaload, 1) := by decide +kernel
theorem dX11_cracks_41 : decode cX11_cracks 41 = .ok (.lshl, 1) := by decide +kernel
theorem dX11_cracks_42 : decode cX11_cracks 42 = .ok (.lor, 1) := by decide +kernel
theorem dX11_cracks_43 : decode cX11_cracks 43 = .ok (.lstore_n 2, 1) := by decide +kernel
theorem dX11_cracks_44 : decode cX11_cracks 44 = .ok (.iinc 4 1, 3) := by decide +kernel
theorem dX11_cracks_47 : decode cX11_cracks 47 = .ok (.goto (-24), 3) := by decide +kernel
theorem dX11_cracks_50 : decode cX11_cracks 50 = .ok (.lload_n 2, 1) := by decide +kernel
theorem dX11_cracks_51 : decode cX11_cracks 51 = .ok (.lreturn, 1) := by decide +kernel
set_option maxRecDepth 20000 in
theorem ggX11_crack_X11_isSquare : GoodIn wsX11_crack wsX11_isSquare := goodIn_r _ [6, 7, 8, 9, 5, 10] (by decide +kernel) (by decide +kernel)
set_option maxRecDepth 20000 in
theorem gX11_crack_X11_isSquare : GoodIn wsX11_crack (va_wsS RX11 77 yX11_isSquare wsX11_isSquare) := goodIn_app (goodIn_of _ (by decide +kernel)) ggX11_crack_X11_isSquare
set_option maxRecDepth 20000 in
theorem ggX11_crack_X11_crackFrom : GoodIn wsX11_crack wsX11_crackFrom := goodIn_r _ [14, 15, 2, 1, 16, 17, 18, 19, 5, 20, 21, 22, 23, 24, 25, 26, 27, 28, 29, 30, 31, 32, 33, 34, 35, 36, 37, 38, 39, 40, 41, 42, 43, 44, 45, 46, 47, 48, 49, 50, 51, 52, 53, 54, 55, 56] (by decide +kernel) (by decide +kernel)
set_option maxRecDepth 20000 in
theorem gX11_crack_X11_crackFrom : GoodIn wsX11_crack (wsV RX11 184 RX11 yX11_crackFrom wsX11_crackFrom) := goodIn_app (goodIn_of _ (by decide +kernel)) ggX11_crack_X11_crackFrom
theorem dX11_crack_0 : decode cX11_crack 0 = .ok (.iload_n 1, 1) := by decide +kernel
theorem dX11_crack_1 : decode cX11_crack 1 = .ok (.i2l, 1) := by decide +kernel
theorem dX11_crack_2 : decode cX11_crack 2 = .ok (.invokestatic 77, 3) := by decide +kernel
theorem dX11_crack_5 : decode cX11_crack 5 = .ok (.ifCond .ne 5, 3) := by decide +kernel
theorem dX11_crack_8 : decode cX11_crack 8 = .ok (.iconst (-1), 1) := by decide +kernel
theorem dX11_crack_9 : decode cX11_crack 9 = .ok (.ireturn, 1) := by decide +kernel
theorem dX11_crack_10 : decode cX11_crack 10 = .ok (.aload_n 0, 1) := by decide +kernel
theorem dX11_crack_11 : decode cX11_crack 11 = .ok (.iload_n 1, 1) := by decide +kernel
theorem dX11_crack_12 : decode cX11_crack 12 = .ok (.invokevirtual 184, 3) := by decide +kernel
theorem dX11_crack_15 : decode cX11_crack 15 = .ok (.istore_n 2, 1) := by decide +kernel
theorem dX11_crack_16 : decode cX11_crack 16 = .ok (.iconst 0, 1) := by decide +kernel
theorem dX11_crack_17 : decode cX11_crack 17 = .ok (.istore_n 3, 1) := by decide +kernel
theorem dX11_crack_18 : decode cX11_crack 18 = .ok (.iload_n 3, 1) := by decide +kernel
theorem dX11_crack_19 : decode cX11_crack 19 = .ok (.iload_n 2, 1) := by decide +kernel
theorem dX11_crack_20 : decode cX11_crack 20 = .ok (.if_icmp .ge 21, 3) := by decide +kernel
theorem dX11_crack_23 : decode cX11_crack 23 = .ok (.aload_n 0, 1) := by decide +kernel
theorem dX11_crack_24 : decode cX11_crack 24 = .ok (.getfield 7, 3) := by decide +kernel
theorem dX11_crack_27 : decode cX11_crack 27 = .ok (.aload_n 0, 1) := by decide +kernel
theorem dX11_crack_28 : decode cX11_crack 28 = .ok (.getfield 40, 3) := by decide +kernel
theorem dX11_crack_31 : decode cX11_crack 31 = .ok (.iload_n 3, 1) := by decide +kernel
theorem dX11_crack_32 : decode cX11_crack 32 = .ok (.iaload, 1) := by decide +kernel
theorem dX11_crack_33 : decode cX11_crack 33 = .ok (.iconst 0, 1) := by decide +kernel
theorem dX11_crack_34 : decode cX11_crack 34 = .ok (.iastore, 1) := by decide +kernel
theorem dX11_crack_35 : decode cX11_crack 35 = .ok (.iinc 3 1, 3) := by decide +kernel
theorem dX11_crack_38 : decode cX11_crack 38 = .ok (.goto (-20), 3) := by decide +kernel
theorem dX11_crack_41 : decode cX11_crack 41 = .ok (.iload_n 2, 1) := by decide +kernel
theorem dX11_crack_42 : decode cX11_crack 42 = .ok (.ireturn, 1) := by decide +kernel
set_option maxRecDepth 20000 in
theorem ggX11_bearNow_X11_bears : GoodIn wsX11_bearNow wsX11_bears := goodIn_r _ [6, 7, 8, 9, 5, 10, 11, 12, 13, 14, 15, 16, 17, 18, 19, 20, 21, 22, 23, 24, 25, 26, 27, 28, 29, 30, 31, 32, 33, 34, 35, 36, 37, 38, 39, 40, 41] (by decide +kernel) (by decide +kernel)
set_option maxRecDepth 20000 in
theorem gX11_bearNow_X11_bears : GoodIn wsX11_bearNow (wsV RX11 96 RX11 yX11_bears wsX11_bears) := goodIn_app (goodIn_of _ (by decide +kernel)) ggX11_bearNow_X11_bears
theorem dX11_bearNow_0 : decode cX11_bearNow 0 = .ok (.iconst 0, 1) := by decide +kernel
theorem dX11_bearNow_1 : decode cX11_bearNow 1 = .ok (.istore_n 1, 1) := by decide +kernel
theorem dX11_bearNow_2 : decode cX11_bearNow 2 = .ok (.iload_n 1, 1) := by decide +kernel
theorem dX11_bearNow_3 : decode cX11_bearNow 3 = .ok (.bipush 64, 2) := by decide +kernel
theorem dX11_bearNow_5 : decode cX11_bearNow 5 = .ok (.if_icmp .ge 20, 3) := by decide +kernel
theorem dX11_bearNow_8 : decode cX11_bearNow 8 = .ok (.aload_n 0, 1) := by decide +kernel
theorem dX11_bearNow_9 : decode cX11_bearNow 9 = .ok (.getfield 46, 3) := by decide +kernel
theorem dX11_bearNow_12 : decode cX11_bearNow 12 = .ok (.iload_n 1, 1) := by decide +kernel
theorem dX11_bearNow_13 : decode cX11_bearNow 13 = .ok (.aload_n 0, 1) := by decide +kernel
theorem dX11_bearNow_14 : decode cX11_bearNow 14 = .ok (.iload_n 1, 1) := by decide +kernel
theorem dX11_bearNow_15 : decode cX11_bearNow 15 = .ok (.invokevirtual 96, 3) := by decide +kernel
theorem dX11_bearNow_18 : decode cX11_bearNow 18 = .ok (.iastore, 1) := by decide +kernel
theorem dX11_bearNow_19 : decode cX11_bearNow 19 = .ok (.iinc 1 1, 3) := by decide +kernel
theorem dX11_bearNow_22 : decode cX11_bearNow 22 = .ok (.goto (-20), 3) := by decide +kernel
theorem dX11_bearNow_25 : decode cX11_bearNow 25 = .ok (.return_, 1) := by decide +kernel
theorem dX11_needBy_0 : decode cX11_needBy 0 = .ok (.iload_n 0, 1) := by decide +kernel
theorem dX11_needBy_1 : decode cX11_needBy 1 = .ok (.bipush 10, 2) := by decide +kernel
theorem dX11_needBy_3 : decode cX11_needBy 3 = .ok (.iload_n 1, 1) := by decide +kernel
theorem dX11_needBy_4 : decode cX11_needBy 4 = .ok (.iadd, 1) := by decide +kernel
theorem dX11_needBy_5 : decode cX11_needBy 5 = .ok (.imul, 1) := by decide +kernel
theorem dX11_needBy_6 : decode cX11_needBy 6 = .ok (.bipush 10, 2) := by decide +kernel
theorem dX11_needBy_8 : decode cX11_needBy 8 = .ok (.idiv, 1) := by decide +kernel
theorem dX11_needBy_9 : decode cX11_needBy 9 = .ok (.ireturn, 1) := by decide +kernel
set_option maxRecDepth 20000 in
theorem ggX11_roadSize_X11_beginAt : GoodIn wsX11_roadSize wsX11_beginAt := goodIn_r _ [9, 4, 2, 10, 11, 12, 8, 13, 3, 17, 18, 19, 20, 21, 22, 23, 24, 25, 26, 27, 28, 29, 30, 31, 32, 33, 34, 35, 36, 37, 38, 39, 40, 41, 42, 43, 44] (by decide +kernel) (by decide +kernel)
set_option maxRecDepth 20000 in
theorem gX11_roadSize_X11_beginAt : GoodIn wsX11_roadSize (wsV RX11 193 RX11 yX11_beginAt wsX11_beginAt) := goodIn_app (goodIn_of _ (by decide +kernel)) ggX11_roadSize_X11_beginAt
set_option maxRecDepth 20000 in
theorem ggX11_roadSize_X11_nextTo : GoodIn wsX11_roadSize wsX11_nextTo := goodIn_r _ [16] (by decide +kernel) (by decide +kernel)
set_option maxRecDepth 20000 in
theorem gX11_roadSize_X11_nextTo : GoodIn wsX11_roadSize (va_wsS RX11 167 yX11_nextTo wsX11_nextTo) := goodIn_app (goodIn_of _ (by decide +kernel)) ggX11_roadSize_X11_nextTo
set_option maxRecDepth 20000 in
theorem ggX11_roadSize_X11_reach : GoodIn wsX11_roadSize wsX11_reach := goodIn_r _ [13, 4, 3, 2, 17, 18, 19, 20, 21, 22, 23, 24, 25, 26, 27, 28, 29, 30, 31, 32, 33, 34, 35, 36, 37, 38, 39, 40, 41, 42, 43, 44] (by decide +kernel) (by decide +kernel)
set_option maxRecDepth 20000 in
theorem gX11_roadSize_X11_reach : GoodIn wsX11_roadSize (wsV RX11 190 RX11 yX11_reach wsX11_reach) := goodIn_app (goodIn_of _ (by decide +kernel)) ggX11_roadSize_X11_reach
theorem dX11_roadSize_0 : decode cX11_roadSize 0 = .ok (.aload_n 0, 1) := by decide +kernel
theorem dX11_roadSize_1 : decode cX11_roadSize 1 = .ok (.iload_n 2, 1) := by decide +kernel
theorem dX11_roadSize_2 : decode cX11_roadSize 2 = .ok (.invokevirtual 193, 3) := by decide +kernel
theorem dX11_roadSize_5 : decode cX11_roadSize 5 = .ok (.aload_n 0, 1) := by decide +kernel
theorem dX11_roadSize_6 : decode cX11_roadSize 6 = .ok (.getfield 46, 3) := by decide +kernel
theorem dX11_roadSize_9 : decode cX11_roadSize 9 = .ok (.iload_n 2, 1) := by decide +kernel
theorem dX11_roadSize_10 : decode cX11_roadSize 10 = .ok (.iaload, 1) := by decide +kernel
theorem dX11_roadSize_11 : decode cX11_roadSize 11 = .ok (.iload_n 3, 1) := by decide +kernel
theorem dX11_roadSize_12 : decode cX11_roadSize 12 = .ok (.if_icmp .ge 5, 3) := by decide +kernel
theorem dX11_roadSize_15 : decode cX11_roadSize 15 = .ok (.iconst 0, 1) := by decide +kernel
theorem dX11_roadSize_16 : decode cX11_roadSize 16 = .ok (.ireturn, 1) := by decide +kernel
theorem dX11_roadSize_17 : decode cX11_roadSize 17 = .ok (.iconst 0, 1) := by decide +kernel
theorem dX11_roadSize_18 : decode cX11_roadSize 18 = .ok (.istore 4, 2) := by decide +kernel
theorem dX11_roadSize_20 : decode cX11_roadSize 20 = .ok (.iload 4, 2) := by decide +kernel
theorem dX11_roadSize_22 : decode cX11_roadSize 22 = .ok (.aload_n 0, 1) := by decide +kernel
theorem dX11_roadSize_23 : decode cX11_roadSize 23 = .ok (.getfield 187, 3) := by decide +kernel
theorem dX11_roadSize_26 : decode cX11_roadSize 26 = .ok (.if_icmp .ge 74, 3) := by decide +kernel
theorem dX11_roadSize_29 : decode cX11_roadSize 29 = .ok (.iconst 0, 1) := by decide +kernel
theorem dX11_roadSize_30 : decode cX11_roadSize 30 = .ok (.istore 5, 2) := by decide +kernel
theorem dX11_roadSize_32 : decode cX11_roadSize 32 = .ok (.iload 5, 2) := by decide +kernel
theorem dX11_roadSize_34 : decode cX11_roadSize 34 = .ok (.iconst 4, 1) := by decide +kernel
theorem dX11_roadSize_35 : decode cX11_roadSize 35 = .ok (.if_icmp .ge 59, 3) := by decide +kernel
theorem dX11_roadSize_38 : decode cX11_roadSize 38 = .ok (.aload_n 0, 1) := by decide +kernel
theorem dX11_roadSize_39 : decode cX11_roadSize 39 = .ok (.getfield 40, 3) := by decide +kernel
theorem dX11_roadSize_42 : decode cX11_roadSize 42 = .ok (.iload 4, 2) := by decide +kernel
theorem dX11_roadSize_44 : decode cX11_roadSize 44 = .ok (.iaload, 1) := by decide +kernel
theorem dX11_roadSize_45 : decode cX11_roadSize 45 = .ok (.iload 5, 2) := by decide +kernel
theorem dX11_roadSize_47 : decode cX11_roadSize 47 = .ok (.invokestatic 167, 3) := by decide +kernel
theorem dX11_roadSize_50 : decode cX11_roadSize 50 = .ok (.istore 6, 2) := by decide +kernel
theorem dX11_roadSize_52 : decode cX11_roadSize 52 = .ok (.iload 6, 2) := by decide +kernel
theorem dX11_roadSize_54 : decode cX11_roadSize 54 = .ok (.ifCond .lt 34, 3) := by decide +kernel
theorem dX11_roadSize_57 : decode cX11_roadSize 57 = .ok (.aload_n 0, 1) := by decide +kernel
theorem dX11_roadSize_58 : decode cX11_roadSize 58 = .ok (.getfield 46, 3) := by decide +kernel
theorem dX11_roadSize_61 : decode cX11_roadSize 61 = .ok (.iload 6, 2) := by decide +kernel
theorem dX11_roadSize_63 : decode cX11_roadSize 63 = .ok (.iaload, 1) := by decide +kernel
theorem dX11_roadSize_64 : decode cX11_roadSize 64 = .ok (.iload_n 3, 1) := by decide +kernel
theorem dX11_roadSize_65 : decode cX11_roadSize 65 = .ok (.if_icmp .lt 23, 3) := by decide +kernel
theorem dX11_roadSize_68 : decode cX11_roadSize 68 = .ok (.aload_n 0, 1) := by decide +kernel
theorem dX11_roadSize_69 : decode cX11_roadSize 69 = .ok (.iload 6, 2) := by decide +kernel
theorem dX11_roadSize_71 : decode cX11_roadSize 71 = .ok (.aload_n 0, 1) := by decide +kernel
theorem dX11_roadSize_72 : decode cX11_roadSize 72 = .ok (.getfield 43, 3) := by decide +kernel
theorem dX11_roadSize_75 : decode cX11_roadSize 75 = .ok (.aload_n 0, 1) := by decide +kernel
theorem dX11_roadSize_76 : decode cX11_roadSize 76 = .ok (.getfield 40, 3) := by decide +kernel
theorem dX11_roadSize_79 : decode cX11_roadSize 79 = .ok (.iload 4, 2) := by decide +kernel
theorem dX11_roadSize_81 : decode cX11_roadSize 81 = .ok (.iaload, 1) := by decide +kernel
theorem dX11_roadSize_82 : decode cX11_roadSize 82 = .ok (.iaload, 1) := by decide +kernel
theorem dX11_roadSize_83 : decode cX11_roadSize 83 = .ok (.iconst 1, 1) := by decide +kernel
theorem dX11_roadSize_84 : decode cX11_roadSize 84 = .ok (.iadd, 1) := by decide +kernel
theorem dX11_roadSize_85 : decode cX11_roadSize 85 = .ok (.invokevirtual 190, 3) := by decide +kernel
theorem dX11_roadSize_88 : decode cX11_roadSize 88 = .ok (.iinc 5 1, 3) := by decide +kernel
theorem dX11_roadSize_91 : decode cX11_roadSize 91 = .ok (.goto (-59), 3) := by decide +kernel
theorem dX11_roadSize_94 : decode cX11_roadSize 94 = .ok (.iinc 4 1, 3) := by decide +kernel
theorem dX11_roadSize_97 : decode cX11_roadSize 97 = .ok (.goto (-77), 3) := by decide +kernel
theorem dX11_roadSize_100 : decode cX11_roadSize 100 = .ok (.aload_n 0, 1) := by decide +kernel
theorem dX11_roadSize_101 : decode cX11_roadSize 101 = .ok (.getfield 43, 3) := by decide +kernel
theorem dX11_roadSize_104 : decode cX11_roadSize 104 = .ok (.iload_n 1, 1) := by decide +kernel
theorem dX11_roadSize_105 : decode cX11_roadSize 105 = .ok (.iaload, 1) := by decide +kernel
theorem dX11_roadSize_106 : decode cX11_roadSize 106 = .ok (.iconst 1, 1) := by decide +kernel
theorem dX11_roadSize_107 : decode cX11_roadSize 107 = .ok (.iadd, 1) := by decide +kernel
theorem dX11_roadSize_108 : decode cX11_roadSize 108 = .ok (.ireturn, 1) := by decide +kernel
set_option maxRecDepth 20000 in
theorem ggX11_isRoad_X11_isSquare : GoodIn wsX11_isRoad wsX11_isSquare := goodIn_r _ [6, 7, 8, 9, 5, 10] (by decide +kernel) (by decide +kernel)
set_option maxRecDepth 20000 in
theorem gX11_isRoad_X11_isSquare : GoodIn wsX11_isRoad (va_wsS RX11 77 yX11_isSquare wsX11_isSquare) := goodIn_app (goodIn_of _ (by decide +kernel)) ggX11_isRoad_X11_isSquare
set_option maxRecDepth 20000 in
theorem ggX11_isRoad_X11_in : GoodIn wsX11_isRoad wsX11_in := goodIn_r _ [10] (by decide +kernel) (by decide +kernel)
set_option maxRecDepth 20000 in
theorem gX11_isRoad_X11_in : GoodIn wsX11_isRoad (va_wsS RX11 73 yX11_in wsX11_in) := goodIn_app (goodIn_of _ (by decide +kernel)) ggX11_isRoad_X11_in
theorem dX11_isRoad_0 : decode cX11_isRoad 0 = .ok (.iload_n 0, 1) := by decide +kernel
theorem dX11_isRoad_1 : decode cX11_isRoad 1 = .ok (.i2l, 1) := by decide +kernel
theorem dX11_isRoad_2 : decode cX11_isRoad 2 = .ok (.invokestatic 77, 3) := by decide +kernel
theorem dX11_isRoad_5 : decode cX11_isRoad 5 = .ok (.ifCond .eq 39, 3) := by decide +kernel
theorem dX11_isRoad_8 : decode cX11_isRoad 8 = .ok (.iload_n 1, 1) := by decide +kernel
theorem dX11_isRoad_9 : decode cX11_isRoad 9 = .ok (.i2l, 1) := by decide +kernel
theorem dX11_isRoad_10 : decode cX11_isRoad 10 = .ok (.invokestatic 77, 3) := by decide +kernel
theorem dX11_isRoad_13 : decode cX11_isRoad 13 = .ok (.ifCond .eq 31, 3) := by decide +kernel
theorem dX11_isRoad_16 : decode cX11_isRoad 16 = .ok (.iload_n 2, 1) := by decide +kernel
theorem dX11_isRoad_17 : decode cX11_isRoad 17 = .ok (.i2l, 1) := by decide +kernel
theorem dX11_isRoad_18 : decode cX11_isRoad 18 = .ok (.lconst 1, 1) := by decide +kernel
theorem dX11_isRoad_19 : decode cX11_isRoad 19 = .ok (.ldc2_w 110, 3) := by decide +kernel
theorem dX11_isRoad_22 : decode cX11_isRoad 22 = .ok (.invokestatic 73, 3) := by decide +kernel
theorem dX11_isRoad_25 : decode cX11_isRoad 25 = .ok (.ifCond .eq 19, 3) := by decide +kernel
theorem dX11_isRoad_28 : decode cX11_isRoad 28 = .ok (.iload_n 3, 1) := by decide +kernel
theorem dX11_isRoad_29 : decode cX11_isRoad 29 = .ok (.i2l, 1) := by decide +kernel
theorem dX11_isRoad_30 : decode cX11_isRoad 30 = .ok (.lconst 1, 1) := by decide +kernel
theorem dX11_isRoad_31 : decode cX11_isRoad 31 = .ok (.ldc2_w 102, 3) := by decide +kernel
theorem dX11_isRoad_34 : decode cX11_isRoad 34 = .ok (.invokestatic 73, 3) := by decide +kernel
theorem dX11_isRoad_37 : decode cX11_isRoad 37 = .ok (.ifCond .eq 7, 3) := by decide +kernel
theorem dX11_isRoad_40 : decode cX11_isRoad 40 = .ok (.iconst 1, 1) := by decide +kernel
theorem dX11_isRoad_41 : decode cX11_isRoad 41 = .ok (.goto 4, 3) := by decide +kernel
theorem dX11_isRoad_44 : decode cX11_isRoad 44 = .ok (.iconst 0, 1) := by decide +kernel
theorem dX11_isRoad_45 : decode cX11_isRoad 45 = .ok (.ireturn, 1) := by decide +kernel
set_option maxRecDepth 20000 in
theorem ggX11_road_X11_isRoad : GoodIn wsX11_road wsX11_isRoad := goodIn_r _ [7, 8, 9, 10, 11, 6, 12, 2, 13, 14, 15] (by decide +kernel) (by decide +kernel)
set_option maxRecDepth 20000 in
theorem gX11_road_X11_isRoad : GoodIn wsX11_road (va_wsS RX11 199 yX11_isRoad wsX11_isRoad) := goodIn_app (goodIn_of _ (by decide +kernel)) ggX11_road_X11_isRoad
set_option maxRecDepth 20000 in
theorem ggX11_road_X11_in : GoodIn wsX11_road wsX11_in := goodIn_r _ [15] (by decide +kernel) (by decide +kernel)
set_option maxRecDepth 20000 in
theorem gX11_road_X11_in : GoodIn wsX11_road (va_wsS RX11 73 yX11_in wsX11_in) := goodIn_app (goodIn_of _ (by decide +kernel)) ggX11_road_X11_in
set_option maxRecDepth 20000 in
theorem ggX11_road_X11_bearNow : GoodIn wsX11_road wsX11_bearNow := goodIn_r _ [19, 20, 21, 22, 23, 6, 24, 25, 26, 27, 28, 29, 30, 31, 52, 53, 54, 55, 56, 57, 58, 59, 60, 61, 62, 63, 64, 65, 66, 67, 68, 69, 70, 71, 72, 73, 74, 75, 76, 77, 78, 79] (by decide +kernel) (by decide +kernel)
set_option maxRecDepth 20000 in
theorem gX11_road_X11_bearNow : GoodIn wsX11_road (wsV RX11 203 RX11 yX11_bearNow wsX11_bearNow) := goodIn_app (goodIn_of _ (by decide +kernel)) ggX11_road_X11_bearNow
set_option maxRecDepth 20000 in
theorem ggX11_road_X11_needBy : GoodIn wsX11_road wsX11_needBy := goodIn_r _ [34] (by decide +kernel) (by decide +kernel)
set_option maxRecDepth 20000 in
theorem gX11_road_X11_needBy : GoodIn wsX11_road (va_wsS RX11 206 yX11_needBy wsX11_needBy) := goodIn_app (goodIn_of _ (by decide +kernel)) ggX11_road_X11_needBy
set_option maxRecDepth 20000 in
theorem ggX11_road_X11_roadSize : GoodIn wsX11_road wsX11_roadSize := goodIn_r _ [38, 20, 39, 40, 3, 41, 42, 43, 6, 44, 45, 46, 47, 48, 49, 50, 51, 52, 53, 54, 55, 56, 57, 58, 59, 60, 61, 62, 63, 64, 65, 66, 67, 68, 69, 70, 71, 72, 73, 74, 75, 76, 77, 78, 79] (by decide +kernel) (by decide +kernel)
set_option maxRecDepth 20000 in
theorem gX11_road_X11_roadSize : GoodIn wsX11_road (wsV RX11 209 RX11 yX11_roadSize wsX11_roadSize) := goodIn_app (goodIn_of _ (by decide +kernel)) ggX11_road_X11_roadSize
set_option maxRecDepth 20000 in
theorem ggX11_road_X11_nextTo : GoodIn wsX11_road wsX11_nextTo := goodIn_r _ [51] (by decide +kernel) (by decide +kernel)
set_option maxRecDepth 20000 in
theorem gX11_road_X11_nextTo : GoodIn wsX11_road (va_wsS RX11 167 yX11_nextTo wsX11_nextTo) := goodIn_app (goodIn_of _ (by decide +kernel)) ggX11_road_X11_nextTo
theorem dX11_road_0 : decode cX11_road 0 = .ok (.iload_n 1, 1) := by decide +kernel
theorem dX11_road_1 : decode cX11_road 1 = .ok (.iload_n 2, 1) := by decide +kernel
theorem dX11_road_2 : decode cX11_road 2 = .ok (.iload_n 3, 1) := by decide +kernel
theorem dX11_road_3 : decode cX11_road 3 = .ok (.iload 4, 2) := by decide +kernel
theorem dX11_road_5 : decode cX11_road 5 = .ok (.invokestatic 199, 3) := by decide +kernel
theorem dX11_road_8 : decode cX11_road 8 = .ok (.ifCond .eq 18, 3) := by decide +kernel
theorem dX11_road_11 : decode cX11_road 11 = .ok (.iload 5, 2) := by decide +kernel
theorem dX11_road_13 : decode cX11_road 13 = .ok (.i2l, 1) := by decide +kernel
theorem dX11_road_14 : decode cX11_road 14 = .ok (.ldc2_w 197, 3) := by decide +kernel
theorem dX11_road_17 : decode cX11_road 17 = .ok (.ldc2_w 71, 3) := by decide +kernel
theorem dX11_road_20 : decode cX11_road 20 = .ok (.invokestatic 73, 3) := by decide +kernel
theorem dX11_road_23 : decode cX11_road 23 = .ok (.ifCond .ne 5, 3) := by decide +kernel
theorem dX11_road_26 : decode cX11_road 26 = .ok (.iconst (-1), 1) := by decide +kernel
theorem dX11_road_27 : decode cX11_road 27 = .ok (.ireturn, 1) := by decide +kernel
theorem dX11_road_28 : decode cX11_road 28 = .ok (.aload_n 0, 1) := by decide +kernel
theorem dX11_road_29 : decode cX11_road 29 = .ok (.invokevirtual 203, 3) := by decide +kernel
theorem dX11_road_32 : decode cX11_road 32 = .ok (.aload_n 0, 1) := by decide +kernel
theorem dX11_road_33 : decode cX11_road 33 = .ok (.iload_n 1, 1) := by decide +kernel
theorem dX11_road_34 : decode cX11_road 34 = .ok (.iload_n 2, 1) := by decide +kernel
theorem dX11_road_35 : decode cX11_road 35 = .ok (.iload_n 3, 1) := by decide +kernel
theorem dX11_road_36 : decode cX11_road 36 = .ok (.iload 4, 2) := by decide +kernel
theorem dX11_road_38 : decode cX11_road 38 = .ok (.invokestatic 206, 3) := by decide +kernel
theorem dX11_road_41 : decode cX11_road 41 = .ok (.invokevirtual 209, 3) := by decide +kernel
theorem dX11_road_44 : decode cX11_road 44 = .ok (.istore 6, 2) := by decide +kernel
theorem dX11_road_46 : decode cX11_road 46 = .ok (.iload 6, 2) := by decide +kernel
theorem dX11_road_48 : decode cX11_road 48 = .ok (.ifCond .eq 10, 3) := by decide +kernel
theorem dX11_road_51 : decode cX11_road 51 = .ok (.iload 5, 2) := by decide +kernel
theorem dX11_road_53 : decode cX11_road 53 = .ok (.iload 6, 2) := by decide +kernel
theorem dX11_road_55 : decode cX11_road 55 = .ok (.if_icmp .lt 6, 3) := by decide +kernel
theorem dX11_road_58 : decode cX11_road 58 = .ok (.bipush (-4), 2) := by decide +kernel
theorem dX11_road_60 : decode cX11_road 60 = .ok (.ireturn, 1) := by decide +kernel
theorem dX11_road_61 : decode cX11_road 61 = .ok (.iload_n 1, 1) := by decide +kernel
theorem dX11_road_62 : decode cX11_road 62 = .ok (.istore 7, 2) := by decide +kernel
theorem dX11_road_64 : decode cX11_road 64 = .ok (.iconst 0, 1) := by decide +kernel
theorem dX11_road_65 : decode cX11_road 65 = .ok (.istore 8, 2) := by decide +kernel
theorem dX11_road_67 : decode cX11_road 67 = .ok (.iload 8, 2) := by decide +kernel
theorem dX11_road_69 : decode cX11_road 69 = .ok (.iload 5, 2) := by decide +kernel
theorem dX11_road_71 : decode cX11_road 71 = .ok (.if_icmp .ge 82, 3) := by decide +kernel
theorem dX11_road_74 : decode cX11_road 74 = .ok (.iconst (-1), 1) := by decide +kernel
theorem dX11_road_75 : decode cX11_road 75 = .ok (.istore 9, 2) := by decide +kernel
theorem dX11_road_77 : decode cX11_road 77 = .ok (.iconst 3, 1) := by decide +kernel
theorem dX11_road_78 : decode cX11_road 78 = .ok (.istore 10, 2) := by decide +kernel
theorem dX11_road_80 : decode cX11_road 80 = .ok (.iload 10, 2) := by decide +kernel
theorem dX11_road_82 : decode cX11_road 82 = .ok (.ifCond .lt 61, 3) := by decide +kernel
theorem dX11_road_85 : decode cX11_road 85 = .ok (.iload 7, 2) := by decide +kernel
theorem dX11_road_87 : decode cX11_road 87 = .ok (.iload 10, 2) := by decide +kernel
theorem dX11_road_89 : decode cX11_road 89 = .ok (.invokestatic 167, 3) := by decide +kernel
theorem dX11_road_92 : decode cX11_road 92 = .ok (.istore 11, 2) := by decide +kernel
theorem dX11_road_94 : decode cX11_road 94 = .ok (.iload 11, 2) := by decide +kernel
theorem dX11_road_96 : decode cX11_road 96 = .ok (.ifCond .lt 37, 3) := by decide +kernel
theorem dX11_road_99 : decode cX11_road 99 = .ok (.aload_n 0, 1) := by decide +kernel
theorem dX11_road_100 : decode cX11_road 100 = .ok (.getfield 43, 3) := by decide +kernel
theorem dX11_road_103 : decode cX11_road 103 = .ok (.iload 11, 2) := by decide +kernel
theorem dX11_road_105 : decode cX11_road 105 = .ok (.iaload, 1) := by decide +kernel
theorem dX11_road_106 : decode cX11_road 106 = .ok (.ifCond .lt 27, 3) := by decide +kernel
theorem dX11_road_109 : decode cX11_road 109 = .ok (.aload_n 0, 1) := by decide +kernel
theorem dX11_road_110 : decode cX11_road 110 = .ok (.getfield 43, 3) := by decide +kernel
theorem dX11_road_113 : decode cX11_road 113 = .ok (.iload 11, 2) := by decide +kernel
theorem dX11_road_115 : decode cX11_road 115 = .ok (.iaload, 1) := by decide +kernel
theorem dX11_road_116 : decode cX11_road 116 = .ok (.aload_n 0, 1) := by decide +kernel
theorem dX11_road_117 : decode cX11_road 117 = .ok (.getfield 43, 3) := by decide +kernel
theorem dX11_road_120 : decode cX11_road 120 = .ok (.iload 7, 2) := by decide +kernel
theorem dX11_road_122 : decode cX11_road 122 = .ok (.iaload, 1) := by decide +kernel
theorem dX11_road_123 : decode cX11_road 123 = .ok (.iconst 1, 1) := by decide +kernel
theorem dX11_road_124 : decode cX11_road 124 = .ok (.isub, 1) := by decide +kernel
theorem dX11_road_125 : decode cX11_road 125 = .ok (.if_icmp .ne 8, 3) := by decide +kernel
theorem dX11_road_128 : decode cX11_road 128 = .ok (.iload 11, 2) := by decide +kernel
theorem dX11_road_130 : decode cX11_road 130 = .ok (.goto 5, 3) := by decide +kernel
theorem dX11_road_133 : decode cX11_road 133 = .ok (.iload 9, 2) := by decide +kernel
theorem dX11_road_135 : decode cX11_road 135 = .ok (.istore 9, 2) := by decide +kernel
theorem dX11_road_137 : decode cX11_road 137 = .ok (.iinc 10 (-1), 3) := by decide +kernel
theorem dX11_road_140 : decode cX11_road 140 = .ok (.goto (-60), 3) := by decide +kernel
theorem dX11_road_143 : decode cX11_road 143 = .ok (.iload 9, 2) := by decide +kernel
theorem dX11_road_145 : decode cX11_road 145 = .ok (.istore 7, 2) := by decide +kernel
theorem dX11_road_147 : decode cX11_road 147 = .ok (.iinc 8 1, 3) := by decide +kernel
theorem dX11_road_150 : decode cX11_road 150 = .ok (.goto (-83), 3) := by decide +kernel
theorem dX11_road_153 : decode cX11_road 153 = .ok (.iload 5, 2) := by decide +kernel
theorem dX11_road_155 : decode cX11_road 155 = .ok (.ifCond .ge 8, 3) := by decide +kernel
theorem dX11_road_158 : decode cX11_road 158 = .ok (.iload 6, 2) := by decide +kernel
theorem dX11_road_160 : decode cX11_road 160 = .ok (.goto 5, 3) := by decide +kernel
theorem dX11_road_163 : decode cX11_road 163 = .ok (.iload 7, 2) := by decide +kernel
theorem dX11_road_165 : decode cX11_road 165 = .ok (.ireturn, 1) := by decide +kernel
set_option maxRecDepth 20000 in
theorem ggX11_most_X11_isRoad : GoodIn wsX11_most wsX11_isRoad := goodIn_r _ [4, 5, 6, 7, 8, 3, 9, 10, 11, 12, 13] (by decide +kernel) (by decide +kernel)
set_option maxRecDepth 20000 in
theorem gX11_most_X11_isRoad : GoodIn wsX11_most (va_wsS RX11 199 yX11_isRoad wsX11_isRoad) := goodIn_app (goodIn_of _ (by decide +kernel)) ggX11_most_X11_isRoad
set_option maxRecDepth 20000 in
theorem ggX11_most_X11_bearNow : GoodIn wsX11_most wsX11_bearNow := goodIn_r _ [17, 18, 19, 20, 21, 3, 22, 23, 24, 25, 26, 27, 28, 29, 51, 52, 53, 54, 55, 56, 57, 58, 59, 60, 61, 62, 63, 64, 65, 66, 67, 68, 69, 70, 71, 72, 73, 74, 75, 76, 77, 78] (by decide +kernel) (by decide +kernel)
set_option maxRecDepth 20000 in
theorem gX11_most_X11_bearNow : GoodIn wsX11_most (wsV RX11 203 RX11 yX11_bearNow wsX11_bearNow) := goodIn_app (goodIn_of _ (by decide +kernel)) ggX11_most_X11_bearNow
set_option maxRecDepth 20000 in
theorem ggX11_most_X11_needBy : GoodIn wsX11_most wsX11_needBy := goodIn_r _ [32] (by decide +kernel) (by decide +kernel)
set_option maxRecDepth 20000 in
theorem gX11_most_X11_needBy : GoodIn wsX11_most (va_wsS RX11 206 yX11_needBy wsX11_needBy) := goodIn_app (goodIn_of _ (by decide +kernel)) ggX11_most_X11_needBy
set_option maxRecDepth 20000 in
theorem ggX11_most_X11_roadSize : GoodIn wsX11_most wsX11_roadSize := goodIn_r _ [36, 18, 37, 38, 39, 40, 41, 42, 3, 43, 44, 45, 46, 47, 48, 49, 50, 51, 52, 53, 54, 55, 56, 57, 58, 59, 60, 61, 62, 63, 64, 65, 66, 67, 68, 69, 70, 71, 72, 73, 74, 75, 76, 77, 78] (by decide +kernel) (by decide +kernel)
set_option maxRecDepth 20000 in
theorem gX11_most_X11_roadSize : GoodIn wsX11_most (wsV RX11 209 RX11 yX11_roadSize wsX11_roadSize) := goodIn_app (goodIn_of _ (by decide +kernel)) ggX11_most_X11_roadSize
theorem dX11_most_0 : decode cX11_most 0 = .ok (.iload_n 1, 1) := by decide +kernel
theorem dX11_most_1 : decode cX11_most 1 = .ok (.iload_n 2, 1) := by decide +kernel
theorem dX11_most_2 : decode cX11_most 2 = .ok (.iconst 1, 1) := by decide +kernel
theorem dX11_most_3 : decode cX11_most 3 = .ok (.iload_n 3, 1) := by decide +kernel
theorem dX11_most_4 : decode cX11_most 4 = .ok (.invokestatic 199, 3) := by decide +kernel
theorem dX11_most_7 : decode cX11_most 7 = .ok (.ifCond .ne 5, 3) := by decide +kernel
theorem dX11_most_10 : decode cX11_most 10 = .ok (.iconst (-1), 1) := by decide +kernel
theorem dX11_most_11 : decode cX11_most 11 = .ok (.ireturn, 1) := by decide +kernel
theorem dX11_most_12 : decode cX11_most 12 = .ok (.aload_n 0, 1) := by decide +kernel
theorem dX11_most_13 : decode cX11_most 13 = .ok (.invokevirtual 203, 3) := by decide +kernel
theorem dX11_most_16 : decode cX11_most 16 = .ok (.bipush 99, 2) := by decide +kernel
theorem dX11_most_18 : decode cX11_most 18 = .ok (.istore 4, 2) := by decide +kernel
theorem dX11_most_20 : decode cX11_most 20 = .ok (.iload 4, 2) := by decide +kernel
theorem dX11_most_22 : decode cX11_most 22 = .ok (.ifCond .le 24, 3) := by decide +kernel
theorem dX11_most_25 : decode cX11_most 25 = .ok (.aload_n 0, 1) := by decide +kernel
theorem dX11_most_26 : decode cX11_most 26 = .ok (.iload_n 1, 1) := by decide +kernel
theorem dX11_most_27 : decode cX11_most 27 = .ok (.iload_n 2, 1) := by decide +kernel
theorem dX11_most_28 : decode cX11_most 28 = .ok (.iload 4, 2) := by decide +kernel
theorem dX11_most_30 : decode cX11_most 30 = .ok (.iload_n 3, 1) := by decide +kernel
theorem dX11_most_31 : decode cX11_most 31 = .ok (.invokestatic 206, 3) := by decide +kernel
theorem dX11_most_34 : decode cX11_most 34 = .ok (.invokevirtual 209, 3) := by decide +kernel
theorem dX11_most_37 : decode cX11_most 37 = .ok (.ifCond .ne 9, 3) := by decide +kernel
theorem dX11_most_40 : decode cX11_most 40 = .ok (.iinc 4 (-1), 3) := by decide +kernel
theorem dX11_most_43 : decode cX11_most 43 = .ok (.goto (-23), 3) := by decide +kernel
theorem dX11_most_46 : decode cX11_most 46 = .ok (.iload 4, 2) := by decide +kernel
theorem dX11_most_48 : decode cX11_most 48 = .ok (.ifCond .ne 8, 3) := by decide +kernel
theorem dX11_most_51 : decode cX11_most 51 = .ok (.bipush (-4), 2) := by decide +kernel
theorem dX11_most_53 : decode cX11_most 53 = .ok (.goto 5, 3) := by decide +kernel
theorem dX11_most_56 : decode cX11_most 56 = .ok (.iload 4, 2) := by decide +kernel
theorem dX11_most_58 : decode cX11_most 58 = .ok (.ireturn, 1) := by decide +kernel
set_option maxRecDepth 20000 in
theorem ggX11_planks_X11_isRoad : GoodIn wsX11_planks wsX11_isRoad := goodIn_r _ [7, 8, 9, 10, 11, 6, 12, 13, 14, 15, 16] (by decide +kernel) (by decide +kernel)
set_option maxRecDepth 20000 in
theorem gX11_planks_X11_isRoad : GoodIn wsX11_planks (va_wsS RX11 199 yX11_isRoad wsX11_isRoad) := goodIn_app (goodIn_of _ (by decide +kernel)) ggX11_planks_X11_isRoad
set_option maxRecDepth 20000 in
theorem ggX11_planks_X11_needBy : GoodIn wsX11_planks wsX11_needBy := goodIn_r _ [19] (by decide +kernel) (by decide +kernel)
set_option maxRecDepth 20000 in
theorem gX11_planks_X11_needBy : GoodIn wsX11_planks (va_wsS RX11 206 yX11_needBy wsX11_needBy) := goodIn_app (goodIn_of _ (by decide +kernel)) ggX11_planks_X11_needBy
set_option maxRecDepth 20000 in
theorem ggX11_planks_X11_bearsBy : GoodIn wsX11_planks wsX11_bearsBy := goodIn_r _ [22, 23, 24, 6, 25] (by decide +kernel) (by decide +kernel)
set_option maxRecDepth 20000 in
theorem gX11_planks_X11_bearsBy : GoodIn wsX11_planks (va_wsS RX11 90 yX11_bearsBy wsX11_bearsBy) := goodIn_app (goodIn_of _ (by decide +kernel)) ggX11_planks_X11_bearsBy
set_option maxRecDepth 20000 in
theorem ggX11_planks_X11_nextTo : GoodIn wsX11_planks wsX11_nextTo := goodIn_r _ [28] (by decide +kernel) (by decide +kernel)
set_option maxRecDepth 20000 in
theorem gX11_planks_X11_nextTo : GoodIn wsX11_planks (va_wsS RX11 167 yX11_nextTo wsX11_nextTo) := goodIn_app (goodIn_of _ (by decide +kernel)) ggX11_planks_X11_nextTo
theorem dX11_planks_0 : decode cX11_planks 0 = .ok (.iload_n 1, 1) := by decide +kernel
theorem dX11_planks_1 : decode cX11_planks 1 = .ok (.iload_n 2, 1) := by decide +kernel
theorem dX11_planks_2 : decode cX11_planks 2 = .ok (.iload_n 3, 1) := by decide +kernel
theorem dX11_planks_3 : decode cX11_planks 3 = .ok (.iload 4, 2) := by decide +kernel
theorem dX11_planks_5 : decode cX11_planks 5 = .ok (.invokestatic 199, 3) := by decide +kernel
theorem dX11_planks_8 : decode cX11_planks 8 = .ok (.ifCond .ne 5, 3) := by decide +kernel
theorem dX11_planks_11 : decode cX11_planks 11 = .ok (.iconst (-1), 1) := by decide +kernel
theorem dX11_planks_12 : decode cX11_planks 12 = .ok (.ireturn, 1) := by decide +kernel
theorem dX11_planks_13 : decode cX11_planks 13 = .ok (.iload_n 3, 1) := by decide +kernel
theorem dX11_planks_14 : decode cX11_planks 14 = .ok (.iload 4, 2) := by decide +kernel
theorem dX11_planks_16 : decode cX11_planks 16 = .ok (.invokestatic 206, 3) := by decide +kernel
theorem dX11_planks_19 : decode cX11_planks 19 = .ok (.istore 5, 2) := by decide +kernel
theorem dX11_planks_21 : decode cX11_planks 21 = .ok (.iconst 0, 1) := by decide +kernel
theorem dX11_planks_22 : decode cX11_planks 22 = .ok (.istore 6, 2) := by decide +kernel
theorem dX11_planks_24 : decode cX11_planks 24 = .ok (.iload 6, 2) := by decide +kernel
theorem dX11_planks_26 : decode cX11_planks 26 = .ok (.bipush 64, 2) := by decide +kernel
theorem dX11_planks_28 : decode cX11_planks 28 = .ok (.if_icmp .ge 77, 3) := by decide +kernel
theorem dX11_planks_31 : decode cX11_planks 31 = .ok (.aload_n 0, 1) := by decide +kernel
theorem dX11_planks_32 : decode cX11_planks 32 = .ok (.getfield 7, 3) := by decide +kernel
theorem dX11_planks_35 : decode cX11_planks 35 = .ok (.iload 6, 2) := by decide +kernel
theorem dX11_planks_37 : decode cX11_planks 37 = .ok (.iaload, 1) := by decide +kernel
theorem dX11_planks_38 : decode cX11_planks 38 = .ok (.aload_n 0, 1) := by decide +kernel
theorem dX11_planks_39 : decode cX11_planks 39 = .ok (.getfield 7, 3) := by decide +kernel
theorem dX11_planks_42 : decode cX11_planks 42 = .ok (.bipush 64, 2) := by decide +kernel
theorem dX11_planks_44 : decode cX11_planks 44 = .ok (.iload 6, 2) := by decide +kernel
theorem dX11_planks_46 : decode cX11_planks 46 = .ok (.iadd, 1) := by decide +kernel
theorem dX11_planks_47 : decode cX11_planks 47 = .ok (.iaload, 1) := by decide +kernel
theorem dX11_planks_48 : decode cX11_planks 48 = .ok (.invokestatic 90, 3) := by decide +kernel
theorem dX11_planks_51 : decode cX11_planks 51 = .ok (.istore 7, 2) := by decide +kernel
theorem dX11_planks_53 : decode cX11_planks 53 = .ok (.aload_n 0, 1) := by decide +kernel
theorem dX11_planks_54 : decode cX11_planks 54 = .ok (.getfield 46, 3) := by decide +kernel
theorem dX11_planks_57 : decode cX11_planks 57 = .ok (.iload 6, 2) := by decide +kernel
theorem dX11_planks_59 : decode cX11_planks 59 = .ok (.iload 7, 2) := by decide +kernel
theorem dX11_planks_61 : decode cX11_planks 61 = .ok (.iload 5, 2) := by decide +kernel
theorem dX11_planks_63 : decode cX11_planks 63 = .ok (.if_icmp .lt 7, 3) := by decide +kernel
theorem dX11_planks_66 : decode cX11_planks 66 = .ok (.iconst 0, 1) := by decide +kernel
theorem dX11_planks_67 : decode cX11_planks 67 = .ok (.goto 21, 3) := by decide +kernel
theorem dX11_planks_70 : decode cX11_planks 70 = .ok (.iload 7, 2) := by decide +kernel
theorem dX11_planks_72 : decode cX11_planks 72 = .ok (.sipush 180, 3) := by decide +kernel
theorem dX11_planks_75 : decode cX11_planks 75 = .ok (.iadd, 1) := by decide +kernel
theorem dX11_planks_76 : decode cX11_planks 76 = .ok (.iload 5, 2) := by decide +kernel
theorem dX11_planks_78 : decode cX11_planks 78 = .ok (.if_icmp .lt 7, 3) := by decide +kernel
theorem dX11_planks_81 : decode cX11_planks 81 = .ok (.iconst 1, 1) := by decide +kernel
theorem dX11_planks_82 : decode cX11_planks 82 = .ok (.goto 6, 3) := by decide +kernel
theorem dX11_planks_85 : decode cX11_planks 85 = .ok (.sipush 999, 3) := by decide +kernel
theorem dX11_planks_88 : decode cX11_planks 88 = .ok (.iastore, 1) := by decide +kernel
theorem dX11_planks_89 : decode cX11_planks 89 = .ok (.aload_n 0, 1) := by decide +kernel
theorem dX11_planks_90 : decode cX11_planks 90 = .ok (.getfield 43, 3) := by decide +kernel
theorem dX11_planks_93 : decode cX11_planks 93 = .ok (.iload 6, 2) := by decide +kernel
theorem dX11_planks_95 : decode cX11_planks 95 = .ok (.sipush 999, 3) := by decide +kernel
theorem dX11_planks_98 : decode cX11_planks 98 = .ok (.iastore, 1) := by decide +kernel
theorem dX11_planks_99 : decode cX11_planks 99 = .ok (.iinc 6 1, 3) := by decide +kernel
theorem dX11_planks_102 : decode cX11_planks 102 = .ok (.goto (-78), 3) := by decide +kernel
theorem dX11_planks_105 : decode cX11_planks 105 = .ok (.aload_n 0, 1) := by decide +kernel
theorem dX11_planks_106 : decode cX11_planks 106 = .ok (.getfield 43, 3) := by decide +kernel
theorem dX11_planks_109 : decode cX11_planks 109 = .ok (.iload_n 1, 1) := by decide +kernel
theorem dX11_planks_110 : decode cX11_planks 110 = .ok (.aload_n 0, 1) := by decide +kernel
theorem dX11_planks_111 : decode cX11_planks 111 = .ok (.getfield 46, 3) := by decide +kernel
theorem dX11_planks_114 : decode cX11_planks 114 = .ok (.iload_n 1, 1) := by decide +kernel
theorem dX11_planks_115 : decode cX11_planks 115 = .ok (.iaload, 1) := by decide +kernel
theorem dX11_planks_116 : decode cX11_planks 116 = .ok (.iastore, 1) := by decide +kernel
theorem dX11_planks_117 : decode cX11_planks 117 = .ok (.iconst 1, 1) := by decide +kernel
theorem dX11_planks_118 : decode cX11_planks 118 = .ok (.istore 6, 2) := by decide +kernel
theorem dX11_planks_120 : decode cX11_planks 120 = .ok (.iload 6, 2) := by decide +kernel
theorem dX11_planks_122 : decode cX11_planks 122 = .ok (.ifCond .eq 114, 3) := by decide +kernel
theorem dX11_planks_125 : decode cX11_planks 125 = .ok (.iconst 0, 1) := by decide +kernel
theorem dX11_planks_126 : decode cX11_planks 126 = .ok (.istore 6, 2) := by decide +kernel
theorem dX11_planks_128 : decode cX11_planks 128 = .ok (.iconst 0, 1) := by decide +kernel
theorem dX11_planks_129 : decode cX11_planks 129 = .ok (.istore 7, 2) := by decide +kernel
theorem dX11_planks_131 : decode cX11_planks 131 = .ok (.iload 7, 2) := by decide +kernel
theorem dX11_planks_133 : decode cX11_planks 133 = .ok (.bipush 64, 2) := by decide +kernel
theorem dX11_planks_135 : decode cX11_planks 135 = .ok (.if_icmp .ge 98, 3) := by decide +kernel
theorem dX11_planks_138 : decode cX11_planks 138 = .ok (.iconst 0, 1) := by decide +kernel
theorem dX11_planks_139 : decode cX11_planks 139 = .ok (.istore 8, 2) := by decide +kernel
theorem dX11_planks_141 : decode cX11_planks 141 = .ok (.iload 8, 2) := by decide +kernel
theorem dX11_planks_143 : decode cX11_planks 143 = .ok (.iconst 4, 1) := by decide +kernel
