theorem dX10_item_23 : decode cX10_item 23 = .ok (.iload_n 1, 1) := by decide +kernel
theorem dX10_item_24 : decode cX10_item 24 = .ok (.aaload, 1) := by decide +kernel
theorem dX10_item_25 : decode cX10_item 25 = .ok (.iload_n 2, 1) := by decide +kernel
theorem dX10_item_26 : decode cX10_item 26 = .ok (.iload_n 3, 1) := by decide +kernel
theorem dX10_item_27 : decode cX10_item 27 = .ok (.iconst 1, 1) := by decide +kernel
theorem dX10_item_28 : decode cX10_item 28 = .ok (.invokevirtual 256, 3) := by decide +kernel
theorem dX10_item_31 : decode cX10_item 31 = .ok (.istore 6, 2) := by decide +kernel
theorem dX10_item_33 : decode cX10_item 33 = .ok (.iload 6, 2) := by decide +kernel
theorem dX10_item_35 : decode cX10_item 35 = .ok (.ifCond .eq 6, 3) := by decide +kernel
theorem dX10_item_38 : decode cX10_item 38 = .ok (.iload 6, 2) := by decide +kernel
theorem dX10_item_40 : decode cX10_item 40 = .ok (.ireturn, 1) := by decide +kernel
theorem dX10_item_41 : decode cX10_item 41 = .ok (.aload_n 0, 1) := by decide +kernel
theorem dX10_item_42 : decode cX10_item 42 = .ok (.getfield 53, 3) := by decide +kernel
theorem dX10_item_45 : decode cX10_item 45 = .ok (.iload_n 1, 1) := by decide +kernel
theorem dX10_item_46 : decode cX10_item 46 = .ok (.aaload, 1) := by decide +kernel
theorem dX10_item_47 : decode cX10_item 47 = .ok (.iload_n 3, 1) := by decide +kernel
theorem dX10_item_48 : decode cX10_item 48 = .ok (.lload 4, 2) := by decide +kernel
theorem dX10_item_50 : decode cX10_item 50 = .ok (.invokevirtual 265, 3) := by decide +kernel
theorem dX10_item_53 : decode cX10_item 53 = .ok (.iconst 1, 1) := by decide +kernel
theorem dX10_item_54 : decode cX10_item 54 = .ok (.ireturn, 1) := by decide +kernel
theorem dX10_isWithin_0 : decode cX10_isWithin 0 = .ok (.lload_n 0, 1) := by decide +kernel
theorem dX10_isWithin_1 : decode cX10_isWithin 1 = .ok (.iload_n 2, 1) := by decide +kernel
theorem dX10_isWithin_2 : decode cX10_isWithin 2 = .ok (.i2l, 1) := by decide +kernel
theorem dX10_isWithin_3 : decode cX10_isWithin 3 = .ok (.lcmp, 1) := by decide +kernel
theorem dX10_isWithin_4 : decode cX10_isWithin 4 = .ok (.ifCond .lt 14, 3) := by decide +kernel
theorem dX10_isWithin_7 : decode cX10_isWithin 7 = .ok (.lload_n 0, 1) := by decide +kernel
theorem dX10_isWithin_8 : decode cX10_isWithin 8 = .ok (.iload_n 3, 1) := by decide +kernel
theorem dX10_isWithin_9 : decode cX10_isWithin 9 = .ok (.i2l, 1) := by decide +kernel
theorem dX10_isWithin_10 : decode cX10_isWithin 10 = .ok (.lcmp, 1) := by decide +kernel
theorem dX10_isWithin_11 : decode cX10_isWithin 11 = .ok (.ifCond .gt 7, 3) := by decide +kernel
theorem dX10_isWithin_14 : decode cX10_isWithin 14 = .ok (.iconst 1, 1) := by decide +kernel
theorem dX10_isWithin_15 : decode cX10_isWithin 15 = .ok (.goto 4, 3) := by decide +kernel
theorem dX10_isWithin_18 : decode cX10_isWithin 18 = .ok (.iconst 0, 1) := by decide +kernel
theorem dX10_isWithin_19 : decode cX10_isWithin 19 = .ok (.ireturn, 1) := by decide +kernel
set_option maxRecDepth 20000 in
theorem ggX10_isSquare_X10_isWithin : GoodIn wsX10_isSquare wsX10_isWithin := goodIn_r _ [4] (by decide +kernel) (by decide +kernel)
set_option maxRecDepth 20000 in
theorem gX10_isSquare_X10_isWithin : GoodIn wsX10_isSquare (va_wsS RX10 62 yX10_isWithin wsX10_isWithin) := goodIn_app (goodIn_of _ (by decide +kernel)) ggX10_isSquare_X10_isWithin
theorem dX10_isSquare_0 : decode cX10_isSquare 0 = .ok (.lload_n 0, 1) := by decide +kernel
theorem dX10_isSquare_1 : decode cX10_isSquare 1 = .ok (.iconst 0, 1) := by decide +kernel
theorem dX10_isSquare_2 : decode cX10_isSquare 2 = .ok (.bipush 63, 2) := by decide +kernel
theorem dX10_isSquare_4 : decode cX10_isSquare 4 = .ok (.invokestatic 62, 3) := by decide +kernel
theorem dX10_isSquare_7 : decode cX10_isSquare 7 = .ok (.ireturn, 1) := by decide +kernel
set_option maxRecDepth 20000 in
theorem ggX10_isLoad_X10_isWithin : GoodIn wsX10_isLoad wsX10_isWithin := goodIn_r _ [4] (by decide +kernel) (by decide +kernel)
set_option maxRecDepth 20000 in
theorem gX10_isLoad_X10_isWithin : GoodIn wsX10_isLoad (va_wsS RX10 62 yX10_isWithin wsX10_isWithin) := goodIn_app (goodIn_of _ (by decide +kernel)) ggX10_isLoad_X10_isWithin
theorem dX10_isLoad_0 : decode cX10_isLoad 0 = .ok (.iload_n 0, 1) := by decide +kernel
theorem dX10_isLoad_1 : decode cX10_isLoad 1 = .ok (.i2l, 1) := by decide +kernel
theorem dX10_isLoad_2 : decode cX10_isLoad 2 = .ok (.iconst 1, 1) := by decide +kernel
theorem dX10_isLoad_3 : decode cX10_isLoad 3 = .ok (.bipush 99, 2) := by decide +kernel
theorem dX10_isLoad_5 : decode cX10_isLoad 5 = .ok (.invokestatic 62, 3) := by decide +kernel
theorem dX10_isLoad_8 : decode cX10_isLoad 8 = .ok (.ireturn, 1) := by decide +kernel
set_option maxRecDepth 20000 in
theorem ggX10_isPace_X10_isWithin : GoodIn wsX10_isPace wsX10_isWithin := goodIn_r _ [4] (by decide +kernel) (by decide +kernel)
set_option maxRecDepth 20000 in
theorem gX10_isPace_X10_isWithin : GoodIn wsX10_isPace (va_wsS RX10 62 yX10_isWithin wsX10_isWithin) := goodIn_app (goodIn_of _ (by decide +kernel)) ggX10_isPace_X10_isWithin
theorem dX10_isPace_0 : decode cX10_isPace 0 = .ok (.iload_n 0, 1) := by decide +kernel
theorem dX10_isPace_1 : decode cX10_isPace 1 = .ok (.i2l, 1) := by decide +kernel
theorem dX10_isPace_2 : decode cX10_isPace 2 = .ok (.iconst 1, 1) := by decide +kernel
theorem dX10_isPace_3 : decode cX10_isPace 3 = .ok (.bipush 9, 2) := by decide +kernel
theorem dX10_isPace_5 : decode cX10_isPace 5 = .ok (.invokestatic 62, 3) := by decide +kernel
theorem dX10_isPace_8 : decode cX10_isPace 8 = .ok (.ireturn, 1) := by decide +kernel
set_option maxRecDepth 20000 in
theorem ggX10_isSheet_X10_isWithin : GoodIn wsX10_isSheet wsX10_isWithin := goodIn_r _ [4] (by decide +kernel) (by decide +kernel)
set_option maxRecDepth 20000 in
theorem gX10_isSheet_X10_isWithin : GoodIn wsX10_isSheet (va_wsS RX10 62 yX10_isWithin wsX10_isWithin) := goodIn_app (goodIn_of _ (by decide +kernel)) ggX10_isSheet_X10_isWithin
theorem dX10_isSheet_0 : decode cX10_isSheet 0 = .ok (.iload_n 0, 1) := by decide +kernel
theorem dX10_isSheet_1 : decode cX10_isSheet 1 = .ok (.i2l, 1) := by decide +kernel
theorem dX10_isSheet_2 : decode cX10_isSheet 2 = .ok (.iconst 0, 1) := by decide +kernel
theorem dX10_isSheet_3 : decode cX10_isSheet 3 = .ok (.iconst 3, 1) := by decide +kernel
theorem dX10_isSheet_4 : decode cX10_isSheet 4 = .ok (.invokestatic 62, 3) := by decide +kernel
theorem dX10_isSheet_7 : decode cX10_isSheet 7 = .ok (.ireturn, 1) := by decide +kernel
set_option maxRecDepth 20000 in
theorem ggX10_isRoadAsked_X10_isSquare : GoodIn wsX10_isRoadAsked wsX10_isSquare := goodIn_r _ [4, 5, 6, 3, 7] (by decide +kernel) (by decide +kernel)
set_option maxRecDepth 20000 in
theorem gX10_isRoadAsked_X10_isSquare : GoodIn wsX10_isRoadAsked (va_wsS RX10 58 yX10_isSquare wsX10_isSquare) := goodIn_app (goodIn_of _ (by decide +kernel)) ggX10_isRoadAsked_X10_isSquare
set_option maxRecDepth 20000 in
theorem ggX10_isRoadAsked_X10_isLoad : GoodIn wsX10_isRoadAsked wsX10_isLoad := goodIn_r _ [10, 5, 6, 3, 7] (by decide +kernel) (by decide +kernel)
set_option maxRecDepth 20000 in
theorem gX10_isRoadAsked_X10_isLoad : GoodIn wsX10_isRoadAsked (va_wsS RX10 162 yX10_isLoad wsX10_isLoad) := goodIn_app (goodIn_of _ (by decide +kernel)) ggX10_isRoadAsked_X10_isLoad
set_option maxRecDepth 20000 in
theorem ggX10_isRoadAsked_X10_isPace : GoodIn wsX10_isRoadAsked wsX10_isPace := goodIn_r _ [13, 5, 6, 3, 7] (by decide +kernel) (by decide +kernel)
set_option maxRecDepth 20000 in
theorem gX10_isRoadAsked_X10_isPace : GoodIn wsX10_isRoadAsked (va_wsS RX10 166 yX10_isPace wsX10_isPace) := goodIn_app (goodIn_of _ (by decide +kernel)) ggX10_isRoadAsked_X10_isPace
theorem dX10_isRoadAsked_0 : decode cX10_isRoadAsked 0 = .ok (.iload_n 0, 1) := by decide +kernel
theorem dX10_isRoadAsked_1 : decode cX10_isRoadAsked 1 = .ok (.i2l, 1) := by decide +kernel
theorem dX10_isRoadAsked_2 : decode cX10_isRoadAsked 2 = .ok (.invokestatic 58, 3) := by decide +kernel
theorem dX10_isRoadAsked_5 : decode cX10_isRoadAsked 5 = .ok (.ifCond .eq 29, 3) := by decide +kernel
theorem dX10_isRoadAsked_8 : decode cX10_isRoadAsked 8 = .ok (.iload_n 1, 1) := by decide +kernel
theorem dX10_isRoadAsked_9 : decode cX10_isRoadAsked 9 = .ok (.i2l, 1) := by decide +kernel
theorem dX10_isRoadAsked_10 : decode cX10_isRoadAsked 10 = .ok (.invokestatic 58, 3) := by decide +kernel
theorem dX10_isRoadAsked_13 : decode cX10_isRoadAsked 13 = .ok (.ifCond .eq 21, 3) := by decide +kernel
theorem dX10_isRoadAsked_16 : decode cX10_isRoadAsked 16 = .ok (.iload_n 2, 1) := by decide +kernel
theorem dX10_isRoadAsked_17 : decode cX10_isRoadAsked 17 = .ok (.invokestatic 162, 3) := by decide +kernel
theorem dX10_isRoadAsked_20 : decode cX10_isRoadAsked 20 = .ok (.ifCond .eq 14, 3) := by decide +kernel
theorem dX10_isRoadAsked_23 : decode cX10_isRoadAsked 23 = .ok (.iload_n 3, 1) := by decide +kernel
theorem dX10_isRoadAsked_24 : decode cX10_isRoadAsked 24 = .ok (.invokestatic 166, 3) := by decide +kernel
theorem dX10_isRoadAsked_27 : decode cX10_isRoadAsked 27 = .ok (.ifCond .eq 7, 3) := by decide +kernel
theorem dX10_isRoadAsked_30 : decode cX10_isRoadAsked 30 = .ok (.iconst 1, 1) := by decide +kernel
theorem dX10_isRoadAsked_31 : decode cX10_isRoadAsked 31 = .ok (.goto 4, 3) := by decide +kernel
theorem dX10_isRoadAsked_34 : decode cX10_isRoadAsked 34 = .ok (.iconst 0, 1) := by decide +kernel
theorem dX10_isRoadAsked_35 : decode cX10_isRoadAsked 35 = .ok (.ireturn, 1) := by decide +kernel
theorem dX10_byteOf_0 : decode cX10_byteOf 0 = .ok (.lload_n 0, 1) := by decide +kernel
theorem dX10_byteOf_1 : decode cX10_byteOf 1 = .ok (.bipush 8, 2) := by decide +kernel
theorem dX10_byteOf_3 : decode cX10_byteOf 3 = .ok (.iload_n 2, 1) := by decide +kernel
theorem dX10_byteOf_4 : decode cX10_byteOf 4 = .ok (.imul, 1) := by decide +kernel
theorem dX10_byteOf_5 : decode cX10_byteOf 5 = .ok (.lushr, 1) := by decide +kernel
theorem dX10_byteOf_6 : decode cX10_byteOf 6 = .ok (.l2i, 1) := by decide +kernel
theorem dX10_byteOf_7 : decode cX10_byteOf 7 = .ok (.sipush 255, 3) := by decide +kernel
theorem dX10_byteOf_10 : decode cX10_byteOf 10 = .ok (.iand, 1) := by decide +kernel
theorem dX10_byteOf_11 : decode cX10_byteOf 11 = .ok (.ireturn, 1) := by decide +kernel
theorem dX10_weightAlone_0 : decode cX10_weightAlone 0 = .ok (.iload_n 0, 1) := by decide +kernel
theorem dX10_weightAlone_1 : decode cX10_weightAlone 1 = .ok (.bipush 10, 2) := by decide +kernel
theorem dX10_weightAlone_3 : decode cX10_weightAlone 3 = .ok (.iload_n 1, 1) := by decide +kernel
theorem dX10_weightAlone_4 : decode cX10_weightAlone 4 = .ok (.iadd, 1) := by decide +kernel
theorem dX10_weightAlone_5 : decode cX10_weightAlone 5 = .ok (.imul, 1) := by decide +kernel
theorem dX10_weightAlone_6 : decode cX10_weightAlone 6 = .ok (.bipush 10, 2) := by decide +kernel
theorem dX10_weightAlone_8 : decode cX10_weightAlone 8 = .ok (.idiv, 1) := by decide +kernel
theorem dX10_weightAlone_9 : decode cX10_weightAlone 9 = .ok (.ireturn, 1) := by decide +kernel
theorem dX10_beside_0 : decode cX10_beside 0 = .ok (.iload_n 1, 1) := by decide +kernel
theorem dX10_beside_1 : decode cX10_beside 1 = .ok (.tableswitch 93 0 3 #[31, 46, 61, 78], 31) := by decide +kernel
theorem dX10_beside_32 : decode cX10_beside 32 = .ok (.iload_n 0, 1) := by decide +kernel
theorem dX10_beside_33 : decode cX10_beside 33 = .ok (.bipush 8, 2) := by decide +kernel
theorem dX10_beside_35 : decode cX10_beside 35 = .ok (.if_icmp .lt 10, 3) := by decide +kernel
theorem dX10_beside_38 : decode cX10_beside 38 = .ok (.iload_n 0, 1) := by decide +kernel
theorem dX10_beside_39 : decode cX10_beside 39 = .ok (.bipush 8, 2) := by decide +kernel
theorem dX10_beside_41 : decode cX10_beside 41 = .ok (.isub, 1) := by decide +kernel
theorem dX10_beside_42 : decode cX10_beside 42 = .ok (.goto 4, 3) := by decide +kernel
theorem dX10_beside_45 : decode cX10_beside 45 = .ok (.iconst (-1), 1) := by decide +kernel
theorem dX10_beside_46 : decode cX10_beside 46 = .ok (.ireturn, 1) := by decide +kernel
theorem dX10_beside_47 : decode cX10_beside 47 = .ok (.iload_n 0, 1) := by decide +kernel
theorem dX10_beside_48 : decode cX10_beside 48 = .ok (.bipush 8, 2) := by decide +kernel
theorem dX10_beside_50 : decode cX10_beside 50 = .ok (.irem, 1) := by decide +kernel
theorem dX10_beside_51 : decode cX10_beside 51 = .ok (.ifCond .le 9, 3) := by decide +kernel
theorem dX10_beside_54 : decode cX10_beside 54 = .ok (.iload_n 0, 1) := by decide +kernel
theorem dX10_beside_55 : decode cX10_beside 55 = .ok (.iconst 1, 1) := by decide +kernel
theorem dX10_beside_56 : decode cX10_beside 56 = .ok (.isub, 1) := by decide +kernel
theorem dX10_beside_57 : decode cX10_beside 57 = .ok (.goto 4, 3) := by decide +kernel
theorem dX10_beside_60 : decode cX10_beside 60 = .ok (.iconst (-1), 1) := by decide +kernel
theorem dX10_beside_61 : decode cX10_beside 61 = .ok (.ireturn, 1) := by decide +kernel
theorem dX10_beside_62 : decode cX10_beside 62 = .ok (.iload_n 0, 1) := by decide +kernel
theorem dX10_beside_63 : decode cX10_beside 63 = .ok (.bipush 8, 2) := by decide +kernel
theorem dX10_beside_65 : decode cX10_beside 65 = .ok (.irem, 1) := by decide +kernel
theorem dX10_beside_66 : decode cX10_beside 66 = .ok (.bipush 7, 2) := by decide +kernel
theorem dX10_beside_68 : decode cX10_beside 68 = .ok (.if_icmp .ge 9, 3) := by decide +kernel
theorem dX10_beside_71 : decode cX10_beside 71 = .ok (.iload_n 0, 1) := by decide +kernel
theorem dX10_beside_72 : decode cX10_beside 72 = .ok (.iconst 1, 1) := by decide +kernel
theorem dX10_beside_73 : decode cX10_beside 73 = .ok (.iadd, 1) := by decide +kernel
theorem dX10_beside_74 : decode cX10_beside 74 = .ok (.goto 4, 3) := by decide +kernel
theorem dX10_beside_77 : decode cX10_beside 77 = .ok (.iconst (-1), 1) := by decide +kernel
theorem dX10_beside_78 : decode cX10_beside 78 = .ok (.ireturn, 1) := by decide +kernel
theorem dX10_beside_79 : decode cX10_beside 79 = .ok (.iload_n 0, 1) := by decide +kernel
theorem dX10_beside_80 : decode cX10_beside 80 = .ok (.bipush 56, 2) := by decide +kernel
theorem dX10_beside_82 : decode cX10_beside 82 = .ok (.if_icmp .ge 10, 3) := by decide +kernel
theorem dX10_beside_85 : decode cX10_beside 85 = .ok (.iload_n 0, 1) := by decide +kernel
theorem dX10_beside_86 : decode cX10_beside 86 = .ok (.bipush 8, 2) := by decide +kernel
theorem dX10_beside_88 : decode cX10_beside 88 = .ok (.iadd, 1) := by decide +kernel
theorem dX10_beside_89 : decode cX10_beside 89 = .ok (.goto 4, 3) := by decide +kernel
theorem dX10_beside_92 : decode cX10_beside 92 = .ok (.iconst (-1), 1) := by decide +kernel
theorem dX10_beside_93 : decode cX10_beside 93 = .ok (.ireturn, 1) := by decide +kernel
theorem dX10_beside_94 : decode cX10_beside 94 = .ok (.iconst (-1), 1) := by decide +kernel
theorem dX10_beside_95 : decode cX10_beside 95 = .ok (.ireturn, 1) := by decide +kernel
theorem dX10_allBeside_0 : decode cX10_allBeside 0 = .ok (.lload_n 0, 1) := by decide +kernel
theorem dX10_allBeside_1 : decode cX10_allBeside 1 = .ok (.bipush 8, 2) := by decide +kernel
theorem dX10_allBeside_3 : decode cX10_allBeside 3 = .ok (.lushr, 1) := by decide +kernel
theorem dX10_allBeside_4 : decode cX10_allBeside 4 = .ok (.lload_n 0, 1) := by decide +kernel
theorem dX10_allBeside_5 : decode cX10_allBeside 5 = .ok (.bipush 8, 2) := by decide +kernel
theorem dX10_allBeside_7 : decode cX10_allBeside 7 = .ok (.lshl, 1) := by decide +kernel
theorem dX10_allBeside_8 : decode cX10_allBeside 8 = .ok (.lor, 1) := by decide +kernel
theorem dX10_allBeside_9 : decode cX10_allBeside 9 = .ok (.lload_n 0, 1) := by decide +kernel
theorem dX10_allBeside_10 : decode cX10_allBeside 10 = .ok (.ldc2_w 276, 3) := by decide +kernel
theorem dX10_allBeside_13 : decode cX10_allBeside 13 = .ok (.land, 1) := by decide +kernel
theorem dX10_allBeside_14 : decode cX10_allBeside 14 = .ok (.iconst 1, 1) := by decide +kernel
theorem dX10_allBeside_15 : decode cX10_allBeside 15 = .ok (.lushr, 1) := by decide +kernel
theorem dX10_allBeside_16 : decode cX10_allBeside 16 = .ok (.lor, 1) := by decide +kernel
theorem dX10_allBeside_17 : decode cX10_allBeside 17 = .ok (.lload_n 0, 1) := by decide +kernel
theorem dX10_allBeside_18 : decode cX10_allBeside 18 = .ok (.ldc2_w 278, 3) := by decide +kernel
theorem dX10_allBeside_21 : decode cX10_allBeside 21 = .ok (.land, 1) := by decide +kernel
theorem dX10_allBeside_22 : decode cX10_allBeside 22 = .ok (.iconst 1, 1) := by decide +kernel
theorem dX10_allBeside_23 : decode cX10_allBeside 23 = .ok (.lshl, 1) := by decide +kernel
theorem dX10_allBeside_24 : decode cX10_allBeside 24 = .ok (.lor, 1) := by decide +kernel
theorem dX10_allBeside_25 : decode cX10_allBeside 25 = .ok (.lreturn, 1) := by decide +kernel
set_option maxRecDepth 20000 in
theorem ggX10_areNext_X10_allBeside : GoodIn wsX10_areNext wsX10_allBeside := goodIn_r _ [4, 5, 6] (by decide +kernel) (by decide +kernel)
set_option maxRecDepth 20000 in
theorem gX10_areNext_X10_allBeside : GoodIn wsX10_areNext (va_wsS RX10 280 yX10_allBeside wsX10_allBeside) := goodIn_app (goodIn_of _ (by decide +kernel)) ggX10_areNext_X10_allBeside
theorem dX10_areNext_0 : decode cX10_areNext 0 = .ok (.lconst 1, 1) := by decide +kernel
theorem dX10_areNext_1 : decode cX10_areNext 1 = .ok (.iload_n 0, 1) := by decide +kernel
theorem dX10_areNext_2 : decode cX10_areNext 2 = .ok (.lshl, 1) := by decide +kernel
theorem dX10_areNext_3 : decode cX10_areNext 3 = .ok (.invokestatic 280, 3) := by decide +kernel
theorem dX10_areNext_6 : decode cX10_areNext 6 = .ok (.iload_n 1, 1) := by decide +kernel
theorem dX10_areNext_7 : decode cX10_areNext 7 = .ok (.lushr, 1) := by decide +kernel
theorem dX10_areNext_8 : decode cX10_areNext 8 = .ok (.lconst 1, 1) := by decide +kernel
theorem dX10_areNext_9 : decode cX10_areNext 9 = .ok (.land, 1) := by decide +kernel
theorem dX10_areNext_10 : decode cX10_areNext 10 = .ok (.lconst 0, 1) := by decide +kernel
theorem dX10_areNext_11 : decode cX10_areNext 11 = .ok (.lcmp, 1) := by decide +kernel
theorem dX10_areNext_12 : decode cX10_areNext 12 = .ok (.ifCond .eq 7, 3) := by decide +kernel
theorem dX10_areNext_15 : decode cX10_areNext 15 = .ok (.iconst 1, 1) := by decide +kernel
theorem dX10_areNext_16 : decode cX10_areNext 16 = .ok (.goto 4, 3) := by decide +kernel
theorem dX10_areNext_19 : decode cX10_areNext 19 = .ok (.iconst 0, 1) := by decide +kernel
theorem dX10_areNext_20 : decode cX10_areNext 20 = .ok (.ireturn, 1) := by decide +kernel
theorem dX11_init_0 : decode cX11_init 0 = .ok (.aload_n 0, 1) := by decide +kernel
theorem dX11_init_1 : decode cX11_init 1 = .ok (.invokespecial 1, 3) := by decide +kernel
theorem dX11_init_4 : decode cX11_init 4 = .ok (.aload_n 0, 1) := by decide +kernel
theorem dX11_init_5 : decode cX11_init 5 = .ok (.sipush 320, 3) := by decide +kernel
theorem dX11_init_8 : decode cX11_init 8 = .ok (.newarray .int, 2) := by decide +kernel
theorem dX11_init_10 : decode cX11_init 10 = .ok (.putfield 7, 3) := by decide +kernel
theorem dX11_init_13 : decode cX11_init 13 = .ok (.aload_n 0, 1) := by decide +kernel
theorem dX11_init_14 : decode cX11_init 14 = .ok (.bipush 6, 2) := by decide +kernel
theorem dX11_init_16 : decode cX11_init 16 = .ok (.newarray .int, 2) := by decide +kernel
theorem dX11_init_18 : decode cX11_init 18 = .ok (.putfield 13, 3) := by decide +kernel
theorem dX11_init_21 : decode cX11_init 21 = .ok (.aload_n 0, 1) := by decide +kernel
theorem dX11_init_22 : decode cX11_init 22 = .ok (.bipush 6, 2) := by decide +kernel
theorem dX11_init_24 : decode cX11_init 24 = .ok (.newarray .int, 2) := by decide +kernel
theorem dX11_init_26 : decode cX11_init 26 = .ok (.putfield 16, 3) := by decide +kernel
theorem dX11_init_29 : decode cX11_init 29 = .ok (.aload_n 0, 1) := by decide +kernel
theorem dX11_init_30 : decode cX11_init 30 = .ok (.bipush 6, 2) := by decide +kernel
theorem dX11_init_32 : decode cX11_init 32 = .ok (.newarray .int, 2) := by decide +kernel
theorem dX11_init_34 : decode cX11_init 34 = .ok (.putfield 19, 3) := by decide +kernel
theorem dX11_init_37 : decode cX11_init 37 = .ok (.aload_n 0, 1) := by decide +kernel
theorem dX11_init_38 : decode cX11_init 38 = .ok (.bipush 24, 2) := by decide +kernel
theorem dX11_init_40 : decode cX11_init 40 = .ok (.newarray .int, 2) := by decide +kernel
theorem dX11_init_42 : decode cX11_init 42 = .ok (.putfield 22, 3) := by decide +kernel
theorem dX11_init_45 : decode cX11_init 45 = .ok (.aload_n 0, 1) := by decide +kernel
theorem dX11_init_46 : decode cX11_init 46 = .ok (.iconst 2, 1) := by decide +kernel
theorem dX11_init_47 : decode cX11_init 47 = .ok (.newarray .int, 2) := by decide +kernel
theorem dX11_init_49 : decode cX11_init 49 = .ok (.putfield 25, 3) := by decide +kernel
theorem dX11_init_52 : decode cX11_init 52 = .ok (.aload_n 0, 1) := by decide +kernel
theorem dX11_init_53 : decode cX11_init 53 = .ok (.iconst 4, 1) := by decide +kernel
theorem dX11_init_54 : decode cX11_init 54 = .ok (.newarray .int, 2) := by decide +kernel
theorem dX11_init_56 : decode cX11_init 56 = .ok (.putfield 28, 3) := by decide +kernel
theorem dX11_init_59 : decode cX11_init 59 = .ok (.aload_n 0, 1) := by decide +kernel
theorem dX11_init_60 : decode cX11_init 60 = .ok (.bipush 48, 2) := by decide +kernel
theorem dX11_init_62 : decode cX11_init 62 = .ok (.newarray .int, 2) := by decide +kernel
theorem dX11_init_64 : decode cX11_init 64 = .ok (.putfield 31, 3) := by decide +kernel
theorem dX11_init_67 : decode cX11_init 67 = .ok (.aload_n 0, 1) := by decide +kernel
theorem dX11_init_68 : decode cX11_init 68 = .ok (.sipush 140, 3) := by decide +kernel
theorem dX11_init_71 : decode cX11_init 71 = .ok (.newarray .int, 2) := by decide +kernel
theorem dX11_init_73 : decode cX11_init 73 = .ok (.putfield 34, 3) := by decide +kernel
theorem dX11_init_76 : decode cX11_init 76 = .ok (.aload_n 0, 1) := by decide +kernel
theorem dX11_init_77 : decode cX11_init 77 = .ok (.bipush 64, 2) := by decide +kernel
theorem dX11_init_79 : decode cX11_init 79 = .ok (.newarray .int, 2) := by decide +kernel
theorem dX11_init_81 : decode cX11_init 81 = .ok (.putfield 37, 3) := by decide +kernel
theorem dX11_init_84 : decode cX11_init 84 = .ok (.aload_n 0, 1) := by decide +kernel
theorem dX11_init_85 : decode cX11_init 85 = .ok (.bipush 64, 2) := by decide +kernel
theorem dX11_init_87 : decode cX11_init 87 = .ok (.newarray .int, 2) := by decide +kernel
theorem dX11_init_89 : decode cX11_init 89 = .ok (.putfield 40, 3) := by decide +kernel
theorem dX11_init_92 : decode cX11_init 92 = .ok (.aload_n 0, 1) := by decide +kernel
theorem dX11_init_93 : decode cX11_init 93 = .ok (.bipush 64, 2) := by decide +kernel
theorem dX11_init_95 : decode cX11_init 95 = .ok (.newarray .int, 2) := by decide +kernel
theorem dX11_init_97 : decode cX11_init 97 = .ok (.putfield 43, 3) := by decide +kernel
theorem dX11_init_100 : decode cX11_init 100 = .ok (.aload_n 0, 1) := by decide +kernel
theorem dX11_init_101 : decode cX11_init 101 = .ok (.bipush 64, 2) := by decide +kernel
theorem dX11_init_103 : decode cX11_init 103 = .ok (.newarray .int, 2) := by decide +kernel
theorem dX11_init_105 : decode cX11_init 105 = .ok (.putfield 46, 3) := by decide +kernel
theorem dX11_init_108 : decode cX11_init 108 = .ok (.aload_n 0, 1) := by decide +kernel
theorem dX11_init_109 : decode cX11_init 109 = .ok (.bipush 64, 2) := by decide +kernel
theorem dX11_init_111 : decode cX11_init 111 = .ok (.newarray .int, 2) := by decide +kernel
theorem dX11_init_113 : decode cX11_init 113 = .ok (.putfield 49, 3) := by decide +kernel
theorem dX11_init_116 : decode cX11_init 116 = .ok (.aload_n 0, 1) := by decide +kernel
theorem dX11_init_117 : decode cX11_init 117 = .ok (.bipush 64, 2) := by decide +kernel
theorem dX11_init_119 : decode cX11_init 119 = .ok (.newarray .int, 2) := by decide +kernel
theorem dX11_init_121 : decode cX11_init 121 = .ok (.putfield 52, 3) := by decide +kernel
theorem dX11_init_124 : decode cX11_init 124 = .ok (.aload_n 0, 1) := by decide +kernel
theorem dX11_init_125 : decode cX11_init 125 = .ok (.sipush 420, 3) := by decide +kernel
theorem dX11_init_128 : decode cX11_init 128 = .ok (.newarray .int, 2) := by decide +kernel
theorem dX11_init_130 : decode cX11_init 130 = .ok (.putfield 55, 3) := by decide +kernel
theorem dX11_init_133 : decode cX11_init 133 = .ok (.aload_n 0, 1) := by decide +kernel
theorem dX11_init_134 : decode cX11_init 134 = .ok (.iconst 3, 1) := by decide +kernel
theorem dX11_init_135 : decode cX11_init 135 = .ok (.newarray .int, 2) := by decide +kernel
theorem dX11_init_137 : decode cX11_init 137 = .ok (.putfield 58, 3) := by decide +kernel
theorem dX11_init_140 : decode cX11_init 140 = .ok (.aload_n 0, 1) := by decide +kernel
theorem dX11_init_141 : decode cX11_init 141 = .ok (.iconst 4, 1) := by decide +kernel
theorem dX11_init_142 : decode cX11_init 142 = .ok (.newarray .int, 2) := by decide +kernel
theorem dX11_init_144 : decode cX11_init 144 = .ok (.putfield 61, 3) := by decide +kernel
theorem dX11_init_147 : decode cX11_init 147 = .ok (.aload_n 0, 1) := by decide +kernel
theorem dX11_init_148 : decode cX11_init 148 = .ok (.iconst 4, 1) := by decide +kernel
theorem dX11_init_149 : decode cX11_init 149 = .ok (.newarray .int, 2) := by decide +kernel
theorem dX11_init_151 : decode cX11_init 151 = .ok (.putfield 64, 3) := by decide +kernel
theorem dX11_init_154 : decode cX11_init 154 = .ok (.aload_n 0, 1) := by decide +kernel
theorem dX11_init_155 : decode cX11_init 155 = .ok (.bipush 96, 2) := by decide +kernel
theorem dX11_init_157 : decode cX11_init 157 = .ok (.newarray .long, 2) := by decide +kernel
theorem dX11_init_159 : decode cX11_init 159 = .ok (.putfield 67, 3) := by decide +kernel
theorem dX11_init_162 : decode cX11_init 162 = .ok (.iconst 0, 1) := by decide +kernel
theorem dX11_init_163 : decode cX11_init 163 = .ok (.istore_n 1, 1) := by decide +kernel
theorem dX11_init_164 : decode cX11_init 164 = .ok (.iload_n 1, 1) := by decide +kernel
theorem dX11_init_165 : decode cX11_init 165 = .ok (.iconst 4, 1) := by decide +kernel
theorem dX11_init_166 : decode cX11_init 166 = .ok (.if_icmp .ge 16, 3) := by decide +kernel
theorem dX11_init_169 : decode cX11_init 169 = .ok (.aload_n 0, 1) := by decide +kernel
theorem dX11_init_170 : decode cX11_init 170 = .ok (.getfield 61, 3) := by decide +kernel
theorem dX11_init_173 : decode cX11_init 173 = .ok (.iload_n 1, 1) := by decide +kernel
theorem dX11_init_174 : decode cX11_init 174 = .ok (.iconst (-1), 1) := by decide +kernel
theorem dX11_init_175 : decode cX11_init 175 = .ok (.iastore, 1) := by decide +kernel
theorem dX11_init_176 : decode cX11_init 176 = .ok (.iinc 1 1, 3) := by decide +kernel
theorem dX11_init_179 : decode cX11_init 179 = .ok (.goto (-15), 3) := by decide +kernel
theorem dX11_init_182 : decode cX11_init 182 = .ok (.iconst 0, 1) := by decide +kernel
theorem dX11_init_183 : decode cX11_init 183 = .ok (.istore_n 1, 1) := by decide +kernel
theorem dX11_init_184 : decode cX11_init 184 = .ok (.iload_n 1, 1) := by decide +kernel
theorem dX11_init_185 : decode cX11_init 185 = .ok (.bipush 64, 2) := by decide +kernel
theorem dX11_init_187 : decode cX11_init 187 = .ok (.if_icmp .ge 17, 3) := by decide +kernel
theorem dX11_init_190 : decode cX11_init 190 = .ok (.aload_n 0, 1) := by decide +kernel
theorem dX11_init_191 : decode cX11_init 191 = .ok (.getfield 7, 3) := by decide +kernel
theorem dX11_init_194 : decode cX11_init 194 = .ok (.iload_n 1, 1) := by decide +kernel
theorem dX11_init_195 : decode cX11_init 195 = .ok (.bipush 30, 2) := by decide +kernel
theorem dX11_init_197 : decode cX11_init 197 = .ok (.iastore, 1) := by decide +kernel
theorem dX11_init_198 : decode cX11_init 198 = .ok (.iinc 1 1, 3) := by decide +kernel
theorem dX11_init_201 : decode cX11_init 201 = .ok (.goto (-17), 3) := by decide +kernel
theorem dX11_init_204 : decode cX11_init 204 = .ok (.aload_n 0, 1) := by decide +kernel
theorem dX11_init_205 : decode cX11_init 205 = .ok (.getfield 25, 3) := by decide +kernel
theorem dX11_init_208 : decode cX11_init 208 = .ok (.iconst 0, 1) := by decide +kernel
theorem dX11_init_209 : decode cX11_init 209 = .ok (.bipush 20, 2) := by decide +kernel
theorem dX11_init_211 : decode cX11_init 211 = .ok (.iastore, 1) := by decide +kernel
theorem dX11_init_212 : decode cX11_init 212 = .ok (.aload_n 0, 1) := by decide +kernel
theorem dX11_init_213 : decode cX11_init 213 = .ok (.getfield 25, 3) := by decide +kernel
theorem dX11_init_216 : decode cX11_init 216 = .ok (.iconst 1, 1) := by decide +kernel
theorem dX11_init_217 : decode cX11_init 217 = .ok (.bipush 10, 2) := by decide +kernel
theorem dX11_init_219 : decode cX11_init 219 = .ok (.iastore, 1) := by decide +kernel
theorem dX11_init_220 : decode cX11_init 220 = .ok (.return_, 1) := by decide +kernel
theorem dX11_in_0 : decode cX11_in 0 = .ok (.lload_n 0, 1) := by decide +kernel
theorem dX11_in_1 : decode cX11_in 1 = .ok (.lload_n 2, 1) := by decide +kernel
theorem dX11_in_2 : decode cX11_in 2 = .ok (.lcmp, 1) := by decide +kernel
theorem dX11_in_3 : decode cX11_in 3 = .ok (.ifCond .lt 14, 3) := by decide +kernel
theorem dX11_in_6 : decode cX11_in 6 = .ok (.lload_n 0, 1) := by decide +kernel
theorem dX11_in_7 : decode cX11_in 7 = .ok (.lload 4, 2) := by decide +kernel
theorem dX11_in_9 : decode cX11_in 9 = .ok (.lcmp, 1) := by decide +kernel
theorem dX11_in_10 : decode cX11_in 10 = .ok (.ifCond .gt 7, 3) := by decide +kernel
theorem dX11_in_13 : decode cX11_in 13 = .ok (.iconst 1, 1) := by decide +kernel
theorem dX11_in_14 : decode cX11_in 14 = .ok (.goto 4, 3) := by decide +kernel
theorem dX11_in_17 : decode cX11_in 17 = .ok (.iconst 0, 1) := by decide +kernel
theorem dX11_in_18 : decode cX11_in 18 = .ok (.ireturn, 1) := by decide +kernel
set_option maxRecDepth 20000 in
theorem ggX11_isSquare_X11_in : GoodIn wsX11_isSquare wsX11_in := goodIn_r _ [5] (by decide +kernel) (by decide +kernel)
set_option maxRecDepth 20000 in
theorem gX11_isSquare_X11_in : GoodIn wsX11_isSquare (va_wsS RX11 73 yX11_in wsX11_in) := goodIn_app (goodIn_of _ (by decide +kernel)) ggX11_isSquare_X11_in
theorem dX11_isSquare_0 : decode cX11_isSquare 0 = .ok (.lload_n 0, 1) := by decide +kernel
theorem dX11_isSquare_1 : decode cX11_isSquare 1 = .ok (.lconst 0, 1) := by decide +kernel
theorem dX11_isSquare_2 : decode cX11_isSquare 2 = .ok (.ldc2_w 71, 3) := by decide +kernel
theorem dX11_isSquare_5 : decode cX11_isSquare 5 = .ok (.invokestatic 73, 3) := by decide +kernel
theorem dX11_isSquare_8 : decode cX11_isSquare 8 = .ok (.ireturn, 1) := by decide +kernel
theorem dX11_mostOf_0 : decode cX11_mostOf 0 = .ok (.iload_n 0, 1) := by decide +kernel
theorem dX11_mostOf_1 : decode cX11_mostOf 1 = .ok (.ifCond .ne 8, 3) := by decide +kernel
theorem dX11_mostOf_4 : decode cX11_mostOf 4 = .ok (.bipush 99, 2) := by decide +kernel
theorem dX11_mostOf_6 : decode cX11_mostOf 6 = .ok (.goto 32, 3) := by decide +kernel
theorem dX11_mostOf_9 : decode cX11_mostOf 9 = .ok (.iload_n 0, 1) := by decide +kernel
theorem dX11_mostOf_10 : decode cX11_mostOf 10 = .ok (.iconst 1, 1) := by decide +kernel
theorem dX11_mostOf_11 : decode cX11_mostOf 11 = .ok (.if_icmp .ne 7, 3) := by decide +kernel
theorem dX11_mostOf_14 : decode cX11_mostOf 14 = .ok (.iconst 4, 1) := by decide +kernel
theorem dX11_mostOf_15 : decode cX11_mostOf 15 = .ok (.goto 23, 3) := by decide +kernel
theorem dX11_mostOf_18 : decode cX11_mostOf 18 = .ok (.iload_n 0, 1) := by decide +kernel
theorem dX11_mostOf_19 : decode cX11_mostOf 19 = .ok (.iconst 2, 1) := by decide +kernel
theorem dX11_mostOf_20 : decode cX11_mostOf 20 = .ok (.if_icmp .ne 8, 3) := by decide +kernel
theorem dX11_mostOf_23 : decode cX11_mostOf 23 = .ok (.bipush 9, 2) := by decide +kernel
theorem dX11_mostOf_25 : decode cX11_mostOf 25 = .ok (.goto 13, 3) := by decide +kernel
theorem dX11_mostOf_28 : decode cX11_mostOf 28 = .ok (.iload_n 0, 1) := by decide +kernel
theorem dX11_mostOf_29 : decode cX11_mostOf 29 = .ok (.iconst 3, 1) := by decide +kernel
theorem dX11_mostOf_30 : decode cX11_mostOf 30 = .ok (.if_icmp .ne 7, 3) := by decide +kernel
theorem dX11_mostOf_33 : decode cX11_mostOf 33 = .ok (.iconst 1, 1) := by decide +kernel
theorem dX11_mostOf_34 : decode cX11_mostOf 34 = .ok (.goto 4, 3) := by decide +kernel
theorem dX11_mostOf_37 : decode cX11_mostOf 37 = .ok (.iconst 3, 1) := by decide +kernel
theorem dX11_mostOf_38 : decode cX11_mostOf 38 = .ok (.ireturn, 1) := by decide +kernel
set_option maxRecDepth 20000 in
theorem ggX11_make_X11_isSquare : GoodIn wsX11_make wsX11_isSquare := goodIn_r _ [6, 7, 8, 9, 5, 10] (by decide +kernel) (by decide +kernel)
set_option maxRecDepth 20000 in
theorem gX11_make_X11_isSquare : GoodIn wsX11_make (va_wsS RX11 77 yX11_isSquare wsX11_isSquare) := goodIn_app (goodIn_of _ (by decide +kernel)) ggX11_make_X11_isSquare
set_option maxRecDepth 20000 in
theorem ggX11_make_X11_in : GoodIn wsX11_make wsX11_in := goodIn_r _ [10] (by decide +kernel) (by decide +kernel)
set_option maxRecDepth 20000 in
theorem gX11_make_X11_in : GoodIn wsX11_make (va_wsS RX11 73 yX11_in wsX11_in) := goodIn_app (goodIn_of _ (by decide +kernel)) ggX11_make_X11_in
set_option maxRecDepth 20000 in
theorem ggX11_make_X11_mostOf : GoodIn wsX11_make wsX11_mostOf := goodIn_r _ [13] (by decide +kernel) (by decide +kernel)
set_option maxRecDepth 20000 in
theorem gX11_make_X11_mostOf : GoodIn wsX11_make (va_wsS RX11 83 yX11_mostOf wsX11_mostOf) := goodIn_app (goodIn_of _ (by decide +kernel)) ggX11_make_X11_mostOf
theorem dX11_make_0 : decode cX11_make 0 = .ok (.iload_n 1, 1) := by decide +kernel
theorem dX11_make_1 : decode cX11_make 1 = .ok (.i2l, 1) := by decide +kernel
theorem dX11_make_2 : decode cX11_make 2 = .ok (.invokestatic 77, 3) := by decide +kernel
theorem dX11_make_5 : decode cX11_make 5 = .ok (.ifCond .eq 29, 3) := by decide +kernel
theorem dX11_make_8 : decode cX11_make 8 = .ok (.iload_n 2, 1) := by decide +kernel
theorem dX11_make_9 : decode cX11_make 9 = .ok (.i2l, 1) := by decide +kernel
theorem dX11_make_10 : decode cX11_make 10 = .ok (.lconst 0, 1) := by decide +kernel
theorem dX11_make_11 : decode cX11_make 11 = .ok (.ldc2_w 81, 3) := by decide +kernel
theorem dX11_make_14 : decode cX11_make 14 = .ok (.invokestatic 73, 3) := by decide +kernel
theorem dX11_make_17 : decode cX11_make 17 = .ok (.ifCond .eq 17, 3) := by decide +kernel
theorem dX11_make_20 : decode cX11_make 20 = .ok (.iload_n 3, 1) := by decide +kernel
theorem dX11_make_21 : decode cX11_make 21 = .ok (.i2l, 1) := by decide +kernel
theorem dX11_make_22 : decode cX11_make 22 = .ok (.lconst 0, 1) := by decide +kernel
theorem dX11_make_23 : decode cX11_make 23 = .ok (.iload_n 2, 1) := by decide +kernel
theorem dX11_make_24 : decode cX11_make 24 = .ok (.invokestatic 83, 3) := by decide +kernel
theorem dX11_make_27 : decode cX11_make 27 = .ok (.i2l, 1) := by decide +kernel
theorem dX11_make_28 : decode cX11_make 28 = .ok (.invokestatic 73, 3) := by decide +kernel
theorem dX11_make_31 : decode cX11_make 31 = .ok (.ifCond .ne 5, 3) := by decide +kernel
theorem dX11_make_34 : decode cX11_make 34 = .ok (.iconst (-1), 1) := by decide +kernel
theorem dX11_make_35 : decode cX11_make 35 = .ok (.ireturn, 1) := by decide +kernel
theorem dX11_make_36 : decode cX11_make 36 = .ok (.aload_n 0, 1) := by decide +kernel
theorem dX11_make_37 : decode cX11_make 37 = .ok (.getfield 7, 3) := by decide +kernel
theorem dX11_make_40 : decode cX11_make 40 = .ok (.bipush 64, 2) := by decide +kernel
theorem dX11_make_42 : decode cX11_make 42 = .ok (.iload_n 2, 1) := by decide +kernel
theorem dX11_make_43 : decode cX11_make 43 = .ok (.imul, 1) := by decide +kernel
theorem dX11_make_44 : decode cX11_make 44 = .ok (.iload_n 1, 1) := by decide +kernel
theorem dX11_make_45 : decode cX11_make 45 = .ok (.iadd, 1) := by decide +kernel
theorem dX11_make_46 : decode cX11_make 46 = .ok (.iaload, 1) := by decide +kernel
theorem dX11_make_47 : decode cX11_make 47 = .ok (.istore 4, 2) := by decide +kernel
theorem dX11_make_49 : decode cX11_make 49 = .ok (.aload_n 0, 1) := by decide +kernel
theorem dX11_make_50 : decode cX11_make 50 = .ok (.getfield 7, 3) := by decide +kernel
theorem dX11_make_53 : decode cX11_make 53 = .ok (.bipush 64, 2) := by decide +kernel
theorem dX11_make_55 : decode cX11_make 55 = .ok (.iload_n 2, 1) := by decide +kernel
theorem dX11_make_56 : decode cX11_make 56 = .ok (.imul, 1) := by decide +kernel
theorem dX11_make_57 : decode cX11_make 57 = .ok (.iload_n 1, 1) := by decide +kernel
theorem dX11_make_58 : decode cX11_make 58 = .ok (.iadd, 1) := by decide +kernel
theorem dX11_make_59 : decode cX11_make 59 = .ok (.iload_n 3, 1) := by decide +kernel
theorem dX11_make_60 : decode cX11_make 60 = .ok (.iastore, 1) := by decide +kernel
theorem dX11_make_61 : decode cX11_make 61 = .ok (.iload 4, 2) := by decide +kernel
theorem dX11_make_63 : decode cX11_make 63 = .ok (.ireturn, 1) := by decide +kernel
theorem dX11_partOf_0 : decode cX11_partOf 0 = .ok (.iload_n 0, 1) := by decide +kernel
theorem dX11_partOf_1 : decode cX11_partOf 1 = .ok (.ifCond .ne 8, 3) := by decide +kernel
theorem dX11_partOf_4 : decode cX11_partOf 4 = .ok (.bipush 8, 2) := by decide +kernel
theorem dX11_partOf_6 : decode cX11_partOf 6 = .ok (.goto 32, 3) := by decide +kernel
theorem dX11_partOf_9 : decode cX11_partOf 9 = .ok (.iload_n 0, 1) := by decide +kernel
theorem dX11_partOf_10 : decode cX11_partOf 10 = .ok (.iconst 1, 1) := by decide +kernel
theorem dX11_partOf_11 : decode cX11_partOf 11 = .ok (.if_icmp .ne 7, 3) := by decide +kernel
theorem dX11_partOf_14 : decode cX11_partOf 14 = .ok (.iconst 5, 1) := by decide +kernel
theorem dX11_partOf_15 : decode cX11_partOf 15 = .ok (.goto 23, 3) := by decide +kernel
theorem dX11_partOf_18 : decode cX11_partOf 18 = .ok (.iload_n 0, 1) := by decide +kernel
theorem dX11_partOf_19 : decode cX11_partOf 19 = .ok (.iconst 2, 1) := by decide +kernel
theorem dX11_partOf_20 : decode cX11_partOf 20 = .ok (.if_icmp .ne 7, 3) := by decide +kernel
theorem dX11_partOf_23 : decode cX11_partOf 23 = .ok (.iconst 3, 1) := by decide +kernel
theorem dX11_partOf_24 : decode cX11_partOf 24 = .ok (.goto 14, 3) := by decide +kernel
theorem dX11_partOf_27 : decode cX11_partOf 27 = .ok (.iload_n 0, 1) := by decide +kernel
theorem dX11_partOf_28 : decode cX11_partOf 28 = .ok (.iconst 3, 1) := by decide +kernel
theorem dX11_partOf_29 : decode cX11_partOf 29 = .ok (.if_icmp .ne 7, 3) := by decide +kernel
theorem dX11_partOf_32 : decode cX11_partOf 32 = .ok (.iconst 2, 1) := by decide +kernel
theorem dX11_partOf_33 : decode cX11_partOf 33 = .ok (.goto 5, 3) := by decide +kernel
theorem dX11_partOf_36 : decode cX11_partOf 36 = .ok (.bipush 7, 2) := by decide +kernel
theorem dX11_partOf_38 : decode cX11_partOf 38 = .ok (.ireturn, 1) := by decide +kernel
set_option maxRecDepth 20000 in
theorem ggX11_bearsBy_X11_partOf : GoodIn wsX11_bearsBy wsX11_partOf := goodIn_r _ [4] (by decide +kernel) (by decide +kernel)
set_option maxRecDepth 20000 in
theorem gX11_bearsBy_X11_partOf : GoodIn wsX11_bearsBy (va_wsS RX11 87 yX11_partOf wsX11_partOf) := goodIn_app (goodIn_of _ (by decide +kernel)) ggX11_bearsBy_X11_partOf
theorem dX11_bearsBy_0 : decode cX11_bearsBy 0 = .ok (.iload_n 0, 1) := by decide +kernel
theorem dX11_bearsBy_1 : decode cX11_bearsBy 1 = .ok (.iload_n 0, 1) := by decide +kernel
theorem dX11_bearsBy_2 : decode cX11_bearsBy 2 = .ok (.imul, 1) := by decide +kernel
theorem dX11_bearsBy_3 : decode cX11_bearsBy 3 = .ok (.iload_n 1, 1) := by decide +kernel
theorem dX11_bearsBy_4 : decode cX11_bearsBy 4 = .ok (.invokestatic 87, 3) := by decide +kernel
theorem dX11_bearsBy_7 : decode cX11_bearsBy 7 = .ok (.imul, 1) := by decide +kernel
theorem dX11_bearsBy_8 : decode cX11_bearsBy 8 = .ok (.bipush 80, 2) := by decide +kernel
theorem dX11_bearsBy_10 : decode cX11_bearsBy 10 = .ok (.idiv, 1) := by decide +kernel
theorem dX11_bearsBy_11 : decode cX11_bearsBy 11 = .ok (.ireturn, 1) := by decide +kernel
set_option maxRecDepth 20000 in
theorem ggX11_bears_X11_bearsBy : GoodIn wsX11_bears wsX11_bearsBy := goodIn_r _ [5, 6, 7, 4, 8] (by decide +kernel) (by decide +kernel)
set_option maxRecDepth 20000 in
theorem gX11_bears_X11_bearsBy : GoodIn wsX11_bears (va_wsS RX11 90 yX11_bearsBy wsX11_bearsBy) := goodIn_app (goodIn_of _ (by decide +kernel)) ggX11_bears_X11_bearsBy
theorem dX11_bears_0 : decode cX11_bears 0 = .ok (.aload_n 0, 1) := by decide +kernel
theorem dX11_bears_1 : decode cX11_bears 1 = .ok (.getfield 7, 3) := by decide +kernel
theorem dX11_bears_4 : decode cX11_bears 4 = .ok (.iload_n 1, 1) := by decide +kernel
theorem dX11_bears_5 : decode cX11_bears 5 = .ok (.iaload, 1) := by decide +kernel
theorem dX11_bears_6 : decode cX11_bears 6 = .ok (.aload_n 0, 1) := by decide +kernel
theorem dX11_bears_7 : decode cX11_bears 7 = .ok (.getfield 7, 3) := by decide +kernel
theorem dX11_bears_10 : decode cX11_bears 10 = .ok (.bipush 64, 2) := by decide +kernel
theorem dX11_bears_12 : decode cX11_bears 12 = .ok (.iload_n 1, 1) := by decide +kernel
theorem dX11_bears_13 : decode cX11_bears 13 = .ok (.iadd, 1) := by decide +kernel
theorem dX11_bears_14 : decode cX11_bears 14 = .ok (.iaload, 1) := by decide +kernel
theorem dX11_bears_15 : decode cX11_bears 15 = .ok (.invokestatic 90, 3) := by decide +kernel
theorem dX11_bears_18 : decode cX11_bears 18 = .ok (.bipush 60, 2) := by decide +kernel
theorem dX11_bears_20 : decode cX11_bears 20 = .ok (.aload_n 0, 1) := by decide +kernel
theorem dX11_bears_21 : decode cX11_bears 21 = .ok (.getfield 7, 3) := by decide +kernel
theorem dX11_bears_24 : decode cX11_bears 24 = .ok (.sipush 256, 3) := by decide +kernel
theorem dX11_bears_27 : decode cX11_bears 27 = .ok (.iload_n 1, 1) := by decide +kernel
theorem dX11_bears_28 : decode cX11_bears 28 = .ok (.iadd, 1) := by decide +kernel
theorem dX11_bears_29 : decode cX11_bears 29 = .ok (.iaload, 1) := by decide +kernel
theorem dX11_bears_30 : decode cX11_bears 30 = .ok (.imul, 1) := by decide +kernel
theorem dX11_bears_31 : decode cX11_bears 31 = .ok (.iadd, 1) := by decide +kernel
theorem dX11_bears_32 : decode cX11_bears 32 = .ok (.ireturn, 1) := by decide +kernel
theorem dX11_pitchOf_0 : decode cX11_pitchOf 0 = .ok (.sipush 9000, 3) := by decide +kernel
theorem dX11_pitchOf_3 : decode cX11_pitchOf 3 = .ok (.iload_n 0, 1) := by decide +kernel
theorem dX11_pitchOf_4 : decode cX11_pitchOf 4 = .ok (.idiv, 1) := by decide +kernel
theorem dX11_pitchOf_5 : decode cX11_pitchOf 5 = .ok (.bipush 7, 2) := by decide +kernel
theorem dX11_pitchOf_7 : decode cX11_pitchOf 7 = .ok (.iload_n 1, 1) := by decide +kernel
theorem dX11_pitchOf_8 : decode cX11_pitchOf 8 = .ok (.imul, 1) := by decide +kernel
theorem dX11_pitchOf_9 : decode cX11_pitchOf 9 = .ok (.iadd, 1) := by decide +kernel
theorem dX11_pitchOf_10 : decode cX11_pitchOf 10 = .ok (.ireturn, 1) := by decide +kernel
set_option maxRecDepth 20000 in
theorem ggX11_told_X11_isSquare : GoodIn wsX11_told wsX11_isSquare := goodIn_r _ [6, 7, 8, 9, 5, 10] (by decide +kernel) (by decide +kernel)
set_option maxRecDepth 20000 in
theorem gX11_told_X11_isSquare : GoodIn wsX11_told (va_wsS RX11 77 yX11_isSquare wsX11_isSquare) := goodIn_app (goodIn_of _ (by decide +kernel)) ggX11_told_X11_isSquare
set_option maxRecDepth 20000 in
theorem ggX11_told_X11_in : GoodIn wsX11_told wsX11_in := goodIn_r _ [10] (by decide +kernel) (by decide +kernel)
set_option maxRecDepth 20000 in
theorem gX11_told_X11_in : GoodIn wsX11_told (va_wsS RX11 73 yX11_in wsX11_in) := goodIn_app (goodIn_of _ (by decide +kernel)) ggX11_told_X11_in
set_option maxRecDepth 20000 in
theorem ggX11_told_X11_bears : GoodIn wsX11_told wsX11_bears := goodIn_r _ [14, 2, 15, 16, 5, 17, 18, 19, 20, 24, 25, 26, 27, 28, 29, 30, 31, 32, 33, 34, 35, 36, 37, 38, 39, 40, 41, 42, 43, 44, 45, 46, 47, 48, 49, 50, 51] (by decide +kernel) (by decide +kernel)
set_option maxRecDepth 20000 in
theorem gX11_told_X11_bears : GoodIn wsX11_told (wsV RX11 96 RX11 yX11_bears wsX11_bears) := goodIn_app (goodIn_of _ (by decide +kernel)) ggX11_told_X11_bears
set_option maxRecDepth 20000 in
theorem ggX11_told_X11_pitchOf : GoodIn wsX11_told wsX11_pitchOf := goodIn_r _ [23] (by decide +kernel) (by decide +kernel)
set_option maxRecDepth 20000 in
theorem gX11_told_X11_pitchOf : GoodIn wsX11_told (va_wsS RX11 99 yX11_pitchOf wsX11_pitchOf) := goodIn_app (goodIn_of _ (by decide +kernel)) ggX11_told_X11_pitchOf
theorem dX11_told_0 : decode cX11_told 0 = .ok (.iload_n 1, 1) := by decide +kernel
theorem dX11_told_1 : decode cX11_told 1 = .ok (.i2l, 1) := by decide +kernel
theorem dX11_told_2 : decode cX11_told 2 = .ok (.invokestatic 77, 3) := by decide +kernel
theorem dX11_told_5 : decode cX11_told 5 = .ok (.ifCond .eq 15, 3) := by decide +kernel
theorem dX11_told_8 : decode cX11_told 8 = .ok (.iload_n 2, 1) := by decide +kernel
theorem dX11_told_9 : decode cX11_told 9 = .ok (.i2l, 1) := by decide +kernel
theorem dX11_told_10 : decode cX11_told 10 = .ok (.lconst 0, 1) := by decide +kernel
theorem dX11_told_11 : decode cX11_told 11 = .ok (.ldc2_w 94, 3) := by decide +kernel
theorem dX11_told_14 : decode cX11_told 14 = .ok (.invokestatic 73, 3) := by decide +kernel
theorem dX11_told_17 : decode cX11_told 17 = .ok (.ifCond .ne 5, 3) := by decide +kernel
theorem dX11_told_20 : decode cX11_told 20 = .ok (.iconst (-1), 1) := by decide +kernel
theorem dX11_told_21 : decode cX11_told 21 = .ok (.ireturn, 1) := by decide +kernel
theorem dX11_told_22 : decode cX11_told 22 = .ok (.iload_n 2, 1) := by decide +kernel
theorem dX11_told_23 : decode cX11_told 23 = .ok (.iconst 5, 1) := by decide +kernel
theorem dX11_told_24 : decode cX11_told 24 = .ok (.if_icmp .ge 17, 3) := by decide +kernel
theorem dX11_told_27 : decode cX11_told 27 = .ok (.aload_n 0, 1) := by decide +kernel
theorem dX11_told_28 : decode cX11_told 28 = .ok (.getfield 7, 3) := by decide +kernel
theorem dX11_told_31 : decode cX11_told 31 = .ok (.bipush 64, 2) := by decide +kernel
theorem dX11_told_33 : decode cX11_told 33 = .ok (.iload_n 2, 1) := by decide +kernel
theorem dX11_told_34 : decode cX11_told 34 = .ok (.imul, 1) := by decide +kernel
theorem dX11_told_35 : decode cX11_told 35 = .ok (.iload_n 1, 1) := by decide +kernel
theorem dX11_told_36 : decode cX11_told 36 = .ok (.iadd, 1) := by decide +kernel
theorem dX11_told_37 : decode cX11_told 37 = .ok (.iaload, 1) := by decide +kernel
theorem dX11_told_38 : decode cX11_told 38 = .ok (.goto 48, 3) := by decide +kernel
theorem dX11_told_41 : decode cX11_told 41 = .ok (.iload_n 2, 1) := by decide +kernel
theorem dX11_told_42 : decode cX11_told 42 = .ok (.iconst 5, 1) := by decide +kernel
theorem dX11_told_43 : decode cX11_told 43 = .ok (.if_icmp .ne 11, 3) := by decide +kernel
theorem dX11_told_46 : decode cX11_told 46 = .ok (.aload_n 0, 1) := by decide +kernel
theorem dX11_told_47 : decode cX11_told 47 = .ok (.iload_n 1, 1) := by decide +kernel
theorem dX11_told_48 : decode cX11_told 48 = .ok (.invokevirtual 96, 3) := by decide +kernel
theorem dX11_told_51 : decode cX11_told 51 = .ok (.goto 35, 3) := by decide +kernel
theorem dX11_told_54 : decode cX11_told 54 = .ok (.aload_n 0, 1) := by decide +kernel
theorem dX11_told_55 : decode cX11_told 55 = .ok (.getfield 7, 3) := by decide +kernel
theorem dX11_told_58 : decode cX11_told 58 = .ok (.iload_n 1, 1) := by decide +kernel
theorem dX11_told_59 : decode cX11_told 59 = .ok (.iaload, 1) := by decide +kernel
theorem dX11_told_60 : decode cX11_told 60 = .ok (.ifCond .ne 8, 3) := by decide +kernel
theorem dX11_told_63 : decode cX11_told 63 = .ok (.bipush (-4), 2) := by decide +kernel
theorem dX11_told_65 : decode cX11_told 65 = .ok (.goto 21, 3) := by decide +kernel
theorem dX11_told_68 : decode cX11_told 68 = .ok (.aload_n 0, 1) := by decide +kernel
theorem dX11_told_69 : decode cX11_told 69 = .ok (.getfield 7, 3) := by decide +kernel
theorem dX11_told_72 : decode cX11_told 72 = .ok (.iload_n 1, 1) := by decide +kernel
theorem dX11_told_73 : decode cX11_told 73 = .ok (.iaload, 1) := by decide +kernel
theorem dX11_told_74 : decode cX11_told 74 = .ok (.aload_n 0, 1) := by decide +kernel
theorem dX11_told_75 : decode cX11_told 75 = .ok (.getfield 7, 3) := by decide +kernel
theorem dX11_told_78 : decode cX11_told 78 = .ok (.bipush 64, 2) := by decide +kernel
theorem dX11_told_80 : decode cX11_told 80 = .ok (.iload_n 1, 1) := by decide +kernel
theorem dX11_told_81 : decode cX11_told 81 = .ok (.iadd, 1) := by decide +kernel
theorem dX11_told_82 : decode cX11_told 82 = .ok (.iaload, 1) := by decide +kernel
theorem dX11_told_83 : decode cX11_told 83 = .ok (.invokestatic 99, 3) := by decide +kernel
theorem dX11_told_86 : decode cX11_told 86 = .ok (.ireturn, 1) := by decide +kernel
theorem dX11_freeze_0 : decode cX11_freeze 0 = .ok (.aload_n 0, 1) := by decide +kernel
theorem dX11_freeze_1 : decode cX11_freeze 1 = .ok (.getfield 7, 3) := by decide +kernel
theorem dX11_freeze_4 : decode cX11_freeze 4 = .ok (.iload_n 1, 1) := by decide +kernel
theorem dX11_freeze_5 : decode cX11_freeze 5 = .ok (.iaload, 1) := by decide +kernel
theorem dX11_freeze_6 : decode cX11_freeze 6 = .ok (.istore_n 3, 1) := by decide +kernel
theorem dX11_freeze_7 : decode cX11_freeze 7 = .ok (.iload_n 3, 1) := by decide +kernel
theorem dX11_freeze_8 : decode cX11_freeze 8 = .ok (.iload_n 2, 1) := by decide +kernel
theorem dX11_freeze_9 : decode cX11_freeze 9 = .ok (.bipush 10, 2) := by decide +kernel
theorem dX11_freeze_11 : decode cX11_freeze 11 = .ok (.aload_n 0, 1) := by decide +kernel
theorem dX11_freeze_12 : decode cX11_freeze 12 = .ok (.getfield 7, 3) := by decide +kernel
theorem dX11_freeze_15 : decode cX11_freeze 15 = .ok (.sipush 128, 3) := by decide +kernel
theorem dX11_freeze_18 : decode cX11_freeze 18 = .ok (.iload_n 1, 1) := by decide +kernel
theorem dX11_freeze_19 : decode cX11_freeze 19 = .ok (.iadd, 1) := by decide +kernel
theorem dX11_freeze_20 : decode cX11_freeze 20 = .ok (.iaload, 1) := by decide +kernel
theorem dX11_freeze_21 : decode cX11_freeze 21 = .ok (.isub, 1) := by decide +kernel
theorem dX11_freeze_22 : decode cX11_freeze 22 = .ok (.imul, 1) := by decide +kernel
theorem dX11_freeze_23 : decode cX11_freeze 23 = .ok (.bipush 10, 2) := by decide +kernel
theorem dX11_freeze_25 : decode cX11_freeze 25 = .ok (.idiv, 1) := by decide +kernel
theorem dX11_freeze_26 : decode cX11_freeze 26 = .ok (.iadd, 1) := by decide +kernel
theorem dX11_freeze_27 : decode cX11_freeze 27 = .ok (.iconst 3, 1) := by decide +kernel
theorem dX11_freeze_28 : decode cX11_freeze 28 = .ok (.aload_n 0, 1) := by decide +kernel
theorem dX11_freeze_29 : decode cX11_freeze 29 = .ok (.getfield 7, 3) := by decide +kernel
theorem dX11_freeze_32 : decode cX11_freeze 32 = .ok (.sipush 192, 3) := by decide +kernel
theorem dX11_freeze_35 : decode cX11_freeze 35 = .ok (.iload_n 1, 1) := by decide +kernel
theorem dX11_freeze_36 : decode cX11_freeze 36 = .ok (.iadd, 1) := by decide +kernel
theorem dX11_freeze_37 : decode cX11_freeze 37 = .ok (.iaload, 1) := by decide +kernel
theorem dX11_freeze_38 : decode cX11_freeze 38 = .ok (.imul, 1) := by decide +kernel
theorem dX11_freeze_39 : decode cX11_freeze 39 = .ok (.isub, 1) := by decide +kernel
theorem dX11_freeze_40 : decode cX11_freeze 40 = .ok (.istore 4, 2) := by decide +kernel
theorem dX11_freeze_42 : decode cX11_freeze 42 = .ok (.aload_n 0, 1) := by decide +kernel
theorem dX11_freeze_43 : decode cX11_freeze 43 = .ok (.getfield 7, 3) := by decide +kernel
theorem dX11_freeze_46 : decode cX11_freeze 46 = .ok (.iload_n 1, 1) := by decide +kernel
theorem dX11_freeze_47 : decode cX11_freeze 47 = .ok (.iload 4, 2) := by decide +kernel
theorem dX11_freeze_49 : decode cX11_freeze 49 = .ok (.ifCond .ge 7, 3) := by decide +kernel
theorem dX11_freeze_52 : decode cX11_freeze 52 = .ok (.iconst 0, 1) := by decide +kernel
theorem dX11_freeze_53 : decode cX11_freeze 53 = .ok (.goto 17, 3) := by decide +kernel
theorem dX11_freeze_56 : decode cX11_freeze 56 = .ok (.iload 4, 2) := by decide +kernel
theorem dX11_freeze_58 : decode cX11_freeze 58 = .ok (.bipush 99, 2) := by decide +kernel
theorem dX11_freeze_60 : decode cX11_freeze 60 = .ok (.if_icmp .le 8, 3) := by decide +kernel
theorem dX11_freeze_63 : decode cX11_freeze 63 = .ok (.bipush 99, 2) := by decide +kernel
theorem dX11_freeze_65 : decode cX11_freeze 65 = .ok (.goto 5, 3) := by decide +kernel
theorem dX11_freeze_68 : decode cX11_freeze 68 = .ok (.iload 4, 2) := by decide +kernel
theorem dX11_freeze_70 : decode cX11_freeze 70 = .ok (.iastore, 1) := by decide +kernel
theorem dX11_freeze_71 : decode cX11_freeze 71 = .ok (.aload_n 0, 1) := by decide +kernel
theorem dX11_freeze_72 : decode cX11_freeze 72 = .ok (.getfield 7, 3) := by decide +kernel
theorem dX11_freeze_75 : decode cX11_freeze 75 = .ok (.bipush 64, 2) := by decide +kernel
theorem dX11_freeze_77 : decode cX11_freeze 77 = .ok (.iload_n 1, 1) := by decide +kernel
theorem dX11_freeze_78 : decode cX11_freeze 78 = .ok (.iadd, 1) := by decide +kernel
theorem dX11_freeze_79 : decode cX11_freeze 79 = .ok (.iload_n 3, 1) := by decide +kernel
theorem dX11_freeze_80 : decode cX11_freeze 80 = .ok (.ifCond .ne 16, 3) := by decide +kernel
theorem dX11_freeze_83 : decode cX11_freeze 83 = .ok (.aload_n 0, 1) := by decide +kernel
theorem dX11_freeze_84 : decode cX11_freeze 84 = .ok (.getfield 7, 3) := by decide +kernel
theorem dX11_freeze_87 : decode cX11_freeze 87 = .ok (.iload_n 1, 1) := by decide +kernel
theorem dX11_freeze_88 : decode cX11_freeze 88 = .ok (.iaload, 1) := by decide +kernel
theorem dX11_freeze_89 : decode cX11_freeze 89 = .ok (.ifCond .le 7, 3) := by decide +kernel
theorem dX11_freeze_92 : decode cX11_freeze 92 = .ok (.iconst 0, 1) := by decide +kernel
theorem dX11_freeze_93 : decode cX11_freeze 93 = .ok (.goto 12, 3) := by decide +kernel
theorem dX11_freeze_96 : decode cX11_freeze 96 = .ok (.aload_n 0, 1) := by decide +kernel
theorem dX11_freeze_97 : decode cX11_freeze 97 = .ok (.getfield 7, 3) := by decide +kernel
theorem dX11_freeze_100 : decode cX11_freeze 100 = .ok (.bipush 64, 2) := by decide +kernel
theorem dX11_freeze_102 : decode cX11_freeze 102 = .ok (.iload_n 1, 1) := by decide +kernel
theorem dX11_freeze_103 : decode cX11_freeze 103 = .ok (.iadd, 1) := by decide +kernel
theorem dX11_freeze_104 : decode cX11_freeze 104 = .ok (.iaload, 1) := by decide +kernel
theorem dX11_freeze_105 : decode cX11_freeze 105 = .ok (.iastore, 1) := by decide +kernel
theorem dX11_freeze_106 : decode cX11_freeze 106 = .ok (.return_, 1) := by decide +kernel
set_option maxRecDepth 20000 in
theorem ggX11_days_X11_in : GoodIn wsX11_days wsX11_in := goodIn_r _ [7] (by decide +kernel) (by decide +kernel)
set_option maxRecDepth 20000 in
theorem gX11_days_X11_in : GoodIn wsX11_days (va_wsS RX11 73 yX11_in wsX11_in) := goodIn_app (goodIn_of _ (by decide +kernel)) ggX11_days_X11_in
set_option maxRecDepth 20000 in
theorem ggX11_days_X11_freeze : GoodIn wsX11_days wsX11_freeze := goodIn_r _ [11, 3, 12, 13, 14, 15, 16, 17, 18, 19, 20, 21, 22, 23, 24, 25, 26, 27, 28, 29, 30, 31, 32, 33, 34, 35, 36, 37, 38, 39] (by decide +kernel) (by decide +kernel)
set_option maxRecDepth 20000 in
theorem gX11_days_X11_freeze : GoodIn wsX11_days (wsV RX11 106 RX11 yX11_freeze wsX11_freeze) := goodIn_app (goodIn_of _ (by decide +kernel)) ggX11_days_X11_freeze
theorem dX11_days_0 : decode cX11_days 0 = .ok (.iload_n 1, 1) := by decide +kernel
theorem dX11_days_1 : decode cX11_days 1 = .ok (.i2l, 1) := by decide +kernel
theorem dX11_days_2 : decode cX11_days 2 = .ok (.lconst 0, 1) := by decide +kernel
theorem dX11_days_3 : decode cX11_days 3 = .ok (.ldc2_w 102, 3) := by decide +kernel
theorem dX11_days_6 : decode cX11_days 6 = .ok (.invokestatic 73, 3) := by decide +kernel
theorem dX11_days_9 : decode cX11_days 9 = .ok (.ifCond .eq 15, 3) := by decide +kernel
theorem dX11_days_12 : decode cX11_days 12 = .ok (.iload_n 2, 1) := by decide +kernel
theorem dX11_days_13 : decode cX11_days 13 = .ok (.i2l, 1) := by decide +kernel
theorem dX11_days_14 : decode cX11_days 14 = .ok (.lconst 1, 1) := by decide +kernel
theorem dX11_days_15 : decode cX11_days 15 = .ok (.ldc2_w 104, 3) := by decide +kernel
theorem dX11_days_18 : decode cX11_days 18 = .ok (.invokestatic 73, 3) := by decide +kernel
theorem dX11_days_21 : decode cX11_days 21 = .ok (.ifCond .ne 5, 3) := by decide +kernel
theorem dX11_days_24 : decode cX11_days 24 = .ok (.iconst (-1), 1) := by decide +kernel
theorem dX11_days_25 : decode cX11_days 25 = .ok (.ireturn, 1) := by decide +kernel
theorem dX11_days_26 : decode cX11_days 26 = .ok (.iconst 0, 1) := by decide +kernel
theorem dX11_days_27 : decode cX11_days 27 = .ok (.istore_n 3, 1) := by decide +kernel
theorem dX11_days_28 : decode cX11_days 28 = .ok (.iconst 0, 1) := by decide +kernel
theorem dX11_days_29 : decode cX11_days 29 = .ok (.istore 4, 2) := by decide +kernel
theorem dX11_days_31 : decode cX11_days 31 = .ok (.iload 4, 2) := by decide +kernel
theorem dX11_days_33 : decode cX11_days 33 = .ok (.bipush 64, 2) := by decide +kernel
theorem dX11_days_35 : decode cX11_days 35 = .ok (.if_icmp .ge 41, 3) := by decide +kernel
theorem dX11_days_38 : decode cX11_days 38 = .ok (.iconst 0, 1) := by decide +kernel
theorem dX11_days_39 : decode cX11_days 39 = .ok (.istore 5, 2) := by decide +kernel
theorem dX11_days_41 : decode cX11_days 41 = .ok (.iload 5, 2) := by decide +kernel
theorem dX11_days_43 : decode cX11_days 43 = .ok (.iload_n 2, 1) := by decide +kernel
theorem dX11_days_44 : decode cX11_days 44 = .ok (.if_icmp .ge 16, 3) := by decide +kernel
theorem dX11_days_47 : decode cX11_days 47 = .ok (.aload_n 0, 1) := by decide +kernel
theorem dX11_days_48 : decode cX11_days 48 = .ok (.iload 4, 2) := by decide +kernel
theorem dX11_days_50 : decode cX11_days 50 = .ok (.iload_n 1, 1) := by decide +kernel
theorem dX11_days_51 : decode cX11_days 51 = .ok (.invokevirtual 106, 3) := by decide +kernel
theorem dX11_days_54 : decode cX11_days 54 = .ok (.iinc 5 1, 3) := by decide +kernel
theorem dX11_days_57 : decode cX11_days 57 = .ok (.goto (-16), 3) := by decide +kernel
theorem dX11_days_60 : decode cX11_days 60 = .ok (.iload_n 3, 1) := by decide +kernel
theorem dX11_days_61 : decode cX11_days 61 = .ok (.aload_n 0, 1) := by decide +kernel
theorem dX11_days_62 : decode cX11_days 62 = .ok (.getfield 7, 3) := by decide +kernel
theorem dX11_days_65 : decode cX11_days 65 = .ok (.iload 4, 2) := by decide +kernel
theorem dX11_days_67 : decode cX11_days 67 = .ok (.iaload, 1) := by decide +kernel
theorem dX11_days_68 : decode cX11_days 68 = .ok (.iadd, 1) := by decide +kernel
theorem dX11_days_69 : decode cX11_days 69 = .ok (.istore_n 3, 1) := by decide +kernel
theorem dX11_days_70 : decode cX11_days 70 = .ok (.iinc 4 1, 3) := by decide +kernel
theorem dX11_days_73 : decode cX11_days 73 = .ok (.goto (-42), 3) := by decide +kernel
theorem dX11_days_76 : decode cX11_days 76 = .ok (.iload_n 3, 1) := by decide +kernel
theorem dX11_days_77 : decode cX11_days 77 = .ok (.ireturn, 1) := by decide +kernel
set_option maxRecDepth 20000 in
theorem ggX11_set_X11_in : GoodIn wsX11_set wsX11_in := goodIn_r _ [6] (by decide +kernel) (by decide +kernel)
set_option maxRecDepth 20000 in
theorem gX11_set_X11_in : GoodIn wsX11_set (va_wsS RX11 73 yX11_in wsX11_in) := goodIn_app (goodIn_of _ (by decide +kernel)) ggX11_set_X11_in
theorem dX11_set_0 : decode cX11_set 0 = .ok (.iload_n 1, 1) := by decide +kernel
theorem dX11_set_1 : decode cX11_set 1 = .ok (.i2l, 1) := by decide +kernel
theorem dX11_set_2 : decode cX11_set 2 = .ok (.lconst 0, 1) := by decide +kernel
theorem dX11_set_3 : decode cX11_set 3 = .ok (.lconst 1, 1) := by decide +kernel
theorem dX11_set_4 : decode cX11_set 4 = .ok (.invokestatic 73, 3) := by decide +kernel
theorem dX11_set_7 : decode cX11_set 7 = .ok (.ifCond .eq 15, 3) := by decide +kernel
theorem dX11_set_10 : decode cX11_set 10 = .ok (.iload_n 2, 1) := by decide +kernel
theorem dX11_set_11 : decode cX11_set 11 = .ok (.i2l, 1) := by decide +kernel
theorem dX11_set_12 : decode cX11_set 12 = .ok (.lconst 0, 1) := by decide +kernel
theorem dX11_set_13 : decode cX11_set 13 = .ok (.ldc2_w 110, 3) := by decide +kernel
theorem dX11_set_16 : decode cX11_set 16 = .ok (.invokestatic 73, 3) := by decide +kernel
theorem dX11_set_19 : decode cX11_set 19 = .ok (.ifCond .ne 5, 3) := by decide +kernel
theorem dX11_set_22 : decode cX11_set 22 = .ok (.iconst (-1), 1) := by decide +kernel
theorem dX11_set_23 : decode cX11_set 23 = .ok (.ireturn, 1) := by decide +kernel
theorem dX11_set_24 : decode cX11_set 24 = .ok (.aload_n 0, 1) := by decide +kernel
theorem dX11_set_25 : decode cX11_set 25 = .ok (.getfield 25, 3) := by decide +kernel
theorem dX11_set_28 : decode cX11_set 28 = .ok (.iload_n 1, 1) := by decide +kernel
theorem dX11_set_29 : decode cX11_set 29 = .ok (.iaload, 1) := by decide +kernel
theorem dX11_set_30 : decode cX11_set 30 = .ok (.istore_n 3, 1) := by decide +kernel
theorem dX11_set_31 : decode cX11_set 31 = .ok (.aload_n 0, 1) := by decide +kernel
theorem dX11_set_32 : decode cX11_set 32 = .ok (.getfield 25, 3) := by decide +kernel
theorem dX11_set_35 : decode cX11_set 35 = .ok (.iload_n 1, 1) := by decide +kernel
theorem dX11_set_36 : decode cX11_set 36 = .ok (.iload_n 2, 1) := by decide +kernel
theorem dX11_set_37 : decode cX11_set 37 = .ok (.iastore, 1) := by decide +kernel
theorem dX11_set_38 : decode cX11_set 38 = .ok (.iload_n 3, 1) := by decide +kernel
theorem dX11_set_39 : decode cX11_set 39 = .ok (.ireturn, 1) := by decide +kernel
theorem dX11_count_0 : decode cX11_count 0 = .ok (.iconst 0, 1) := by decide +kernel
theorem dX11_count_1 : decode cX11_count 1 = .ok (.istore_n 2, 1) := by decide +kernel
theorem dX11_count_2 : decode cX11_count 2 = .ok (.iconst 0, 1) := by decide +kernel
theorem dX11_count_3 : decode cX11_count 3 = .ok (.istore_n 3, 1) := by decide +kernel
theorem dX11_count_4 : decode cX11_count 4 = .ok (.iconst 0, 1) := by decide +kernel
theorem dX11_count_5 : decode cX11_count 5 = .ok (.istore 4, 2) := by decide +kernel
theorem dX11_count_7 : decode cX11_count 7 = .ok (.iload 4, 2) := by decide +kernel
theorem dX11_count_9 : decode cX11_count 9 = .ok (.bipush 64, 2) := by decide +kernel
theorem dX11_count_11 : decode cX11_count 11 = .ok (.if_icmp .ge 41, 3) := by decide +kernel
theorem dX11_count_14 : decode cX11_count 14 = .ok (.iload_n 2, 1) := by decide +kernel
theorem dX11_count_15 : decode cX11_count 15 = .ok (.aload_n 0, 1) := by decide +kernel
theorem dX11_count_16 : decode cX11_count 16 = .ok (.getfield 7, 3) := by decide +kernel
theorem dX11_count_19 : decode cX11_count 19 = .ok (.iload 4, 2) := by decide +kernel
theorem dX11_count_21 : decode cX11_count 21 = .ok (.iaload, 1) := by decide +kernel
theorem dX11_count_22 : decode cX11_count 22 = .ok (.ifCond .ne 7, 3) := by decide +kernel
theorem dX11_count_25 : decode cX11_count 25 = .ok (.iconst 1, 1) := by decide +kernel
theorem dX11_count_26 : decode cX11_count 26 = .ok (.goto 4, 3) := by decide +kernel
theorem dX11_count_29 : decode cX11_count 29 = .ok (.iconst 0, 1) := by decide +kernel
theorem dX11_count_30 : decode cX11_count 30 = .ok (.iadd, 1) := by decide +kernel
theorem dX11_count_31 : decode cX11_count 31 = .ok (.istore_n 2, 1) := by decide +kernel
theorem dX11_count_32 : decode cX11_count 32 = .ok (.iload_n 3, 1) := by decide +kernel
theorem dX11_count_33 : decode cX11_count 33 = .ok (.aload_n 0, 1) := by decide +kernel
theorem dX11_count_34 : decode cX11_count 34 = .ok (.getfield 7, 3) := by decide +kernel
theorem dX11_count_37 : decode cX11_count 37 = .ok (.sipush 256, 3) := by decide +kernel
theorem dX11_count_40 : decode cX11_count 40 = .ok (.iload 4, 2) := by decide +kernel
theorem dX11_count_42 : decode cX11_count 42 = .ok (.iadd, 1) := by decide +kernel
theorem dX11_count_43 : decode cX11_count 43 = .ok (.iaload, 1) := by decide +kernel
theorem dX11_count_44 : decode cX11_count 44 = .ok (.iadd, 1) := by decide +kernel
theorem dX11_count_45 : decode cX11_count 45 = .ok (.istore_n 3, 1) := by decide +kernel
theorem dX11_count_46 : decode cX11_count 46 = .ok (.iinc 4 1, 3) := by decide +kernel
theorem dX11_count_49 : decode cX11_count 49 = .ok (.goto (-42), 3) := by decide +kernel
theorem dX11_count_52 : decode cX11_count 52 = .ok (.iload_n 1, 1) := by decide +kernel
theorem dX11_count_53 : decode cX11_count 53 = .ok (.ifCond .ne 10, 3) := by decide +kernel
theorem dX11_count_56 : decode cX11_count 56 = .ok (.aload_n 0, 1) := by decide +kernel
theorem dX11_count_57 : decode cX11_count 57 = .ok (.getfield 112, 3) := by decide +kernel
theorem dX11_count_60 : decode cX11_count 60 = .ok (.goto 46, 3) := by decide +kernel
theorem dX11_count_63 : decode cX11_count 63 = .ok (.iload_n 1, 1) := by decide +kernel
theorem dX11_count_64 : decode cX11_count 64 = .ok (.iconst 1, 1) := by decide +kernel
theorem dX11_count_65 : decode cX11_count 65 = .ok (.if_icmp .ne 10, 3) := by decide +kernel
theorem dX11_count_68 : decode cX11_count 68 = .ok (.aload_n 0, 1) := by decide +kernel
theorem dX11_count_69 : decode cX11_count 69 = .ok (.getfield 116, 3) := by decide +kernel
theorem dX11_count_72 : decode cX11_count 72 = .ok (.goto 34, 3) := by decide +kernel
theorem dX11_count_75 : decode cX11_count 75 = .ok (.iload_n 1, 1) := by decide +kernel
theorem dX11_count_76 : decode cX11_count 76 = .ok (.iconst 2, 1) := by decide +kernel
theorem dX11_count_77 : decode cX11_count 77 = .ok (.if_icmp .ne 10, 3) := by decide +kernel
theorem dX11_count_80 : decode cX11_count 80 = .ok (.aload_n 0, 1) := by decide +kernel
theorem dX11_count_81 : decode cX11_count 81 = .ok (.getfield 119, 3) := by decide +kernel
theorem dX11_count_84 : decode cX11_count 84 = .ok (.goto 22, 3) := by decide +kernel
theorem dX11_count_87 : decode cX11_count 87 = .ok (.iload_n 1, 1) := by decide +kernel
theorem dX11_count_88 : decode cX11_count 88 = .ok (.iconst 3, 1) := by decide +kernel
theorem dX11_count_89 : decode cX11_count 89 = .ok (.if_icmp .ne 7, 3) := by decide +kernel
theorem dX11_count_92 : decode cX11_count 92 = .ok (.iload_n 2, 1) := by decide +kernel
theorem dX11_count_93 : decode cX11_count 93 = .ok (.goto 13, 3) := by decide +kernel
theorem dX11_count_96 : decode cX11_count 96 = .ok (.iload_n 1, 1) := by decide +kernel
theorem dX11_count_97 : decode cX11_count 97 = .ok (.iconst 4, 1) := by decide +kernel
theorem dX11_count_98 : decode cX11_count 98 = .ok (.if_icmp .ne 7, 3) := by decide +kernel
theorem dX11_count_101 : decode cX11_count 101 = .ok (.iload_n 3, 1) := by decide +kernel
theorem dX11_count_102 : decode cX11_count 102 = .ok (.goto 4, 3) := by decide +kernel
theorem dX11_count_105 : decode cX11_count 105 = .ok (.iconst (-1), 1) := by decide +kernel
theorem dX11_count_106 : decode cX11_count 106 = .ok (.ireturn, 1) := by decide +kernel
set_option maxRecDepth 20000 in
theorem ggX11_type_X11_in : GoodIn wsX11_type wsX11_in := goodIn_r _ [10] (by decide +kernel) (by decide +kernel)
set_option maxRecDepth 20000 in
theorem gX11_type_X11_in : GoodIn wsX11_type (va_wsS RX11 73 yX11_in wsX11_in) := goodIn_app (goodIn_of _ (by decide +kernel)) ggX11_type_X11_in
theorem dX11_type_0 : decode cX11_type 0 = .ok (.iload_n 3, 1) := by decide +kernel
theorem dX11_type_1 : decode cX11_type 1 = .ok (.i2l, 1) := by decide +kernel
theorem dX11_type_2 : decode cX11_type 2 = .ok (.lconst 1, 1) := by decide +kernel
theorem dX11_type_3 : decode cX11_type 3 = .ok (.ldc2_w 122, 3) := by decide +kernel
theorem dX11_type_6 : decode cX11_type 6 = .ok (.invokestatic 73, 3) := by decide +kernel
theorem dX11_type_9 : decode cX11_type 9 = .ok (.ifCond .ne 5, 3) := by decide +kernel
theorem dX11_type_12 : decode cX11_type 12 = .ok (.iconst (-1), 1) := by decide +kernel
theorem dX11_type_13 : decode cX11_type 13 = .ok (.ireturn, 1) := by decide +kernel
theorem dX11_type_14 : decode cX11_type 14 = .ok (.iload_n 3, 1) := by decide +kernel
theorem dX11_type_15 : decode cX11_type 15 = .ok (.iconst 1, 1) := by decide +kernel
theorem dX11_type_16 : decode cX11_type 16 = .ok (.isub, 1) := by decide +kernel
theorem dX11_type_17 : decode cX11_type 17 = .ok (.istore 4, 2) := by decide +kernel
theorem dX11_type_19 : decode cX11_type 19 = .ok (.iload 4, 2) := by decide +kernel
theorem dX11_type_21 : decode cX11_type 21 = .ok (.ifCond .lt 34, 3) := by decide +kernel
theorem dX11_type_24 : decode cX11_type 24 = .ok (.lload_n 1, 1) := by decide +kernel
theorem dX11_type_25 : decode cX11_type 25 = .ok (.bipush 8, 2) := by decide +kernel
theorem dX11_type_27 : decode cX11_type 27 = .ok (.iload 4, 2) := by decide +kernel
theorem dX11_type_29 : decode cX11_type 29 = .ok (.imul, 1) := by decide +kernel
theorem dX11_type_30 : decode cX11_type 30 = .ok (.lshr, 1) := by decide +kernel
theorem dX11_type_31 : decode cX11_type 31 = .ok (.ldc2_w 124, 3) := by decide +kernel
theorem dX11_type_34 : decode cX11_type 34 = .ok (.land, 1) := by decide +kernel
theorem dX11_type_35 : decode cX11_type 35 = .ok (.ldc2_w 126, 3) := by decide +kernel
theorem dX11_type_38 : decode cX11_type 38 = .ok (.ldc2_w 128, 3) := by decide +kernel
theorem dX11_type_41 : decode cX11_type 41 = .ok (.invokestatic 73, 3) := by decide +kernel
theorem dX11_type_44 : decode cX11_type 44 = .ok (.ifCond .ne 5, 3) := by decide +kernel
theorem dX11_type_47 : decode cX11_type 47 = .ok (.iconst (-1), 1) := by decide +kernel
theorem dX11_type_48 : decode cX11_type 48 = .ok (.ireturn, 1) := by decide +kernel
theorem dX11_type_49 : decode cX11_type 49 = .ok (.iinc 4 (-1), 3) := by decide +kernel
theorem dX11_type_52 : decode cX11_type 52 = .ok (.goto (-33), 3) := by decide +kernel
theorem dX11_type_55 : decode cX11_type 55 = .ok (.aload_n 0, 1) := by decide +kernel
theorem dX11_type_56 : decode cX11_type 56 = .ok (.getfield 130, 3) := by decide +kernel
theorem dX11_type_59 : decode cX11_type 59 = .ok (.iload_n 3, 1) := by decide +kernel
theorem dX11_type_60 : decode cX11_type 60 = .ok (.iadd, 1) := by decide +kernel
theorem dX11_type_61 : decode cX11_type 61 = .ok (.sipush 140, 3) := by decide +kernel
theorem dX11_type_64 : decode cX11_type 64 = .ok (.if_icmp .le 6, 3) := by decide +kernel
theorem dX11_type_67 : decode cX11_type 67 = .ok (.bipush (-3), 2) := by decide +kernel
theorem dX11_type_69 : decode cX11_type 69 = .ok (.ireturn, 1) := by decide +kernel
theorem dX11_type_70 : decode cX11_type 70 = .ok (.iload_n 3, 1) := by decide +kernel
theorem dX11_type_71 : decode cX11_type 71 = .ok (.iconst 1, 1) := by decide +kernel
theorem dX11_type_72 : decode cX11_type 72 = .ok (.isub, 1) := by decide +kernel
theorem dX11_type_73 : decode cX11_type 73 = .ok (.istore 4, 2) := by decide +kernel
theorem dX11_type_75 : decode cX11_type 75 = .ok (.iload 4, 2) := by decide +kernel
theorem dX11_type_77 : decode cX11_type 77 = .ok (.ifCond .lt 40, 3) := by decide +kernel
theorem dX11_type_80 : decode cX11_type 80 = .ok (.aload_n 0, 1) := by decide +kernel
theorem dX11_type_81 : decode cX11_type 81 = .ok (.getfield 34, 3) := by decide +kernel
theorem dX11_type_84 : decode cX11_type 84 = .ok (.aload_n 0, 1) := by decide +kernel
theorem dX11_type_85 : decode cX11_type 85 = .ok (.getfield 130, 3) := by decide +kernel
theorem dX11_type_88 : decode cX11_type 88 = .ok (.lload_n 1, 1) := by decide +kernel
theorem dX11_type_89 : decode cX11_type 89 = .ok (.bipush 8, 2) := by decide +kernel
theorem dX11_type_91 : decode cX11_type 91 = .ok (.iload 4, 2) := by decide +kernel
theorem dX11_type_93 : decode cX11_type 93 = .ok (.imul, 1) := by decide +kernel
theorem dX11_type_94 : decode cX11_type 94 = .ok (.lshr, 1) := by decide +kernel
theorem dX11_type_95 : decode cX11_type 95 = .ok (.ldc2_w 124, 3) := by decide +kernel
theorem dX11_type_98 : decode cX11_type 98 = .ok (.land, 1) := by decide +kernel
theorem dX11_type_99 : decode cX11_type 99 = .ok (.l2i, 1) := by decide +kernel
theorem dX11_type_100 : decode cX11_type 100 = .ok (.iastore, 1) := by decide +kernel
theorem dX11_type_101 : decode cX11_type 101 = .ok (.aload_n 0, 1) := by decide +kernel
theorem dX11_type_102 : decode cX11_type 102 = .ok (.dup, 1) := by decide +kernel
theorem dX11_type_103 : decode cX11_type 103 = .ok (.getfield 130, 3) := by decide +kernel
theorem dX11_type_106 : decode cX11_type 106 = .ok (.iconst 1, 1) := by decide +kernel
theorem dX11_type_107 : decode cX11_type 107 = .ok (.iadd, 1) := by decide +kernel
theorem dX11_type_108 : decode cX11_type 108 = .ok (.putfield 130, 3) := by decide +kernel
theorem dX11_type_111 : decode cX11_type 111 = .ok (.iinc 4 (-1), 3) := by decide +kernel
theorem dX11_type_114 : decode cX11_type 114 = .ok (.goto (-39), 3) := by decide +kernel
theorem dX11_type_117 : decode cX11_type 117 = .ok (.aload_n 0, 1) := by decide +kernel
theorem dX11_type_118 : decode cX11_type 118 = .ok (.getfield 130, 3) := by decide +kernel
theorem dX11_type_121 : decode cX11_type 121 = .ok (.ireturn, 1) := by decide +kernel
theorem dX11_nextByte_0 : decode cX11_nextByte 0 = .ok (.aload_n 0, 1) := by decide +kernel
theorem dX11_nextByte_1 : decode cX11_nextByte 1 = .ok (.getfield 133, 3) := by decide +kernel
theorem dX11_nextByte_4 : decode cX11_nextByte 4 = .ok (.aload_n 0, 1) := by decide +kernel
theorem dX11_nextByte_5 : decode cX11_nextByte 5 = .ok (.getfield 130, 3) := by decide +kernel
theorem dX11_nextByte_8 : decode cX11_nextByte 8 = .ok (.if_icmp .ge 30, 3) := by decide +kernel
theorem dX11_nextByte_11 : decode cX11_nextByte 11 = .ok (.aload_n 0, 1) := by decide +kernel
theorem dX11_nextByte_12 : decode cX11_nextByte 12 = .ok (.getfield 34, 3) := by decide +kernel
theorem dX11_nextByte_15 : decode cX11_nextByte 15 = .ok (.aload_n 0, 1) := by decide +kernel
theorem dX11_nextByte_16 : decode cX11_nextByte 16 = .ok (.getfield 133, 3) := by decide +kernel
theorem dX11_nextByte_19 : decode cX11_nextByte 19 = .ok (.iaload, 1) := by decide +kernel
theorem dX11_nextByte_20 : decode cX11_nextByte 20 = .ok (.bipush 32, 2) := by decide +kernel
theorem dX11_nextByte_22 : decode cX11_nextByte 22 = .ok (.if_icmp .ne 16, 3) := by decide +kernel
theorem dX11_nextByte_25 : decode cX11_nextByte 25 = .ok (.aload_n 0, 1) := by decide +kernel
theorem dX11_nextByte_26 : decode cX11_nextByte 26 = .ok (.dup, 1) := by decide +kernel
theorem dX11_nextByte_27 : decode cX11_nextByte 27 = .ok (.getfield 133, 3) := by decide +kernel
theorem dX11_nextByte_30 : decode cX11_nextByte 30 = .ok (.iconst 1, 1) := by decide +kernel
theorem dX11_nextByte_31 : decode cX11_nextByte 31 = .ok (.iadd, 1) := by decide +kernel
theorem dX11_nextByte_32 : decode cX11_nextByte 32 = .ok (.putfield 133, 3) := by decide +kernel
theorem dX11_nextByte_35 : decode cX11_nextByte 35 = .ok (.goto (-35), 3) := by decide +kernel
theorem dX11_nextByte_38 : decode cX11_nextByte 38 = .ok (.aload_n 0, 1) := by decide +kernel
theorem dX11_nextByte_39 : decode cX11_nextByte 39 = .ok (.getfield 133, 3) := by decide +kernel
theorem dX11_nextByte_42 : decode cX11_nextByte 42 = .ok (.aload_n 0, 1) := by decide +kernel
theorem dX11_nextByte_43 : decode cX11_nextByte 43 = .ok (.getfield 130, 3) := by decide +kernel
theorem dX11_nextByte_46 : decode cX11_nextByte 46 = .ok (.if_icmp .ge 15, 3) := by decide +kernel
theorem dX11_nextByte_49 : decode cX11_nextByte 49 = .ok (.aload_n 0, 1) := by decide +kernel
theorem dX11_nextByte_50 : decode cX11_nextByte 50 = .ok (.getfield 34, 3) := by decide +kernel
theorem dX11_nextByte_53 : decode cX11_nextByte 53 = .ok (.aload_n 0, 1) := by decide +kernel
theorem dX11_nextByte_54 : decode cX11_nextByte 54 = .ok (.getfield 133, 3) := by decide +kernel
theorem dX11_nextByte_57 : decode cX11_nextByte 57 = .ok (.iaload, 1) := by decide +kernel
theorem dX11_nextByte_58 : decode cX11_nextByte 58 = .ok (.goto 4, 3) := by decide +kernel
theorem dX11_nextByte_61 : decode cX11_nextByte 61 = .ok (.iconst (-1), 1) := by decide +kernel
theorem dX11_nextByte_62 : decode cX11_nextByte 62 = .ok (.ireturn, 1) := by decide +kernel
set_option maxRecDepth 20000 in
theorem ggX11_readNumber_X11_nextByte : GoodIn wsX11_readNumber wsX11_nextByte := goodIn_r _ [10, 1, 2, 3, 14, 15, 16, 17, 18, 19, 20, 21, 22, 23, 24, 25, 26, 27, 28, 29, 30, 31, 32, 33, 34, 35, 36, 37, 38, 39, 40, 41] (by decide +kernel) (by decide +kernel)
set_option maxRecDepth 20000 in
theorem gX11_readNumber_X11_nextByte : GoodIn wsX11_readNumber (wsV RX11 136 RX11 yX11_nextByte wsX11_nextByte) := goodIn_app (goodIn_of _ (by decide +kernel)) ggX11_readNumber_X11_nextByte
set_option maxRecDepth 20000 in
theorem ggX11_readNumber_X11_in : GoodIn wsX11_readNumber wsX11_in := goodIn_r _ [13] (by decide +kernel) (by decide +kernel)
set_option maxRecDepth 20000 in
theorem gX11_readNumber_X11_in : GoodIn wsX11_readNumber (va_wsS RX11 73 yX11_in wsX11_in) := goodIn_app (goodIn_of _ (by decide +kernel)) ggX11_readNumber_X11_in
theorem dX11_readNumber_0 : decode cX11_readNumber 0 = .ok (.aload_n 0, 1) := by decide +kernel
theorem dX11_readNumber_1 : decode cX11_readNumber 1 = .ok (.invokevirtual 136, 3) := by decide +kernel
theorem dX11_readNumber_4 : decode cX11_readNumber 4 = .ok (.pop, 1) := by decide +kernel
theorem dX11_readNumber_5 : decode cX11_readNumber 5 = .ok (.aload_n 0, 1) := by decide +kernel
theorem dX11_readNumber_6 : decode cX11_readNumber 6 = .ok (.getfield 133, 3) := by decide +kernel
theorem dX11_readNumber_9 : decode cX11_readNumber 9 = .ok (.istore_n 3, 1) := by decide +kernel
theorem dX11_readNumber_10 : decode cX11_readNumber 10 = .ok (.iconst 0, 1) := by decide +kernel
theorem dX11_readNumber_11 : decode cX11_readNumber 11 = .ok (.istore 4, 2) := by decide +kernel
theorem dX11_readNumber_13 : decode cX11_readNumber 13 = .ok (.aload_n 0, 1) := by decide +kernel
theorem dX11_readNumber_14 : decode cX11_readNumber 14 = .ok (.getfield 133, 3) := by decide +kernel
theorem dX11_readNumber_17 : decode cX11_readNumber 17 = .ok (.aload_n 0, 1) := by decide +kernel
theorem dX11_readNumber_18 : decode cX11_readNumber 18 = .ok (.getfield 130, 3) := by decide +kernel
theorem dX11_readNumber_21 : decode cX11_readNumber 21 = .ok (.if_icmp .ge 71, 3) := by decide +kernel
theorem dX11_readNumber_24 : decode cX11_readNumber 24 = .ok (.aload_n 0, 1) := by decide +kernel
theorem dX11_readNumber_25 : decode cX11_readNumber 25 = .ok (.getfield 34, 3) := by decide +kernel
theorem dX11_readNumber_28 : decode cX11_readNumber 28 = .ok (.aload_n 0, 1) := by decide +kernel
theorem dX11_readNumber_29 : decode cX11_readNumber 29 = .ok (.getfield 133, 3) := by decide +kernel
theorem dX11_readNumber_32 : decode cX11_readNumber 32 = .ok (.iaload, 1) := by decide +kernel
theorem dX11_readNumber_33 : decode cX11_readNumber 33 = .ok (.i2l, 1) := by decide +kernel
theorem dX11_readNumber_34 : decode cX11_readNumber 34 = .ok (.ldc2_w 140, 3) := by decide +kernel
theorem dX11_readNumber_37 : decode cX11_readNumber 37 = .ok (.ldc2_w 142, 3) := by decide +kernel
theorem dX11_readNumber_40 : decode cX11_readNumber 40 = .ok (.invokestatic 73, 3) := by decide +kernel
theorem dX11_readNumber_43 : decode cX11_readNumber 43 = .ok (.ifCond .eq 49, 3) := by decide +kernel
theorem dX11_readNumber_46 : decode cX11_readNumber 46 = .ok (.iload 4, 2) := by decide +kernel
theorem dX11_readNumber_48 : decode cX11_readNumber 48 = .ok (.sipush 999, 3) := by decide +kernel
theorem dX11_readNumber_51 : decode cX11_readNumber 51 = .ok (.if_icmp .le 8, 3) := by decide +kernel
theorem dX11_readNumber_54 : decode cX11_readNumber 54 = .ok (.iload 4, 2) := by decide +kernel
theorem dX11_readNumber_56 : decode cX11_readNumber 56 = .ok (.goto 21, 3) := by decide +kernel
theorem dX11_readNumber_59 : decode cX11_readNumber 59 = .ok (.bipush 10, 2) := by decide +kernel
theorem dX11_readNumber_61 : decode cX11_readNumber 61 = .ok (.iload 4, 2) := by decide +kernel
theorem dX11_readNumber_63 : decode cX11_readNumber 63 = .ok (.imul, 1) := by decide +kernel
theorem dX11_readNumber_64 : decode cX11_readNumber 64 = .ok (.aload_n 0, 1) := by decide +kernel
theorem dX11_readNumber_65 : decode cX11_readNumber 65 = .ok (.getfield 34, 3) := by decide +kernel
theorem dX11_readNumber_68 : decode cX11_readNumber 68 = .ok (.aload_n 0, 1) := by decide +kernel
theorem dX11_readNumber_69 : decode cX11_readNumber 69 = .ok (.getfield 133, 3) := by decide +kernel
theorem dX11_readNumber_72 : decode cX11_readNumber 72 = .ok (.iaload, 1) := by decide +kernel
theorem dX11_readNumber_73 : decode cX11_readNumber 73 = .ok (.iadd, 1) := by decide +kernel
theorem dX11_readNumber_74 : decode cX11_readNumber 74 = .ok (.bipush 48, 2) := by decide +kernel
theorem dX11_readNumber_76 : decode cX11_readNumber 76 = .ok (.isub, 1) := by decide +kernel
theorem dX11_readNumber_77 : decode cX11_readNumber 77 = .ok (.istore 4, 2) := by decide +kernel
theorem dX11_readNumber_79 : decode cX11_readNumber 79 = .ok (.aload_n 0, 1) := by decide +kernel
theorem dX11_readNumber_80 : decode cX11_readNumber 80 = .ok (.dup, 1) := by decide +kernel
theorem dX11_readNumber_81 : decode cX11_readNumber 81 = .ok (.getfield 133, 3) := by decide +kernel
theorem dX11_readNumber_84 : decode cX11_readNumber 84 = .ok (.iconst 1, 1) := by decide +kernel
theorem dX11_readNumber_85 : decode cX11_readNumber 85 = .ok (.iadd, 1) := by decide +kernel
theorem dX11_readNumber_86 : decode cX11_readNumber 86 = .ok (.putfield 133, 3) := by decide +kernel
theorem dX11_readNumber_89 : decode cX11_readNumber 89 = .ok (.goto (-76), 3) := by decide +kernel
theorem dX11_readNumber_92 : decode cX11_readNumber 92 = .ok (.aload_n 0, 1) := by decide +kernel
theorem dX11_readNumber_93 : decode cX11_readNumber 93 = .ok (.getfield 133, 3) := by decide +kernel
theorem dX11_readNumber_96 : decode cX11_readNumber 96 = .ok (.iload_n 3, 1) := by decide +kernel
theorem dX11_readNumber_97 : decode cX11_readNumber 97 = .ok (.if_icmp .ne 5, 3) := by decide +kernel
theorem dX11_readNumber_100 : decode cX11_readNumber 100 = .ok (.iconst (-1), 1) := by decide +kernel
theorem dX11_readNumber_101 : decode cX11_readNumber 101 = .ok (.ireturn, 1) := by decide +kernel
theorem dX11_readNumber_102 : decode cX11_readNumber 102 = .ok (.iload 4, 2) := by decide +kernel
theorem dX11_readNumber_104 : decode cX11_readNumber 104 = .ok (.i2l, 1) := by decide +kernel
theorem dX11_readNumber_105 : decode cX11_readNumber 105 = .ok (.iload_n 1, 1) := by decide +kernel
theorem dX11_readNumber_106 : decode cX11_readNumber 106 = .ok (.i2l, 1) := by decide +kernel
theorem dX11_readNumber_107 : decode cX11_readNumber 107 = .ok (.iload_n 2, 1) := by decide +kernel
theorem dX11_readNumber_108 : decode cX11_readNumber 108 = .ok (.i2l, 1) := by decide +kernel
theorem dX11_readNumber_109 : decode cX11_readNumber 109 = .ok (.invokestatic 73, 3) := by decide +kernel
theorem dX11_readNumber_112 : decode cX11_readNumber 112 = .ok (.ifCond .ne 10, 3) := by decide +kernel
theorem dX11_readNumber_115 : decode cX11_readNumber 115 = .ok (.aload_n 0, 1) := by decide +kernel
theorem dX11_readNumber_116 : decode cX11_readNumber 116 = .ok (.iload_n 3, 1) := by decide +kernel
theorem dX11_readNumber_117 : decode cX11_readNumber 117 = .ok (.putfield 133, 3) := by decide +kernel
theorem dX11_readNumber_120 : decode cX11_readNumber 120 = .ok (.iconst (-1), 1) := by decide +kernel
theorem dX11_readNumber_121 : decode cX11_readNumber 121 = .ok (.ireturn, 1) := by decide +kernel
theorem dX11_readNumber_122 : decode cX11_readNumber 122 = .ok (.iload 4, 2) := by decide +kernel
theorem dX11_readNumber_124 : decode cX11_readNumber 124 = .ok (.ireturn, 1) := by decide +kernel
theorem dX11_kindBy_0 : decode cX11_kindBy 0 = .ok (.iload_n 0, 1) := by decide +kernel
theorem dX11_kindBy_1 : decode cX11_kindBy 1 = .ok (.bipush 108, 2) := by decide +kernel
theorem dX11_kindBy_3 : decode cX11_kindBy 3 = .ok (.if_icmp .ne 7, 3) := by decide +kernel
theorem dX11_kindBy_6 : decode cX11_kindBy 6 = .ok (.iconst 1, 1) := by decide +kernel
theorem dX11_kindBy_7 : decode cX11_kindBy 7 = .ok (.goto 34, 3) := by decide +kernel
theorem dX11_kindBy_10 : decode cX11_kindBy 10 = .ok (.iload_n 0, 1) := by decide +kernel
theorem dX11_kindBy_11 : decode cX11_kindBy 11 = .ok (.bipush 99, 2) := by decide +kernel
theorem dX11_kindBy_13 : decode cX11_kindBy 13 = .ok (.if_icmp .ne 7, 3) := by decide +kernel
theorem dX11_kindBy_16 : decode cX11_kindBy 16 = .ok (.iconst 2, 1) := by decide +kernel
theorem dX11_kindBy_17 : decode cX11_kindBy 17 = .ok (.goto 24, 3) := by decide +kernel
theorem dX11_kindBy_20 : decode cX11_kindBy 20 = .ok (.iload_n 0, 1) := by decide +kernel
theorem dX11_kindBy_21 : decode cX11_kindBy 21 = .ok (.bipush 111, 2) := by decide +kernel
theorem dX11_kindBy_23 : decode cX11_kindBy 23 = .ok (.if_icmp .ne 7, 3) := by decide +kernel
theorem dX11_kindBy_26 : decode cX11_kindBy 26 = .ok (.iconst 3, 1) := by decide +kernel
theorem dX11_kindBy_27 : decode cX11_kindBy 27 = .ok (.goto 14, 3) := by decide +kernel
theorem dX11_kindBy_30 : decode cX11_kindBy 30 = .ok (.iload_n 0, 1) := by decide +kernel
theorem dX11_kindBy_31 : decode cX11_kindBy 31 = .ok (.bipush 101, 2) := by decide +kernel
theorem dX11_kindBy_33 : decode cX11_kindBy 33 = .ok (.if_icmp .ne 7, 3) := by decide +kernel
theorem dX11_kindBy_36 : decode cX11_kindBy 36 = .ok (.iconst 4, 1) := by decide +kernel
theorem dX11_kindBy_37 : decode cX11_kindBy 37 = .ok (.goto 4, 3) := by decide +kernel
theorem dX11_kindBy_40 : decode cX11_kindBy 40 = .ok (.iconst 0, 1) := by decide +kernel
theorem dX11_kindBy_41 : decode cX11_kindBy 41 = .ok (.ireturn, 1) := by decide +kernel
set_option maxRecDepth 20000 in
theorem ggX11_readRow_X11_nextByte : GoodIn wsX11_readRow wsX11_nextByte := goodIn_r _ [10, 3, 11, 12, 19, 20, 21, 22, 23, 24, 25, 26, 27, 28, 29, 30, 31, 32, 33, 34, 35, 36, 37, 38, 39, 40, 41, 42, 43, 44, 45, 46] (by decide +kernel) (by decide +kernel)
set_option maxRecDepth 20000 in
theorem gX11_readRow_X11_nextByte : GoodIn wsX11_readRow (wsV RX11 136 RX11 yX11_nextByte wsX11_nextByte) := goodIn_app (goodIn_of _ (by decide +kernel)) ggX11_readRow_X11_nextByte
set_option maxRecDepth 20000 in
theorem ggX11_readRow_X11_in : GoodIn wsX11_readRow wsX11_in := goodIn_r _ [15] (by decide +kernel) (by decide +kernel)
set_option maxRecDepth 20000 in
theorem gX11_readRow_X11_in : GoodIn wsX11_readRow (va_wsS RX11 73 yX11_in wsX11_in) := goodIn_app (goodIn_of _ (by decide +kernel)) ggX11_readRow_X11_in
set_option maxRecDepth 20000 in
theorem ggX11_readRow_X11_kindBy : GoodIn wsX11_readRow wsX11_kindBy := goodIn_r _ [18] (by decide +kernel) (by decide +kernel)
set_option maxRecDepth 20000 in
theorem gX11_readRow_X11_kindBy : GoodIn wsX11_readRow (va_wsS RX11 144 yX11_kindBy wsX11_kindBy) := goodIn_app (goodIn_of _ (by decide +kernel)) ggX11_readRow_X11_kindBy
theorem dX11_readRow_0 : decode cX11_readRow 0 = .ok (.iconst 0, 1) := by decide +kernel
theorem dX11_readRow_1 : decode cX11_readRow 1 = .ok (.istore_n 2, 1) := by decide +kernel
theorem dX11_readRow_2 : decode cX11_readRow 2 = .ok (.iload_n 2, 1) := by decide +kernel
theorem dX11_readRow_3 : decode cX11_readRow 3 = .ok (.bipush 8, 2) := by decide +kernel
theorem dX11_readRow_5 : decode cX11_readRow 5 = .ok (.if_icmp .ge 92, 3) := by decide +kernel
theorem dX11_readRow_8 : decode cX11_readRow 8 = .ok (.aload_n 0, 1) := by decide +kernel
theorem dX11_readRow_9 : decode cX11_readRow 9 = .ok (.invokevirtual 136, 3) := by decide +kernel
theorem dX11_readRow_12 : decode cX11_readRow 12 = .ok (.i2l, 1) := by decide +kernel
theorem dX11_readRow_13 : decode cX11_readRow 13 = .ok (.ldc2_w 140, 3) := by decide +kernel
theorem dX11_readRow_16 : decode cX11_readRow 16 = .ok (.ldc2_w 142, 3) := by decide +kernel
theorem dX11_readRow_19 : decode cX11_readRow 19 = .ok (.invokestatic 73, 3) := by decide +kernel
theorem dX11_readRow_22 : decode cX11_readRow 22 = .ok (.ifCond .eq 75, 3) := by decide +kernel
theorem dX11_readRow_25 : decode cX11_readRow 25 = .ok (.bipush 10, 2) := by decide +kernel
theorem dX11_readRow_27 : decode cX11_readRow 27 = .ok (.aload_n 0, 1) := by decide +kernel
theorem dX11_readRow_28 : decode cX11_readRow 28 = .ok (.invokevirtual 136, 3) := by decide +kernel
theorem dX11_readRow_31 : decode cX11_readRow 31 = .ok (.bipush 48, 2) := by decide +kernel
theorem dX11_readRow_33 : decode cX11_readRow 33 = .ok (.isub, 1) := by decide +kernel
theorem dX11_readRow_34 : decode cX11_readRow 34 = .ok (.imul, 1) := by decide +kernel
theorem dX11_readRow_35 : decode cX11_readRow 35 = .ok (.istore_n 3, 1) := by decide +kernel
theorem dX11_readRow_36 : decode cX11_readRow 36 = .ok (.aload_n 0, 1) := by decide +kernel
theorem dX11_readRow_37 : decode cX11_readRow 37 = .ok (.dup, 1) := by decide +kernel
theorem dX11_readRow_38 : decode cX11_readRow 38 = .ok (.getfield 133, 3) := by decide +kernel
theorem dX11_readRow_41 : decode cX11_readRow 41 = .ok (.iconst 1, 1) := by decide +kernel
theorem dX11_readRow_42 : decode cX11_readRow 42 = .ok (.iadd, 1) := by decide +kernel
theorem dX11_readRow_43 : decode cX11_readRow 43 = .ok (.putfield 133, 3) := by decide +kernel
theorem dX11_readRow_46 : decode cX11_readRow 46 = .ok (.aload_n 0, 1) := by decide +kernel
theorem dX11_readRow_47 : decode cX11_readRow 47 = .ok (.invokevirtual 136, 3) := by decide +kernel
theorem dX11_readRow_50 : decode cX11_readRow 50 = .ok (.invokestatic 144, 3) := by decide +kernel
theorem dX11_readRow_53 : decode cX11_readRow 53 = .ok (.istore 4, 2) := by decide +kernel
theorem dX11_readRow_55 : decode cX11_readRow 55 = .ok (.aload_n 0, 1) := by decide +kernel
theorem dX11_readRow_56 : decode cX11_readRow 56 = .ok (.dup, 1) := by decide +kernel
theorem dX11_readRow_57 : decode cX11_readRow 57 = .ok (.getfield 133, 3) := by decide +kernel
theorem dX11_readRow_60 : decode cX11_readRow 60 = .ok (.iload 4, 2) := by decide +kernel
theorem dX11_readRow_62 : decode cX11_readRow 62 = .ok (.ifCond .le 7, 3) := by decide +kernel
theorem dX11_readRow_65 : decode cX11_readRow 65 = .ok (.iconst 1, 1) := by decide +kernel
theorem dX11_readRow_66 : decode cX11_readRow 66 = .ok (.goto 4, 3) := by decide +kernel
theorem dX11_readRow_69 : decode cX11_readRow 69 = .ok (.iconst 0, 1) := by decide +kernel
theorem dX11_readRow_70 : decode cX11_readRow 70 = .ok (.iadd, 1) := by decide +kernel
theorem dX11_readRow_71 : decode cX11_readRow 71 = .ok (.putfield 133, 3) := by decide +kernel
theorem dX11_readRow_74 : decode cX11_readRow 74 = .ok (.aload_n 0, 1) := by decide +kernel
theorem dX11_readRow_75 : decode cX11_readRow 75 = .ok (.getfield 37, 3) := by decide +kernel
theorem dX11_readRow_78 : decode cX11_readRow 78 = .ok (.bipush 8, 2) := by decide +kernel
theorem dX11_readRow_80 : decode cX11_readRow 80 = .ok (.iload_n 1, 1) := by decide +kernel
theorem dX11_readRow_81 : decode cX11_readRow 81 = .ok (.imul, 1) := by decide +kernel
theorem dX11_readRow_82 : decode cX11_readRow 82 = .ok (.iload_n 2, 1) := by decide +kernel
theorem dX11_readRow_83 : decode cX11_readRow 83 = .ok (.iadd, 1) := by decide +kernel
theorem dX11_readRow_84 : decode cX11_readRow 84 = .ok (.iconst 5, 1) := by decide +kernel
theorem dX11_readRow_85 : decode cX11_readRow 85 = .ok (.iload_n 3, 1) := by decide +kernel
theorem dX11_readRow_86 : decode cX11_readRow 86 = .ok (.imul, 1) := by decide +kernel
theorem dX11_readRow_87 : decode cX11_readRow 87 = .ok (.iload 4, 2) := by decide +kernel
theorem dX11_readRow_89 : decode cX11_readRow 89 = .ok (.iadd, 1) := by decide +kernel
theorem dX11_readRow_90 : decode cX11_readRow 90 = .ok (.iastore, 1) := by decide +kernel
theorem dX11_readRow_91 : decode cX11_readRow 91 = .ok (.iinc 2 1, 3) := by decide +kernel
theorem dX11_readRow_94 : decode cX11_readRow 94 = .ok (.goto (-92), 3) := by decide +kernel
theorem dX11_readRow_97 : decode cX11_readRow 97 = .ok (.aload_n 0, 1) := by decide +kernel
theorem dX11_readRow_98 : decode cX11_readRow 98 = .ok (.dup, 1) := by decide +kernel
theorem dX11_readRow_99 : decode cX11_readRow 99 = .ok (.getfield 147, 3) := by decide +kernel
theorem dX11_readRow_102 : decode cX11_readRow 102 = .ok (.iload_n 2, 1) := by decide +kernel
theorem dX11_readRow_103 : decode cX11_readRow 103 = .ok (.iadd, 1) := by decide +kernel
theorem dX11_readRow_104 : decode cX11_readRow 104 = .ok (.putfield 147, 3) := by decide +kernel
theorem dX11_readRow_107 : decode cX11_readRow 107 = .ok (.iload_n 2, 1) := by decide +kernel
theorem dX11_readRow_108 : decode cX11_readRow 108 = .ok (.ifCond .le 7, 3) := by decide +kernel
theorem dX11_readRow_111 : decode cX11_readRow 111 = .ok (.iconst 1, 1) := by decide +kernel
theorem dX11_readRow_112 : decode cX11_readRow 112 = .ok (.goto 4, 3) := by decide +kernel
theorem dX11_readRow_115 : decode cX11_readRow 115 = .ok (.iconst 0, 1) := by decide +kernel
theorem dX11_readRow_116 : decode cX11_readRow 116 = .ok (.ireturn, 1) := by decide +kernel
set_option maxRecDepth 20000 in
theorem ggX11_readIce_X11_readRow : GoodIn wsX11_readIce wsX11_readRow := goodIn_r _ [8, 9, 10, 1, 3, 2, 11, 12, 13, 7, 14, 15, 16, 17, 18, 19, 20, 21, 22, 23, 24, 25, 26, 27, 28, 29, 30, 31, 32, 33, 34, 35, 36, 37, 38, 39, 40, 41, 42, 43, 44, 45, 46, 47, 48, 49, 50] (by decide +kernel) (by decide +kernel)
set_option maxRecDepth 20000 in
theorem gX11_readIce_X11_readRow : GoodIn wsX11_readIce (wsV RX11 150 RX11 yX11_readRow wsX11_readRow) := goodIn_app (goodIn_of _ (by decide +kernel)) ggX11_readIce_X11_readRow
set_option maxRecDepth 20000 in
theorem ggX11_readIce_X11_nextByte : GoodIn wsX11_readIce wsX11_nextByte := goodIn_r _ [14, 1, 15, 16, 23, 24, 25, 26, 27, 28, 29, 30, 31, 32, 33, 34, 35, 36, 37, 38, 39, 40, 41, 42, 43, 44, 45, 46, 47, 48, 49, 50] (by decide +kernel) (by decide +kernel)
set_option maxRecDepth 20000 in
theorem gX11_readIce_X11_nextByte : GoodIn wsX11_readIce (wsV RX11 136 RX11 yX11_nextByte wsX11_nextByte) := goodIn_app (goodIn_of _ (by decide +kernel)) ggX11_readIce_X11_nextByte
theorem dX11_readIce_0 : decode cX11_readIce 0 = .ok (.aload_n 0, 1) := by decide +kernel
theorem dX11_readIce_1 : decode cX11_readIce 1 = .ok (.iconst 0, 1) := by decide +kernel
theorem dX11_readIce_2 : decode cX11_readIce 2 = .ok (.putfield 133, 3) := by decide +kernel
theorem dX11_readIce_5 : decode cX11_readIce 5 = .ok (.aload_n 0, 1) := by decide +kernel
theorem dX11_readIce_6 : decode cX11_readIce 6 = .ok (.iconst 0, 1) := by decide +kernel
theorem dX11_readIce_7 : decode cX11_readIce 7 = .ok (.putfield 147, 3) := by decide +kernel
theorem dX11_readIce_10 : decode cX11_readIce 10 = .ok (.iconst 0, 1) := by decide +kernel
theorem dX11_readIce_11 : decode cX11_readIce 11 = .ok (.istore_n 1, 1) := by decide +kernel
theorem dX11_readIce_12 : decode cX11_readIce 12 = .ok (.iload_n 1, 1) := by decide +kernel
theorem dX11_readIce_13 : decode cX11_readIce 13 = .ok (.bipush 64, 2) := by decide +kernel
theorem dX11_readIce_15 : decode cX11_readIce 15 = .ok (.if_icmp .ge 16, 3) := by decide +kernel
theorem dX11_readIce_18 : decode cX11_readIce 18 = .ok (.aload_n 0, 1) := by decide +kernel
theorem dX11_readIce_19 : decode cX11_readIce 19 = .ok (.getfield 37, 3) := by decide +kernel
theorem dX11_readIce_22 : decode cX11_readIce 22 = .ok (.iload_n 1, 1) := by decide +kernel
theorem dX11_readIce_23 : decode cX11_readIce 23 = .ok (.iconst (-1), 1) := by decide +kernel
theorem dX11_readIce_24 : decode cX11_readIce 24 = .ok (.iastore, 1) := by decide +kernel
theorem dX11_readIce_25 : decode cX11_readIce 25 = .ok (.iinc 1 1, 3) := by decide +kernel
theorem dX11_readIce_28 : decode cX11_readIce 28 = .ok (.goto (-16), 3) := by decide +kernel
theorem dX11_readIce_31 : decode cX11_readIce 31 = .ok (.iconst 0, 1) := by decide +kernel
theorem dX11_readIce_32 : decode cX11_readIce 32 = .ok (.istore_n 1, 1) := by decide +kernel
theorem dX11_readIce_33 : decode cX11_readIce 33 = .ok (.iload_n 1, 1) := by decide +kernel
theorem dX11_readIce_34 : decode cX11_readIce 34 = .ok (.bipush 8, 2) := by decide +kernel
theorem dX11_readIce_36 : decode cX11_readIce 36 = .ok (.if_icmp .ge 54, 3) := by decide +kernel
theorem dX11_readIce_39 : decode cX11_readIce 39 = .ok (.aload_n 0, 1) := by decide +kernel
theorem dX11_readIce_40 : decode cX11_readIce 40 = .ok (.iload_n 1, 1) := by decide +kernel
theorem dX11_readIce_41 : decode cX11_readIce 41 = .ok (.invokevirtual 150, 3) := by decide +kernel
theorem dX11_readIce_44 : decode cX11_readIce 44 = .ok (.ifCond .ne 5, 3) := by decide +kernel
theorem dX11_readIce_47 : decode cX11_readIce 47 = .ok (.iconst 0, 1) := by decide +kernel
theorem dX11_readIce_48 : decode cX11_readIce 48 = .ok (.ireturn, 1) := by decide +kernel
theorem dX11_readIce_49 : decode cX11_readIce 49 = .ok (.aload_n 0, 1) := by decide +kernel
theorem dX11_readIce_50 : decode cX11_readIce 50 = .ok (.invokevirtual 136, 3) := by decide +kernel
theorem dX11_readIce_53 : decode cX11_readIce 53 = .ok (.istore_n 2, 1) := by decide +kernel
theorem dX11_readIce_54 : decode cX11_readIce 54 = .ok (.iload_n 2, 1) := by decide +kernel
theorem dX11_readIce_55 : decode cX11_readIce 55 = .ok (.ifCond .ge 5, 3) := by decide +kernel
theorem dX11_readIce_58 : decode cX11_readIce 58 = .ok (.iconst 1, 1) := by decide +kernel
theorem dX11_readIce_59 : decode cX11_readIce 59 = .ok (.ireturn, 1) := by decide +kernel
theorem dX11_readIce_60 : decode cX11_readIce 60 = .ok (.iload_n 2, 1) := by decide +kernel
theorem dX11_readIce_61 : decode cX11_readIce 61 = .ok (.bipush 47, 2) := by decide +kernel
theorem dX11_readIce_63 : decode cX11_readIce 63 = .ok (.if_icmp .ne 9, 3) := by decide +kernel
theorem dX11_readIce_66 : decode cX11_readIce 66 = .ok (.iload_n 1, 1) := by decide +kernel
theorem dX11_readIce_67 : decode cX11_readIce 67 = .ok (.bipush 7, 2) := by decide +kernel
theorem dX11_readIce_69 : decode cX11_readIce 69 = .ok (.if_icmp .ne 5, 3) := by decide +kernel
theorem dX11_readIce_72 : decode cX11_readIce 72 = .ok (.iconst 0, 1) := by decide +kernel
theorem dX11_readIce_73 : decode cX11_readIce 73 = .ok (.ireturn, 1) := by decide +kernel
theorem dX11_readIce_74 : decode cX11_readIce 74 = .ok (.aload_n 0, 1) := by decide +kernel
theorem dX11_readIce_75 : decode cX11_readIce 75 = .ok (.dup, 1) := by decide +kernel
theorem dX11_readIce_76 : decode cX11_readIce 76 = .ok (.getfield 133, 3) := by decide +kernel
theorem dX11_readIce_79 : decode cX11_readIce 79 = .ok (.iconst 1, 1) := by decide +kernel
theorem dX11_readIce_80 : decode cX11_readIce 80 = .ok (.iadd, 1) := by decide +kernel
theorem dX11_readIce_81 : decode cX11_readIce 81 = .ok (.putfield 133, 3) := by decide +kernel
theorem dX11_readIce_84 : decode cX11_readIce 84 = .ok (.iinc 1 1, 3) := by decide +kernel
theorem dX11_readIce_87 : decode cX11_readIce 87 = .ok (.goto (-54), 3) := by decide +kernel
theorem dX11_readIce_90 : decode cX11_readIce 90 = .ok (.iconst 0, 1) := by decide +kernel
theorem dX11_readIce_91 : decode cX11_readIce 91 = .ok (.ireturn, 1) := by decide +kernel
set_option maxRecDepth 20000 in
theorem ggX11_ice_X11_readIce : GoodIn wsX11_ice wsX11_readIce := goodIn_r _ [10, 2, 5, 3, 11, 12, 13, 9, 14, 15, 16, 17, 18, 19, 20, 1, 21, 22, 23, 24, 25, 26, 27, 28, 29, 30, 31, 32, 33, 34, 35, 36, 37, 38, 39, 40, 41, 42, 43, 44, 45, 46, 47, 48, 49, 50, 51, 52, 53, 54, 55] (by decide +kernel) (by decide +kernel)
set_option maxRecDepth 20000 in
theorem gX11_ice_X11_readIce : GoodIn wsX11_ice (wsV RX11 154 RX11 yX11_readIce wsX11_readIce) := goodIn_app (goodIn_of _ (by decide +kernel)) ggX11_ice_X11_readIce
theorem dX11_ice_0 : decode cX11_ice 0 = .ok (.aload_n 0, 1) := by decide +kernel
theorem dX11_ice_1 : decode cX11_ice 1 = .ok (.invokevirtual 154, 3) := by decide +kernel
theorem dX11_ice_4 : decode cX11_ice 4 = .ok (.istore_n 1, 1) := by decide +kernel
theorem dX11_ice_5 : decode cX11_ice 5 = .ok (.aload_n 0, 1) := by decide +kernel
theorem dX11_ice_6 : decode cX11_ice 6 = .ok (.iconst 0, 1) := by decide +kernel
theorem dX11_ice_7 : decode cX11_ice 7 = .ok (.putfield 130, 3) := by decide +kernel
theorem dX11_ice_10 : decode cX11_ice 10 = .ok (.iload_n 1, 1) := by decide +kernel
theorem dX11_ice_11 : decode cX11_ice 11 = .ok (.ifCond .ne 11, 3) := by decide +kernel
theorem dX11_ice_14 : decode cX11_ice 14 = .ok (.bipush (-20), 2) := by decide +kernel
theorem dX11_ice_16 : decode cX11_ice 16 = .ok (.aload_n 0, 1) := by decide +kernel
theorem dX11_ice_17 : decode cX11_ice 17 = .ok (.getfield 133, 3) := by decide +kernel
theorem dX11_ice_20 : decode cX11_ice 20 = .ok (.isub, 1) := by decide +kernel
theorem dX11_ice_21 : decode cX11_ice 21 = .ok (.ireturn, 1) := by decide +kernel
theorem dX11_ice_22 : decode cX11_ice 22 = .ok (.iconst 0, 1) := by decide +kernel
theorem dX11_ice_23 : decode cX11_ice 23 = .ok (.istore_n 2, 1) := by decide +kernel
theorem dX11_ice_24 : decode cX11_ice 24 = .ok (.iload_n 2, 1) := by decide +kernel
theorem dX11_ice_25 : decode cX11_ice 25 = .ok (.bipush 64, 2) := by decide +kernel
theorem dX11_ice_27 : decode cX11_ice 27 = .ok (.if_icmp .ge 82, 3) := by decide +kernel
theorem dX11_ice_30 : decode cX11_ice 30 = .ok (.aload_n 0, 1) := by decide +kernel
theorem dX11_ice_31 : decode cX11_ice 31 = .ok (.getfield 37, 3) := by decide +kernel
theorem dX11_ice_34 : decode cX11_ice 34 = .ok (.iload_n 2, 1) := by decide +kernel
theorem dX11_ice_35 : decode cX11_ice 35 = .ok (.iaload, 1) := by decide +kernel
theorem dX11_ice_36 : decode cX11_ice 36 = .ok (.ifCond .lt 67, 3) := by decide +kernel
theorem dX11_ice_39 : decode cX11_ice 39 = .ok (.aload_n 0, 1) := by decide +kernel
theorem dX11_ice_40 : decode cX11_ice 40 = .ok (.getfield 7, 3) := by decide +kernel
theorem dX11_ice_43 : decode cX11_ice 43 = .ok (.iload_n 2, 1) := by decide +kernel
theorem dX11_ice_44 : decode cX11_ice 44 = .ok (.aload_n 0, 1) := by decide +kernel
theorem dX11_ice_45 : decode cX11_ice 45 = .ok (.getfield 37, 3) := by decide +kernel
theorem dX11_ice_48 : decode cX11_ice 48 = .ok (.iload_n 2, 1) := by decide +kernel
theorem dX11_ice_49 : decode cX11_ice 49 = .ok (.iaload, 1) := by decide +kernel
theorem dX11_ice_50 : decode cX11_ice 50 = .ok (.iconst 5, 1) := by decide +kernel
theorem dX11_ice_51 : decode cX11_ice 51 = .ok (.idiv, 1) := by decide +kernel
theorem dX11_ice_52 : decode cX11_ice 52 = .ok (.iastore, 1) := by decide +kernel
theorem dX11_ice_53 : decode cX11_ice 53 = .ok (.aload_n 0, 1) := by decide +kernel
theorem dX11_ice_54 : decode cX11_ice 54 = .ok (.getfield 7, 3) := by decide +kernel
theorem dX11_ice_57 : decode cX11_ice 57 = .ok (.bipush 64, 2) := by decide +kernel
theorem dX11_ice_59 : decode cX11_ice 59 = .ok (.iload_n 2, 1) := by decide +kernel
theorem dX11_ice_60 : decode cX11_ice 60 = .ok (.iadd, 1) := by decide +kernel
theorem dX11_ice_61 : decode cX11_ice 61 = .ok (.aload_n 0, 1) := by decide +kernel
theorem dX11_ice_62 : decode cX11_ice 62 = .ok (.getfield 37, 3) := by decide +kernel
theorem dX11_ice_65 : decode cX11_ice 65 = .ok (.iload_n 2, 1) := by decide +kernel
theorem dX11_ice_66 : decode cX11_ice 66 = .ok (.iaload, 1) := by decide +kernel
theorem dX11_ice_67 : decode cX11_ice 67 = .ok (.iconst 5, 1) := by decide +kernel
theorem dX11_ice_68 : decode cX11_ice 68 = .ok (.irem, 1) := by decide +kernel
theorem dX11_ice_69 : decode cX11_ice 69 = .ok (.iastore, 1) := by decide +kernel
theorem dX11_ice_70 : decode cX11_ice 70 = .ok (.aload_n 0, 1) := by decide +kernel
theorem dX11_ice_71 : decode cX11_ice 71 = .ok (.getfield 7, 3) := by decide +kernel
theorem dX11_ice_74 : decode cX11_ice 74 = .ok (.sipush 128, 3) := by decide +kernel
theorem dX11_ice_77 : decode cX11_ice 77 = .ok (.iload_n 2, 1) := by decide +kernel
theorem dX11_ice_78 : decode cX11_ice 78 = .ok (.iadd, 1) := by decide +kernel
theorem dX11_ice_79 : decode cX11_ice 79 = .ok (.iconst 0, 1) := by decide +kernel
theorem dX11_ice_80 : decode cX11_ice 80 = .ok (.iastore, 1) := by decide +kernel
theorem dX11_ice_81 : decode cX11_ice 81 = .ok (.aload_n 0, 1) := by decide +kernel
theorem dX11_ice_82 : decode cX11_ice 82 = .ok (.getfield 7, 3) := by decide +kernel
theorem dX11_ice_85 : decode cX11_ice 85 = .ok (.sipush 192, 3) := by decide +kernel
theorem dX11_ice_88 : decode cX11_ice 88 = .ok (.iload_n 2, 1) := by decide +kernel
theorem dX11_ice_89 : decode cX11_ice 89 = .ok (.iadd, 1) := by decide +kernel
theorem dX11_ice_90 : decode cX11_ice 90 = .ok (.iconst 0, 1) := by decide +kernel
theorem dX11_ice_91 : decode cX11_ice 91 = .ok (.iastore, 1) := by decide +kernel
theorem dX11_ice_92 : decode cX11_ice 92 = .ok (.aload_n 0, 1) := by decide +kernel
theorem dX11_ice_93 : decode cX11_ice 93 = .ok (.getfield 7, 3) := by decide +kernel
theorem dX11_ice_96 : decode cX11_ice 96 = .ok (.sipush 256, 3) := by decide +kernel
theorem dX11_ice_99 : decode cX11_ice 99 = .ok (.iload_n 2, 1) := by decide +kernel
theorem dX11_ice_100 : decode cX11_ice 100 = .ok (.iadd, 1) := by decide +kernel
theorem dX11_ice_101 : decode cX11_ice 101 = .ok (.iconst 0, 1) := by decide +kernel
theorem dX11_ice_102 : decode cX11_ice 102 = .ok (.iastore, 1) := by decide +kernel
theorem dX11_ice_103 : decode cX11_ice 103 = .ok (.iinc 2 1, 3) := by decide +kernel
theorem dX11_ice_106 : decode cX11_ice 106 = .ok (.goto (-82), 3) := by decide +kernel
theorem dX11_ice_109 : decode cX11_ice 109 = .ok (.aload_n 0, 1) := by decide +kernel
theorem dX11_ice_110 : decode cX11_ice 110 = .ok (.getfield 147, 3) := by decide +kernel
theorem dX11_ice_113 : decode cX11_ice 113 = .ok (.ireturn, 1) := by decide +kernel
set_option maxRecDepth 20000 in
theorem ggX11_readSleigh_X11_readNumber : GoodIn wsX11_readSleigh wsX11_readNumber := goodIn_r _ [8, 2, 9, 10, 11, 12, 13, 14, 15, 7, 16, 17, 18, 19, 20, 21, 22, 23, 24, 25, 26, 27, 28, 29, 30, 31, 32, 33, 34, 35, 36, 37, 38, 39, 40, 41, 42, 43, 44, 45, 46, 47] (by decide +kernel) (by decide +kernel)
set_option maxRecDepth 20000 in
theorem gX11_readSleigh_X11_readNumber : GoodIn wsX11_readSleigh (wsV RX11 158 RX11 yX11_readNumber wsX11_readNumber) := goodIn_app (goodIn_of _ (by decide +kernel)) ggX11_readSleigh_X11_readNumber
set_option maxRecDepth 20000 in
theorem ggX11_readSleigh_X11_nextByte : GoodIn wsX11_readSleigh wsX11_nextByte := goodIn_r _ [16, 2, 9, 10, 20, 21, 22, 23, 24, 25, 26, 27, 28, 29, 30, 31, 32, 33, 34, 35, 36, 37, 38, 39, 40, 41, 42, 43, 44, 45, 46, 47] (by decide +kernel) (by decide +kernel)
set_option maxRecDepth 20000 in
theorem gX11_readSleigh_X11_nextByte : GoodIn wsX11_readSleigh (wsV RX11 136 RX11 yX11_nextByte wsX11_nextByte) := goodIn_app (goodIn_of _ (by decide +kernel)) ggX11_readSleigh_X11_nextByte
set_option maxRecDepth 20000 in
theorem ggX11_readSleigh_X11_in : GoodIn wsX11_readSleigh wsX11_in := goodIn_r _ [19] (by decide +kernel) (by decide +kernel)
set_option maxRecDepth 20000 in
theorem gX11_readSleigh_X11_in : GoodIn wsX11_readSleigh (va_wsS RX11 73 yX11_in wsX11_in) := goodIn_app (goodIn_of _ (by decide +kernel)) ggX11_readSleigh_X11_in
theorem dX11_readSleigh_0 : decode cX11_readSleigh 0 = .ok (.aload_n 0, 1) := by decide +kernel
theorem dX11_readSleigh_1 : decode cX11_readSleigh 1 = .ok (.getfield 37, 3) := by decide +kernel
theorem dX11_readSleigh_4 : decode cX11_readSleigh 4 = .ok (.iload_n 1, 1) := by decide +kernel
theorem dX11_readSleigh_5 : decode cX11_readSleigh 5 = .ok (.aload_n 0, 1) := by decide +kernel
theorem dX11_readSleigh_6 : decode cX11_readSleigh 6 = .ok (.iconst 1, 1) := by decide +kernel
theorem dX11_readSleigh_7 : decode cX11_readSleigh 7 = .ok (.bipush 99, 2) := by decide +kernel
theorem dX11_readSleigh_9 : decode cX11_readSleigh 9 = .ok (.invokevirtual 158, 3) := by decide +kernel
theorem dX11_readSleigh_12 : decode cX11_readSleigh 12 = .ok (.iastore, 1) := by decide +kernel
theorem dX11_readSleigh_13 : decode cX11_readSleigh 13 = .ok (.aload_n 0, 1) := by decide +kernel
theorem dX11_readSleigh_14 : decode cX11_readSleigh 14 = .ok (.getfield 37, 3) := by decide +kernel
theorem dX11_readSleigh_17 : decode cX11_readSleigh 17 = .ok (.iload_n 1, 1) := by decide +kernel
theorem dX11_readSleigh_18 : decode cX11_readSleigh 18 = .ok (.iaload, 1) := by decide +kernel
theorem dX11_readSleigh_19 : decode cX11_readSleigh 19 = .ok (.ifCond .lt 12, 3) := by decide +kernel
theorem dX11_readSleigh_22 : decode cX11_readSleigh 22 = .ok (.aload_n 0, 1) := by decide +kernel
theorem dX11_readSleigh_23 : decode cX11_readSleigh 23 = .ok (.invokevirtual 136, 3) := by decide +kernel
theorem dX11_readSleigh_26 : decode cX11_readSleigh 26 = .ok (.bipush 112, 2) := by decide +kernel
theorem dX11_readSleigh_28 : decode cX11_readSleigh 28 = .ok (.if_icmp .eq 5, 3) := by decide +kernel
theorem dX11_readSleigh_31 : decode cX11_readSleigh 31 = .ok (.iconst 0, 1) := by decide +kernel
theorem dX11_readSleigh_32 : decode cX11_readSleigh 32 = .ok (.ireturn, 1) := by decide +kernel
theorem dX11_readSleigh_33 : decode cX11_readSleigh 33 = .ok (.aload_n 0, 1) := by decide +kernel
