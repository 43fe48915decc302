theorem dX11_planks_144 : decode cX11_planks 144 = .ok (.if_icmp .ge 83, 3) := by decide +kernel
theorem dX11_planks_147 : decode cX11_planks 147 = .ok (.iload 7, 2) := by decide +kernel
theorem dX11_planks_149 : decode cX11_planks 149 = .ok (.iload 8, 2) := by decide +kernel
theorem dX11_planks_151 : decode cX11_planks 151 = .ok (.invokestatic 167, 3) := by decide +kernel
theorem dX11_planks_154 : decode cX11_planks 154 = .ok (.istore 9, 2) := by decide +kernel
theorem dX11_planks_156 : decode cX11_planks 156 = .ok (.iload 9, 2) := by decide +kernel
theorem dX11_planks_158 : decode cX11_planks 158 = .ok (.ifCond .lt 16, 3) := by decide +kernel
theorem dX11_planks_161 : decode cX11_planks 161 = .ok (.aload_n 0, 1) := by decide +kernel
theorem dX11_planks_162 : decode cX11_planks 162 = .ok (.getfield 46, 3) := by decide +kernel
theorem dX11_planks_165 : decode cX11_planks 165 = .ok (.iload 7, 2) := by decide +kernel
theorem dX11_planks_167 : decode cX11_planks 167 = .ok (.iaload, 1) := by decide +kernel
theorem dX11_planks_168 : decode cX11_planks 168 = .ok (.sipush 999, 3) := by decide +kernel
theorem dX11_planks_171 : decode cX11_planks 171 = .ok (.if_icmp .ne 9, 3) := by decide +kernel
theorem dX11_planks_174 : decode cX11_planks 174 = .ok (.sipush 999, 3) := by decide +kernel
theorem dX11_planks_177 : decode cX11_planks 177 = .ok (.goto 18, 3) := by decide +kernel
theorem dX11_planks_180 : decode cX11_planks 180 = .ok (.aload_n 0, 1) := by decide +kernel
theorem dX11_planks_181 : decode cX11_planks 181 = .ok (.getfield 43, 3) := by decide +kernel
theorem dX11_planks_184 : decode cX11_planks 184 = .ok (.iload 9, 2) := by decide +kernel
theorem dX11_planks_186 : decode cX11_planks 186 = .ok (.iaload, 1) := by decide +kernel
theorem dX11_planks_187 : decode cX11_planks 187 = .ok (.aload_n 0, 1) := by decide +kernel
theorem dX11_planks_188 : decode cX11_planks 188 = .ok (.getfield 46, 3) := by decide +kernel
theorem dX11_planks_191 : decode cX11_planks 191 = .ok (.iload 7, 2) := by decide +kernel
theorem dX11_planks_193 : decode cX11_planks 193 = .ok (.iaload, 1) := by decide +kernel
theorem dX11_planks_194 : decode cX11_planks 194 = .ok (.iadd, 1) := by decide +kernel
theorem dX11_planks_195 : decode cX11_planks 195 = .ok (.istore 10, 2) := by decide +kernel
theorem dX11_planks_197 : decode cX11_planks 197 = .ok (.iload 10, 2) := by decide +kernel
theorem dX11_planks_199 : decode cX11_planks 199 = .ok (.aload_n 0, 1) := by decide +kernel
theorem dX11_planks_200 : decode cX11_planks 200 = .ok (.getfield 43, 3) := by decide +kernel
theorem dX11_planks_203 : decode cX11_planks 203 = .ok (.iload 7, 2) := by decide +kernel
theorem dX11_planks_205 : decode cX11_planks 205 = .ok (.iaload, 1) := by decide +kernel
theorem dX11_planks_206 : decode cX11_planks 206 = .ok (.if_icmp .ge 15, 3) := by decide +kernel
theorem dX11_planks_209 : decode cX11_planks 209 = .ok (.aload_n 0, 1) := by decide +kernel
theorem dX11_planks_210 : decode cX11_planks 210 = .ok (.getfield 43, 3) := by decide +kernel
theorem dX11_planks_213 : decode cX11_planks 213 = .ok (.iload 7, 2) := by decide +kernel
theorem dX11_planks_215 : decode cX11_planks 215 = .ok (.iload 10, 2) := by decide +kernel
theorem dX11_planks_217 : decode cX11_planks 217 = .ok (.iastore, 1) := by decide +kernel
theorem dX11_planks_218 : decode cX11_planks 218 = .ok (.iconst 1, 1) := by decide +kernel
theorem dX11_planks_219 : decode cX11_planks 219 = .ok (.istore 6, 2) := by decide +kernel
theorem dX11_planks_221 : decode cX11_planks 221 = .ok (.iinc 8 1, 3) := by decide +kernel
theorem dX11_planks_224 : decode cX11_planks 224 = .ok (.goto (-83), 3) := by decide +kernel
theorem dX11_planks_227 : decode cX11_planks 227 = .ok (.iinc 7 1, 3) := by decide +kernel
theorem dX11_planks_230 : decode cX11_planks 230 = .ok (.goto (-99), 3) := by decide +kernel
theorem dX11_planks_233 : decode cX11_planks 233 = .ok (.goto (-113), 3) := by decide +kernel
theorem dX11_planks_236 : decode cX11_planks 236 = .ok (.aload_n 0, 1) := by decide +kernel
theorem dX11_planks_237 : decode cX11_planks 237 = .ok (.getfield 43, 3) := by decide +kernel
theorem dX11_planks_240 : decode cX11_planks 240 = .ok (.iload_n 2, 1) := by decide +kernel
theorem dX11_planks_241 : decode cX11_planks 241 = .ok (.iaload, 1) := by decide +kernel
theorem dX11_planks_242 : decode cX11_planks 242 = .ok (.sipush 999, 3) := by decide +kernel
theorem dX11_planks_245 : decode cX11_planks 245 = .ok (.if_icmp .lt 8, 3) := by decide +kernel
theorem dX11_planks_248 : decode cX11_planks 248 = .ok (.bipush (-4), 2) := by decide +kernel
theorem dX11_planks_250 : decode cX11_planks 250 = .ok (.goto 9, 3) := by decide +kernel
theorem dX11_planks_253 : decode cX11_planks 253 = .ok (.aload_n 0, 1) := by decide +kernel
theorem dX11_planks_254 : decode cX11_planks 254 = .ok (.getfield 43, 3) := by decide +kernel
theorem dX11_planks_257 : decode cX11_planks 257 = .ok (.iload_n 2, 1) := by decide +kernel
theorem dX11_planks_258 : decode cX11_planks 258 = .ok (.iaload, 1) := by decide +kernel
theorem dX11_planks_259 : decode cX11_planks 259 = .ok (.ireturn, 1) := by decide +kernel
set_option maxRecDepth 20000 in
theorem ggX11_slip_X11_in : GoodIn wsX11_slip wsX11_in := goodIn_r _ [7] (by decide +kernel) (by decide +kernel)
set_option maxRecDepth 20000 in
theorem gX11_slip_X11_in : GoodIn wsX11_slip (va_wsS RX11 73 yX11_in wsX11_in) := goodIn_app (goodIn_of _ (by decide +kernel)) ggX11_slip_X11_in
theorem dX11_slip_0 : decode cX11_slip 0 = .ok (.iload_n 1, 1) := by decide +kernel
theorem dX11_slip_1 : decode cX11_slip 1 = .ok (.i2l, 1) := by decide +kernel
theorem dX11_slip_2 : decode cX11_slip 2 = .ok (.lconst 0, 1) := by decide +kernel
theorem dX11_slip_3 : decode cX11_slip 3 = .ok (.ldc2_w 182, 3) := by decide +kernel
theorem dX11_slip_6 : decode cX11_slip 6 = .ok (.invokestatic 73, 3) := by decide +kernel
theorem dX11_slip_9 : decode cX11_slip 9 = .ok (.ifCond .eq 15, 3) := by decide +kernel
theorem dX11_slip_12 : decode cX11_slip 12 = .ok (.iload_n 2, 1) := by decide +kernel
theorem dX11_slip_13 : decode cX11_slip 13 = .ok (.i2l, 1) := by decide +kernel
theorem dX11_slip_14 : decode cX11_slip 14 = .ok (.lconst 0, 1) := by decide +kernel
theorem dX11_slip_15 : decode cX11_slip 15 = .ok (.ldc2_w 110, 3) := by decide +kernel
theorem dX11_slip_18 : decode cX11_slip 18 = .ok (.invokestatic 73, 3) := by decide +kernel
theorem dX11_slip_21 : decode cX11_slip 21 = .ok (.ifCond .ne 5, 3) := by decide +kernel
theorem dX11_slip_24 : decode cX11_slip 24 = .ok (.iconst (-1), 1) := by decide +kernel
theorem dX11_slip_25 : decode cX11_slip 25 = .ok (.ireturn, 1) := by decide +kernel
theorem dX11_slip_26 : decode cX11_slip 26 = .ok (.aload_n 0, 1) := by decide +kernel
theorem dX11_slip_27 : decode cX11_slip 27 = .ok (.getfield 28, 3) := by decide +kernel
theorem dX11_slip_30 : decode cX11_slip 30 = .ok (.iload_n 1, 1) := by decide +kernel
theorem dX11_slip_31 : decode cX11_slip 31 = .ok (.iaload, 1) := by decide +kernel
theorem dX11_slip_32 : decode cX11_slip 32 = .ok (.istore_n 3, 1) := by decide +kernel
theorem dX11_slip_33 : decode cX11_slip 33 = .ok (.aload_n 0, 1) := by decide +kernel
theorem dX11_slip_34 : decode cX11_slip 34 = .ok (.getfield 28, 3) := by decide +kernel
theorem dX11_slip_37 : decode cX11_slip 37 = .ok (.iload_n 1, 1) := by decide +kernel
theorem dX11_slip_38 : decode cX11_slip 38 = .ok (.iload_n 2, 1) := by decide +kernel
theorem dX11_slip_39 : decode cX11_slip 39 = .ok (.iastore, 1) := by decide +kernel
theorem dX11_slip_40 : decode cX11_slip 40 = .ok (.iload_n 3, 1) := by decide +kernel
theorem dX11_slip_41 : decode cX11_slip 41 = .ok (.ireturn, 1) := by decide +kernel
set_option maxRecDepth 20000 in
theorem ggX11_hear_X11_in : GoodIn wsX11_hear wsX11_in := goodIn_r _ [9] (by decide +kernel) (by decide +kernel)
set_option maxRecDepth 20000 in
theorem gX11_hear_X11_in : GoodIn wsX11_hear (va_wsS RX11 73 yX11_in wsX11_in) := goodIn_app (goodIn_of _ (by decide +kernel)) ggX11_hear_X11_in
set_option maxRecDepth 20000 in
theorem ggX11_hear_X11_isSquare : GoodIn wsX11_hear wsX11_isSquare := goodIn_r _ [12, 13, 6, 7, 8, 9] (by decide +kernel) (by decide +kernel)
set_option maxRecDepth 20000 in
theorem gX11_hear_X11_isSquare : GoodIn wsX11_hear (va_wsS RX11 77 yX11_isSquare wsX11_isSquare) := goodIn_app (goodIn_of _ (by decide +kernel)) ggX11_hear_X11_isSquare
theorem dX11_hear_0 : decode cX11_hear 0 = .ok (.iload_n 1, 1) := by decide +kernel
theorem dX11_hear_1 : decode cX11_hear 1 = .ok (.i2l, 1) := by decide +kernel
theorem dX11_hear_2 : decode cX11_hear 2 = .ok (.lconst 0, 1) := by decide +kernel
theorem dX11_hear_3 : decode cX11_hear 3 = .ok (.ldc2_w 182, 3) := by decide +kernel
theorem dX11_hear_6 : decode cX11_hear 6 = .ok (.invokestatic 73, 3) := by decide +kernel
theorem dX11_hear_9 : decode cX11_hear 9 = .ok (.ifCond .eq 25, 3) := by decide +kernel
theorem dX11_hear_12 : decode cX11_hear 12 = .ok (.iload_n 2, 1) := by decide +kernel
theorem dX11_hear_13 : decode cX11_hear 13 = .ok (.i2l, 1) := by decide +kernel
theorem dX11_hear_14 : decode cX11_hear 14 = .ok (.invokestatic 77, 3) := by decide +kernel
theorem dX11_hear_17 : decode cX11_hear 17 = .ok (.ifCond .eq 17, 3) := by decide +kernel
theorem dX11_hear_20 : decode cX11_hear 20 = .ok (.iload_n 3, 1) := by decide +kernel
theorem dX11_hear_21 : decode cX11_hear 21 = .ok (.i2l, 1) := by decide +kernel
theorem dX11_hear_22 : decode cX11_hear 22 = .ok (.ldc2_w 213, 3) := by decide +kernel
theorem dX11_hear_25 : decode cX11_hear 25 = .ok (.ldc2_w 215, 3) := by decide +kernel
theorem dX11_hear_28 : decode cX11_hear 28 = .ok (.invokestatic 73, 3) := by decide +kernel
theorem dX11_hear_31 : decode cX11_hear 31 = .ok (.ifCond .ne 5, 3) := by decide +kernel
theorem dX11_hear_34 : decode cX11_hear 34 = .ok (.iconst (-1), 1) := by decide +kernel
theorem dX11_hear_35 : decode cX11_hear 35 = .ok (.ireturn, 1) := by decide +kernel
theorem dX11_hear_36 : decode cX11_hear 36 = .ok (.aload_n 0, 1) := by decide +kernel
theorem dX11_hear_37 : decode cX11_hear 37 = .ok (.getfield 119, 3) := by decide +kernel
theorem dX11_hear_40 : decode cX11_hear 40 = .ok (.bipush 16, 2) := by decide +kernel
theorem dX11_hear_42 : decode cX11_hear 42 = .ok (.if_icmp .ne 6, 3) := by decide +kernel
theorem dX11_hear_45 : decode cX11_hear 45 = .ok (.bipush (-3), 2) := by decide +kernel
theorem dX11_hear_47 : decode cX11_hear 47 = .ok (.ireturn, 1) := by decide +kernel
theorem dX11_hear_48 : decode cX11_hear 48 = .ok (.aload_n 0, 1) := by decide +kernel
theorem dX11_hear_49 : decode cX11_hear 49 = .ok (.getfield 31, 3) := by decide +kernel
theorem dX11_hear_52 : decode cX11_hear 52 = .ok (.iconst 3, 1) := by decide +kernel
theorem dX11_hear_53 : decode cX11_hear 53 = .ok (.aload_n 0, 1) := by decide +kernel
theorem dX11_hear_54 : decode cX11_hear 54 = .ok (.getfield 119, 3) := by decide +kernel
theorem dX11_hear_57 : decode cX11_hear 57 = .ok (.imul, 1) := by decide +kernel
theorem dX11_hear_58 : decode cX11_hear 58 = .ok (.iload_n 1, 1) := by decide +kernel
theorem dX11_hear_59 : decode cX11_hear 59 = .ok (.iastore, 1) := by decide +kernel
theorem dX11_hear_60 : decode cX11_hear 60 = .ok (.aload_n 0, 1) := by decide +kernel
theorem dX11_hear_61 : decode cX11_hear 61 = .ok (.getfield 31, 3) := by decide +kernel
theorem dX11_hear_64 : decode cX11_hear 64 = .ok (.iconst 3, 1) := by decide +kernel
theorem dX11_hear_65 : decode cX11_hear 65 = .ok (.aload_n 0, 1) := by decide +kernel
theorem dX11_hear_66 : decode cX11_hear 66 = .ok (.getfield 119, 3) := by decide +kernel
theorem dX11_hear_69 : decode cX11_hear 69 = .ok (.imul, 1) := by decide +kernel
theorem dX11_hear_70 : decode cX11_hear 70 = .ok (.iconst 1, 1) := by decide +kernel
theorem dX11_hear_71 : decode cX11_hear 71 = .ok (.iadd, 1) := by decide +kernel
theorem dX11_hear_72 : decode cX11_hear 72 = .ok (.iload_n 2, 1) := by decide +kernel
theorem dX11_hear_73 : decode cX11_hear 73 = .ok (.iastore, 1) := by decide +kernel
theorem dX11_hear_74 : decode cX11_hear 74 = .ok (.aload_n 0, 1) := by decide +kernel
theorem dX11_hear_75 : decode cX11_hear 75 = .ok (.getfield 31, 3) := by decide +kernel
theorem dX11_hear_78 : decode cX11_hear 78 = .ok (.iconst 3, 1) := by decide +kernel
theorem dX11_hear_79 : decode cX11_hear 79 = .ok (.aload_n 0, 1) := by decide +kernel
theorem dX11_hear_80 : decode cX11_hear 80 = .ok (.getfield 119, 3) := by decide +kernel
theorem dX11_hear_83 : decode cX11_hear 83 = .ok (.imul, 1) := by decide +kernel
theorem dX11_hear_84 : decode cX11_hear 84 = .ok (.iconst 2, 1) := by decide +kernel
theorem dX11_hear_85 : decode cX11_hear 85 = .ok (.iadd, 1) := by decide +kernel
theorem dX11_hear_86 : decode cX11_hear 86 = .ok (.iload_n 3, 1) := by decide +kernel
theorem dX11_hear_87 : decode cX11_hear 87 = .ok (.iastore, 1) := by decide +kernel
theorem dX11_hear_88 : decode cX11_hear 88 = .ok (.aload_n 0, 1) := by decide +kernel
theorem dX11_hear_89 : decode cX11_hear 89 = .ok (.dup, 1) := by decide +kernel
theorem dX11_hear_90 : decode cX11_hear 90 = .ok (.getfield 119, 3) := by decide +kernel
theorem dX11_hear_93 : decode cX11_hear 93 = .ok (.iconst 1, 1) := by decide +kernel
theorem dX11_hear_94 : decode cX11_hear 94 = .ok (.iadd, 1) := by decide +kernel
theorem dX11_hear_95 : decode cX11_hear 95 = .ok (.putfield 119, 3) := by decide +kernel
theorem dX11_hear_98 : decode cX11_hear 98 = .ok (.aload_n 0, 1) := by decide +kernel
theorem dX11_hear_99 : decode cX11_hear 99 = .ok (.getfield 119, 3) := by decide +kernel
theorem dX11_hear_102 : decode cX11_hear 102 = .ok (.ireturn, 1) := by decide +kernel
theorem dX11_deaf_0 : decode cX11_deaf 0 = .ok (.aload_n 0, 1) := by decide +kernel
theorem dX11_deaf_1 : decode cX11_deaf 1 = .ok (.getfield 119, 3) := by decide +kernel
theorem dX11_deaf_4 : decode cX11_deaf 4 = .ok (.istore_n 1, 1) := by decide +kernel
theorem dX11_deaf_5 : decode cX11_deaf 5 = .ok (.aload_n 0, 1) := by decide +kernel
theorem dX11_deaf_6 : decode cX11_deaf 6 = .ok (.iconst 0, 1) := by decide +kernel
theorem dX11_deaf_7 : decode cX11_deaf 7 = .ok (.putfield 119, 3) := by decide +kernel
theorem dX11_deaf_10 : decode cX11_deaf 10 = .ok (.iload_n 1, 1) := by decide +kernel
theorem dX11_deaf_11 : decode cX11_deaf 11 = .ok (.ireturn, 1) := by decide +kernel
set_option maxRecDepth 20000 in
theorem ggX11_fits_X11_pitchOf : GoodIn wsX11_fits wsX11_pitchOf := goodIn_r _ [8] (by decide +kernel) (by decide +kernel)
set_option maxRecDepth 20000 in
theorem gX11_fits_X11_pitchOf : GoodIn wsX11_fits (va_wsS RX11 99 yX11_pitchOf wsX11_pitchOf) := goodIn_app (goodIn_of _ (by decide +kernel)) ggX11_fits_X11_pitchOf
set_option maxRecDepth 20000 in
theorem ggX11_fits_X11_in : GoodIn wsX11_fits wsX11_in := goodIn_r _ [11] (by decide +kernel) (by decide +kernel)
set_option maxRecDepth 20000 in
theorem gX11_fits_X11_in : GoodIn wsX11_fits (va_wsS RX11 73 yX11_in wsX11_in) := goodIn_app (goodIn_of _ (by decide +kernel)) ggX11_fits_X11_in
theorem dX11_fits_0 : decode cX11_fits 0 = .ok (.iconst 1, 1) := by decide +kernel
theorem dX11_fits_1 : decode cX11_fits 1 = .ok (.istore 4, 2) := by decide +kernel
theorem dX11_fits_3 : decode cX11_fits 3 = .ok (.iconst 0, 1) := by decide +kernel
theorem dX11_fits_4 : decode cX11_fits 4 = .ok (.istore 5, 2) := by decide +kernel
theorem dX11_fits_6 : decode cX11_fits 6 = .ok (.iload 5, 2) := by decide +kernel
theorem dX11_fits_8 : decode cX11_fits 8 = .ok (.aload_n 0, 1) := by decide +kernel
theorem dX11_fits_9 : decode cX11_fits 9 = .ok (.getfield 119, 3) := by decide +kernel
theorem dX11_fits_12 : decode cX11_fits 12 = .ok (.if_icmp .ge 110, 3) := by decide +kernel
theorem dX11_fits_15 : decode cX11_fits 15 = .ok (.aload_n 0, 1) := by decide +kernel
theorem dX11_fits_16 : decode cX11_fits 16 = .ok (.getfield 31, 3) := by decide +kernel
theorem dX11_fits_19 : decode cX11_fits 19 = .ok (.iconst 3, 1) := by decide +kernel
theorem dX11_fits_20 : decode cX11_fits 20 = .ok (.iload 5, 2) := by decide +kernel
theorem dX11_fits_22 : decode cX11_fits 22 = .ok (.imul, 1) := by decide +kernel
theorem dX11_fits_23 : decode cX11_fits 23 = .ok (.iaload, 1) := by decide +kernel
theorem dX11_fits_24 : decode cX11_fits 24 = .ok (.istore 6, 2) := by decide +kernel
theorem dX11_fits_26 : decode cX11_fits 26 = .ok (.aload_n 0, 1) := by decide +kernel
theorem dX11_fits_27 : decode cX11_fits 27 = .ok (.getfield 31, 3) := by decide +kernel
theorem dX11_fits_30 : decode cX11_fits 30 = .ok (.iconst 3, 1) := by decide +kernel
theorem dX11_fits_31 : decode cX11_fits 31 = .ok (.iload 5, 2) := by decide +kernel
theorem dX11_fits_33 : decode cX11_fits 33 = .ok (.imul, 1) := by decide +kernel
theorem dX11_fits_34 : decode cX11_fits 34 = .ok (.iconst 1, 1) := by decide +kernel
theorem dX11_fits_35 : decode cX11_fits 35 = .ok (.iadd, 1) := by decide +kernel
theorem dX11_fits_36 : decode cX11_fits 36 = .ok (.iaload, 1) := by decide +kernel
theorem dX11_fits_37 : decode cX11_fits 37 = .ok (.iload_n 2, 1) := by decide +kernel
theorem dX11_fits_38 : decode cX11_fits 38 = .ok (.if_icmp .ne 78, 3) := by decide +kernel
theorem dX11_fits_41 : decode cX11_fits 41 = .ok (.iload_n 1, 1) := by decide +kernel
theorem dX11_fits_42 : decode cX11_fits 42 = .ok (.iload 6, 2) := by decide +kernel
theorem dX11_fits_44 : decode cX11_fits 44 = .ok (.ishr, 1) := by decide +kernel
theorem dX11_fits_45 : decode cX11_fits 45 = .ok (.iconst 1, 1) := by decide +kernel
theorem dX11_fits_46 : decode cX11_fits 46 = .ok (.iand, 1) := by decide +kernel
theorem dX11_fits_47 : decode cX11_fits 47 = .ok (.iconst 1, 1) := by decide +kernel
theorem dX11_fits_48 : decode cX11_fits 48 = .ok (.if_icmp .ne 68, 3) := by decide +kernel
theorem dX11_fits_51 : decode cX11_fits 51 = .ok (.iload_n 3, 1) := by decide +kernel
theorem dX11_fits_52 : decode cX11_fits 52 = .ok (.aload_n 0, 1) := by decide +kernel
theorem dX11_fits_53 : decode cX11_fits 53 = .ok (.getfield 7, 3) := by decide +kernel
theorem dX11_fits_56 : decode cX11_fits 56 = .ok (.bipush 64, 2) := by decide +kernel
theorem dX11_fits_58 : decode cX11_fits 58 = .ok (.iload_n 2, 1) := by decide +kernel
theorem dX11_fits_59 : decode cX11_fits 59 = .ok (.iadd, 1) := by decide +kernel
theorem dX11_fits_60 : decode cX11_fits 60 = .ok (.iaload, 1) := by decide +kernel
theorem dX11_fits_61 : decode cX11_fits 61 = .ok (.invokestatic 99, 3) := by decide +kernel
theorem dX11_fits_64 : decode cX11_fits 64 = .ok (.aload_n 0, 1) := by decide +kernel
theorem dX11_fits_65 : decode cX11_fits 65 = .ok (.getfield 31, 3) := by decide +kernel
theorem dX11_fits_68 : decode cX11_fits 68 = .ok (.iconst 3, 1) := by decide +kernel
theorem dX11_fits_69 : decode cX11_fits 69 = .ok (.iload 5, 2) := by decide +kernel
theorem dX11_fits_71 : decode cX11_fits 71 = .ok (.imul, 1) := by decide +kernel
theorem dX11_fits_72 : decode cX11_fits 72 = .ok (.iconst 2, 1) := by decide +kernel
theorem dX11_fits_73 : decode cX11_fits 73 = .ok (.iadd, 1) := by decide +kernel
theorem dX11_fits_74 : decode cX11_fits 74 = .ok (.iaload, 1) := by decide +kernel
theorem dX11_fits_75 : decode cX11_fits 75 = .ok (.isub, 1) := by decide +kernel
theorem dX11_fits_76 : decode cX11_fits 76 = .ok (.istore 7, 2) := by decide +kernel
theorem dX11_fits_78 : decode cX11_fits 78 = .ok (.iload 4, 2) := by decide +kernel
theorem dX11_fits_80 : decode cX11_fits 80 = .ok (.ifCond .eq 33, 3) := by decide +kernel
theorem dX11_fits_83 : decode cX11_fits 83 = .ok (.iload 7, 2) := by decide +kernel
theorem dX11_fits_85 : decode cX11_fits 85 = .ok (.i2l, 1) := by decide +kernel
theorem dX11_fits_86 : decode cX11_fits 86 = .ok (.aload_n 0, 1) := by decide +kernel
theorem dX11_fits_87 : decode cX11_fits 87 = .ok (.getfield 28, 3) := by decide +kernel
theorem dX11_fits_90 : decode cX11_fits 90 = .ok (.iload 6, 2) := by decide +kernel
theorem dX11_fits_92 : decode cX11_fits 92 = .ok (.iaload, 1) := by decide +kernel
theorem dX11_fits_93 : decode cX11_fits 93 = .ok (.ineg, 1) := by decide +kernel
theorem dX11_fits_94 : decode cX11_fits 94 = .ok (.i2l, 1) := by decide +kernel
theorem dX11_fits_95 : decode cX11_fits 95 = .ok (.aload_n 0, 1) := by decide +kernel
theorem dX11_fits_96 : decode cX11_fits 96 = .ok (.getfield 28, 3) := by decide +kernel
theorem dX11_fits_99 : decode cX11_fits 99 = .ok (.iload 6, 2) := by decide +kernel
theorem dX11_fits_101 : decode cX11_fits 101 = .ok (.iaload, 1) := by decide +kernel
theorem dX11_fits_102 : decode cX11_fits 102 = .ok (.i2l, 1) := by decide +kernel
theorem dX11_fits_103 : decode cX11_fits 103 = .ok (.invokestatic 73, 3) := by decide +kernel
theorem dX11_fits_106 : decode cX11_fits 106 = .ok (.ifCond .eq 7, 3) := by decide +kernel
theorem dX11_fits_109 : decode cX11_fits 109 = .ok (.iconst 1, 1) := by decide +kernel
theorem dX11_fits_110 : decode cX11_fits 110 = .ok (.goto 4, 3) := by decide +kernel
theorem dX11_fits_113 : decode cX11_fits 113 = .ok (.iconst 0, 1) := by decide +kernel
theorem dX11_fits_114 : decode cX11_fits 114 = .ok (.istore 4, 2) := by decide +kernel
theorem dX11_fits_116 : decode cX11_fits 116 = .ok (.iinc 5 1, 3) := by decide +kernel
theorem dX11_fits_119 : decode cX11_fits 119 = .ok (.goto (-113), 3) := by decide +kernel
theorem dX11_fits_122 : decode cX11_fits 122 = .ok (.iload 4, 2) := by decide +kernel
theorem dX11_fits_124 : decode cX11_fits 124 = .ok (.ireturn, 1) := by decide +kernel
set_option maxRecDepth 20000 in
theorem ggX11_findEnds_X11_fits : GoodIn wsX11_findEnds wsX11_fits := goodIn_r _ [7, 8, 9, 10, 11, 12, 13, 6, 14, 15, 16, 17, 18, 19, 20, 21, 22, 23, 24, 25, 26, 27, 28, 29, 30, 31, 32, 33, 34, 35, 36, 37, 38, 39, 40, 41, 42, 43, 44, 45] (by decide +kernel) (by decide +kernel)
set_option maxRecDepth 20000 in
theorem gX11_findEnds_X11_fits : GoodIn wsX11_findEnds (wsV RX11 217 RX11 yX11_fits wsX11_fits) := goodIn_app (goodIn_of _ (by decide +kernel)) ggX11_findEnds_X11_fits
theorem dX11_findEnds_0 : decode cX11_findEnds 0 = .ok (.iconst 1, 1) := by decide +kernel
theorem dX11_findEnds_1 : decode cX11_findEnds 1 = .ok (.istore_n 2, 1) := by decide +kernel
theorem dX11_findEnds_2 : decode cX11_findEnds 2 = .ok (.iconst 0, 1) := by decide +kernel
theorem dX11_findEnds_3 : decode cX11_findEnds 3 = .ok (.istore_n 3, 1) := by decide +kernel
theorem dX11_findEnds_4 : decode cX11_findEnds 4 = .ok (.iload_n 3, 1) := by decide +kernel
theorem dX11_findEnds_5 : decode cX11_findEnds 5 = .ok (.bipush 64, 2) := by decide +kernel
theorem dX11_findEnds_7 : decode cX11_findEnds 7 = .ok (.if_icmp .ge 103, 3) := by decide +kernel
theorem dX11_findEnds_10 : decode cX11_findEnds 10 = .ok (.aload_n 0, 1) := by decide +kernel
theorem dX11_findEnds_11 : decode cX11_findEnds 11 = .ok (.getfield 49, 3) := by decide +kernel
theorem dX11_findEnds_14 : decode cX11_findEnds 14 = .ok (.iload_n 3, 1) := by decide +kernel
theorem dX11_findEnds_15 : decode cX11_findEnds 15 = .ok (.iconst 0, 1) := by decide +kernel
theorem dX11_findEnds_16 : decode cX11_findEnds 16 = .ok (.iastore, 1) := by decide +kernel
theorem dX11_findEnds_17 : decode cX11_findEnds 17 = .ok (.aload_n 0, 1) := by decide +kernel
theorem dX11_findEnds_18 : decode cX11_findEnds 18 = .ok (.getfield 52, 3) := by decide +kernel
theorem dX11_findEnds_21 : decode cX11_findEnds 21 = .ok (.iload_n 3, 1) := by decide +kernel
theorem dX11_findEnds_22 : decode cX11_findEnds 22 = .ok (.iconst 0, 1) := by decide +kernel
theorem dX11_findEnds_23 : decode cX11_findEnds 23 = .ok (.iastore, 1) := by decide +kernel
theorem dX11_findEnds_24 : decode cX11_findEnds 24 = .ok (.iconst 1, 1) := by decide +kernel
theorem dX11_findEnds_25 : decode cX11_findEnds 25 = .ok (.istore 4, 2) := by decide +kernel
theorem dX11_findEnds_27 : decode cX11_findEnds 27 = .ok (.iload 4, 2) := by decide +kernel
theorem dX11_findEnds_29 : decode cX11_findEnds 29 = .ok (.bipush 99, 2) := by decide +kernel
theorem dX11_findEnds_31 : decode cX11_findEnds 31 = .ok (.if_icmp .gt 54, 3) := by decide +kernel
theorem dX11_findEnds_34 : decode cX11_findEnds 34 = .ok (.aload_n 0, 1) := by decide +kernel
theorem dX11_findEnds_35 : decode cX11_findEnds 35 = .ok (.iload_n 1, 1) := by decide +kernel
theorem dX11_findEnds_36 : decode cX11_findEnds 36 = .ok (.iload_n 3, 1) := by decide +kernel
theorem dX11_findEnds_37 : decode cX11_findEnds 37 = .ok (.iload 4, 2) := by decide +kernel
theorem dX11_findEnds_39 : decode cX11_findEnds 39 = .ok (.invokevirtual 217, 3) := by decide +kernel
theorem dX11_findEnds_42 : decode cX11_findEnds 42 = .ok (.ifCond .eq 37, 3) := by decide +kernel
theorem dX11_findEnds_45 : decode cX11_findEnds 45 = .ok (.aload_n 0, 1) := by decide +kernel
theorem dX11_findEnds_46 : decode cX11_findEnds 46 = .ok (.getfield 49, 3) := by decide +kernel
theorem dX11_findEnds_49 : decode cX11_findEnds 49 = .ok (.iload_n 3, 1) := by decide +kernel
theorem dX11_findEnds_50 : decode cX11_findEnds 50 = .ok (.aload_n 0, 1) := by decide +kernel
theorem dX11_findEnds_51 : decode cX11_findEnds 51 = .ok (.getfield 49, 3) := by decide +kernel
theorem dX11_findEnds_54 : decode cX11_findEnds 54 = .ok (.iload_n 3, 1) := by decide +kernel
theorem dX11_findEnds_55 : decode cX11_findEnds 55 = .ok (.iaload, 1) := by decide +kernel
theorem dX11_findEnds_56 : decode cX11_findEnds 56 = .ok (.ifCond .ne 8, 3) := by decide +kernel
theorem dX11_findEnds_59 : decode cX11_findEnds 59 = .ok (.iload 4, 2) := by decide +kernel
theorem dX11_findEnds_61 : decode cX11_findEnds 61 = .ok (.goto 9, 3) := by decide +kernel
theorem dX11_findEnds_64 : decode cX11_findEnds 64 = .ok (.aload_n 0, 1) := by decide +kernel
theorem dX11_findEnds_65 : decode cX11_findEnds 65 = .ok (.getfield 49, 3) := by decide +kernel
theorem dX11_findEnds_68 : decode cX11_findEnds 68 = .ok (.iload_n 3, 1) := by decide +kernel
theorem dX11_findEnds_69 : decode cX11_findEnds 69 = .ok (.iaload, 1) := by decide +kernel
theorem dX11_findEnds_70 : decode cX11_findEnds 70 = .ok (.iastore, 1) := by decide +kernel
theorem dX11_findEnds_71 : decode cX11_findEnds 71 = .ok (.aload_n 0, 1) := by decide +kernel
theorem dX11_findEnds_72 : decode cX11_findEnds 72 = .ok (.getfield 52, 3) := by decide +kernel
theorem dX11_findEnds_75 : decode cX11_findEnds 75 = .ok (.iload_n 3, 1) := by decide +kernel
theorem dX11_findEnds_76 : decode cX11_findEnds 76 = .ok (.iload 4, 2) := by decide +kernel
theorem dX11_findEnds_78 : decode cX11_findEnds 78 = .ok (.iastore, 1) := by decide +kernel
theorem dX11_findEnds_79 : decode cX11_findEnds 79 = .ok (.iinc 4 1, 3) := by decide +kernel
theorem dX11_findEnds_82 : decode cX11_findEnds 82 = .ok (.goto (-55), 3) := by decide +kernel
theorem dX11_findEnds_85 : decode cX11_findEnds 85 = .ok (.iload_n 2, 1) := by decide +kernel
theorem dX11_findEnds_86 : decode cX11_findEnds 86 = .ok (.ifCond .eq 16, 3) := by decide +kernel
theorem dX11_findEnds_89 : decode cX11_findEnds 89 = .ok (.aload_n 0, 1) := by decide +kernel
theorem dX11_findEnds_90 : decode cX11_findEnds 90 = .ok (.getfield 49, 3) := by decide +kernel
theorem dX11_findEnds_93 : decode cX11_findEnds 93 = .ok (.iload_n 3, 1) := by decide +kernel
theorem dX11_findEnds_94 : decode cX11_findEnds 94 = .ok (.iaload, 1) := by decide +kernel
theorem dX11_findEnds_95 : decode cX11_findEnds 95 = .ok (.ifCond .le 7, 3) := by decide +kernel
theorem dX11_findEnds_98 : decode cX11_findEnds 98 = .ok (.iconst 1, 1) := by decide +kernel
theorem dX11_findEnds_99 : decode cX11_findEnds 99 = .ok (.goto 4, 3) := by decide +kernel
theorem dX11_findEnds_102 : decode cX11_findEnds 102 = .ok (.iconst 0, 1) := by decide +kernel
theorem dX11_findEnds_103 : decode cX11_findEnds 103 = .ok (.istore_n 2, 1) := by decide +kernel
theorem dX11_findEnds_104 : decode cX11_findEnds 104 = .ok (.iinc 3 1, 3) := by decide +kernel
theorem dX11_findEnds_107 : decode cX11_findEnds 107 = .ok (.goto (-103), 3) := by decide +kernel
theorem dX11_findEnds_110 : decode cX11_findEnds 110 = .ok (.iload_n 2, 1) := by decide +kernel
theorem dX11_findEnds_111 : decode cX11_findEnds 111 = .ok (.ireturn, 1) := by decide +kernel
theorem dX11_narrow_0 : decode cX11_narrow 0 = .ok (.aload_n 0, 1) := by decide +kernel
theorem dX11_narrow_1 : decode cX11_narrow 1 = .ok (.getfield 49, 3) := by decide +kernel
theorem dX11_narrow_4 : decode cX11_narrow 4 = .ok (.iload_n 2, 1) := by decide +kernel
theorem dX11_narrow_5 : decode cX11_narrow 5 = .ok (.iaload, 1) := by decide +kernel
theorem dX11_narrow_6 : decode cX11_narrow 6 = .ok (.aload_n 0, 1) := by decide +kernel
theorem dX11_narrow_7 : decode cX11_narrow 7 = .ok (.getfield 25, 3) := by decide +kernel
theorem dX11_narrow_10 : decode cX11_narrow 10 = .ok (.iconst 1, 1) := by decide +kernel
theorem dX11_narrow_11 : decode cX11_narrow 11 = .ok (.iaload, 1) := by decide +kernel
theorem dX11_narrow_12 : decode cX11_narrow 12 = .ok (.isub, 1) := by decide +kernel
theorem dX11_narrow_13 : decode cX11_narrow 13 = .ok (.istore_n 3, 1) := by decide +kernel
theorem dX11_narrow_14 : decode cX11_narrow 14 = .ok (.aload_n 0, 1) := by decide +kernel
theorem dX11_narrow_15 : decode cX11_narrow 15 = .ok (.getfield 52, 3) := by decide +kernel
theorem dX11_narrow_18 : decode cX11_narrow 18 = .ok (.iload_n 2, 1) := by decide +kernel
theorem dX11_narrow_19 : decode cX11_narrow 19 = .ok (.iaload, 1) := by decide +kernel
theorem dX11_narrow_20 : decode cX11_narrow 20 = .ok (.aload_n 0, 1) := by decide +kernel
theorem dX11_narrow_21 : decode cX11_narrow 21 = .ok (.getfield 25, 3) := by decide +kernel
theorem dX11_narrow_24 : decode cX11_narrow 24 = .ok (.iconst 1, 1) := by decide +kernel
theorem dX11_narrow_25 : decode cX11_narrow 25 = .ok (.iaload, 1) := by decide +kernel
theorem dX11_narrow_26 : decode cX11_narrow 26 = .ok (.iadd, 1) := by decide +kernel
theorem dX11_narrow_27 : decode cX11_narrow 27 = .ok (.istore 4, 2) := by decide +kernel
theorem dX11_narrow_29 : decode cX11_narrow 29 = .ok (.iload_n 3, 1) := by decide +kernel
theorem dX11_narrow_30 : decode cX11_narrow 30 = .ok (.aload_n 0, 1) := by decide +kernel
theorem dX11_narrow_31 : decode cX11_narrow 31 = .ok (.getfield 49, 3) := by decide +kernel
theorem dX11_narrow_34 : decode cX11_narrow 34 = .ok (.iload_n 1, 1) := by decide +kernel
theorem dX11_narrow_35 : decode cX11_narrow 35 = .ok (.iaload, 1) := by decide +kernel
theorem dX11_narrow_36 : decode cX11_narrow 36 = .ok (.if_icmp .gt 14, 3) := by decide +kernel
theorem dX11_narrow_39 : decode cX11_narrow 39 = .ok (.iload 4, 2) := by decide +kernel
theorem dX11_narrow_41 : decode cX11_narrow 41 = .ok (.aload_n 0, 1) := by decide +kernel
theorem dX11_narrow_42 : decode cX11_narrow 42 = .ok (.getfield 52, 3) := by decide +kernel
theorem dX11_narrow_45 : decode cX11_narrow 45 = .ok (.iload_n 1, 1) := by decide +kernel
theorem dX11_narrow_46 : decode cX11_narrow 46 = .ok (.iaload, 1) := by decide +kernel
theorem dX11_narrow_47 : decode cX11_narrow 47 = .ok (.if_icmp .ge 7, 3) := by decide +kernel
theorem dX11_narrow_50 : decode cX11_narrow 50 = .ok (.iconst 1, 1) := by decide +kernel
theorem dX11_narrow_51 : decode cX11_narrow 51 = .ok (.goto 4, 3) := by decide +kernel
theorem dX11_narrow_54 : decode cX11_narrow 54 = .ok (.iconst 0, 1) := by decide +kernel
theorem dX11_narrow_55 : decode cX11_narrow 55 = .ok (.istore 5, 2) := by decide +kernel
theorem dX11_narrow_57 : decode cX11_narrow 57 = .ok (.aload_n 0, 1) := by decide +kernel
theorem dX11_narrow_58 : decode cX11_narrow 58 = .ok (.getfield 49, 3) := by decide +kernel
theorem dX11_narrow_61 : decode cX11_narrow 61 = .ok (.iload_n 1, 1) := by decide +kernel
theorem dX11_narrow_62 : decode cX11_narrow 62 = .ok (.iload_n 3, 1) := by decide +kernel
theorem dX11_narrow_63 : decode cX11_narrow 63 = .ok (.aload_n 0, 1) := by decide +kernel
theorem dX11_narrow_64 : decode cX11_narrow 64 = .ok (.getfield 49, 3) := by decide +kernel
theorem dX11_narrow_67 : decode cX11_narrow 67 = .ok (.iload_n 1, 1) := by decide +kernel
theorem dX11_narrow_68 : decode cX11_narrow 68 = .ok (.iaload, 1) := by decide +kernel
theorem dX11_narrow_69 : decode cX11_narrow 69 = .ok (.if_icmp .le 7, 3) := by decide +kernel
theorem dX11_narrow_72 : decode cX11_narrow 72 = .ok (.iload_n 3, 1) := by decide +kernel
theorem dX11_narrow_73 : decode cX11_narrow 73 = .ok (.goto 9, 3) := by decide +kernel
theorem dX11_narrow_76 : decode cX11_narrow 76 = .ok (.aload_n 0, 1) := by decide +kernel
theorem dX11_narrow_77 : decode cX11_narrow 77 = .ok (.getfield 49, 3) := by decide +kernel
theorem dX11_narrow_80 : decode cX11_narrow 80 = .ok (.iload_n 1, 1) := by decide +kernel
theorem dX11_narrow_81 : decode cX11_narrow 81 = .ok (.iaload, 1) := by decide +kernel
theorem dX11_narrow_82 : decode cX11_narrow 82 = .ok (.iastore, 1) := by decide +kernel
theorem dX11_narrow_83 : decode cX11_narrow 83 = .ok (.aload_n 0, 1) := by decide +kernel
theorem dX11_narrow_84 : decode cX11_narrow 84 = .ok (.getfield 52, 3) := by decide +kernel
theorem dX11_narrow_87 : decode cX11_narrow 87 = .ok (.iload_n 1, 1) := by decide +kernel
theorem dX11_narrow_88 : decode cX11_narrow 88 = .ok (.iload 4, 2) := by decide +kernel
theorem dX11_narrow_90 : decode cX11_narrow 90 = .ok (.aload_n 0, 1) := by decide +kernel
theorem dX11_narrow_91 : decode cX11_narrow 91 = .ok (.getfield 52, 3) := by decide +kernel
theorem dX11_narrow_94 : decode cX11_narrow 94 = .ok (.iload_n 1, 1) := by decide +kernel
theorem dX11_narrow_95 : decode cX11_narrow 95 = .ok (.iaload, 1) := by decide +kernel
theorem dX11_narrow_96 : decode cX11_narrow 96 = .ok (.if_icmp .ge 8, 3) := by decide +kernel
theorem dX11_narrow_99 : decode cX11_narrow 99 = .ok (.iload 4, 2) := by decide +kernel
theorem dX11_narrow_101 : decode cX11_narrow 101 = .ok (.goto 9, 3) := by decide +kernel
theorem dX11_narrow_104 : decode cX11_narrow 104 = .ok (.aload_n 0, 1) := by decide +kernel
theorem dX11_narrow_105 : decode cX11_narrow 105 = .ok (.getfield 52, 3) := by decide +kernel
theorem dX11_narrow_108 : decode cX11_narrow 108 = .ok (.iload_n 1, 1) := by decide +kernel
theorem dX11_narrow_109 : decode cX11_narrow 109 = .ok (.iaload, 1) := by decide +kernel
theorem dX11_narrow_110 : decode cX11_narrow 110 = .ok (.iastore, 1) := by decide +kernel
theorem dX11_narrow_111 : decode cX11_narrow 111 = .ok (.iload 5, 2) := by decide +kernel
theorem dX11_narrow_113 : decode cX11_narrow 113 = .ok (.ireturn, 1) := by decide +kernel
set_option maxRecDepth 20000 in
theorem ggX11_findSpans_X11_findEnds : GoodIn wsX11_findSpans wsX11_findEnds := goodIn_r _ [7, 1, 2, 8, 9, 10, 6, 11, 12, 13, 14, 15, 16, 17, 18, 19, 20, 21, 30, 31, 32, 33, 34, 35, 36, 37, 38, 39, 40, 41, 42, 43, 44, 45, 46, 47, 48, 49, 50, 51, 52, 53, 54, 55, 56, 57] (by decide +kernel) (by decide +kernel)
set_option maxRecDepth 20000 in
theorem gX11_findSpans_X11_findEnds : GoodIn wsX11_findSpans (wsV RX11 221 RX11 yX11_findEnds wsX11_findEnds) := goodIn_app (goodIn_of _ (by decide +kernel)) ggX11_findSpans_X11_findEnds
set_option maxRecDepth 20000 in
theorem ggX11_findSpans_X11_nextTo : GoodIn wsX11_findSpans wsX11_nextTo := goodIn_r _ [24] (by decide +kernel) (by decide +kernel)
set_option maxRecDepth 20000 in
theorem gX11_findSpans_X11_nextTo : GoodIn wsX11_findSpans (va_wsS RX11 167 yX11_nextTo wsX11_nextTo) := goodIn_app (goodIn_of _ (by decide +kernel)) ggX11_findSpans_X11_nextTo
set_option maxRecDepth 20000 in
theorem ggX11_findSpans_X11_narrow : GoodIn wsX11_findSpans wsX11_narrow := goodIn_r _ [28, 1, 29, 2, 30, 31, 32, 33, 34, 35, 36, 37, 38, 39, 40, 41, 42, 43, 44, 45, 46, 47, 48, 49, 50, 51, 52, 53, 54, 55, 56, 57] (by decide +kernel) (by decide +kernel)
set_option maxRecDepth 20000 in
theorem gX11_findSpans_X11_narrow : GoodIn wsX11_findSpans (wsV RX11 224 RX11 yX11_narrow wsX11_narrow) := goodIn_app (goodIn_of _ (by decide +kernel)) ggX11_findSpans_X11_narrow
theorem dX11_findSpans_0 : decode cX11_findSpans 0 = .ok (.aload_n 0, 1) := by decide +kernel
theorem dX11_findSpans_1 : decode cX11_findSpans 1 = .ok (.iload_n 1, 1) := by decide +kernel
theorem dX11_findSpans_2 : decode cX11_findSpans 2 = .ok (.invokevirtual 221, 3) := by decide +kernel
theorem dX11_findSpans_5 : decode cX11_findSpans 5 = .ok (.ifCond .ne 5, 3) := by decide +kernel
theorem dX11_findSpans_8 : decode cX11_findSpans 8 = .ok (.iconst 0, 1) := by decide +kernel
theorem dX11_findSpans_9 : decode cX11_findSpans 9 = .ok (.ireturn, 1) := by decide +kernel
theorem dX11_findSpans_10 : decode cX11_findSpans 10 = .ok (.iconst 1, 1) := by decide +kernel
theorem dX11_findSpans_11 : decode cX11_findSpans 11 = .ok (.istore_n 2, 1) := by decide +kernel
theorem dX11_findSpans_12 : decode cX11_findSpans 12 = .ok (.iload_n 2, 1) := by decide +kernel
theorem dX11_findSpans_13 : decode cX11_findSpans 13 = .ok (.ifCond .eq 70, 3) := by decide +kernel
theorem dX11_findSpans_16 : decode cX11_findSpans 16 = .ok (.iconst 0, 1) := by decide +kernel
theorem dX11_findSpans_17 : decode cX11_findSpans 17 = .ok (.istore_n 2, 1) := by decide +kernel
theorem dX11_findSpans_18 : decode cX11_findSpans 18 = .ok (.iconst 0, 1) := by decide +kernel
theorem dX11_findSpans_19 : decode cX11_findSpans 19 = .ok (.istore_n 3, 1) := by decide +kernel
theorem dX11_findSpans_20 : decode cX11_findSpans 20 = .ok (.iload_n 3, 1) := by decide +kernel
theorem dX11_findSpans_21 : decode cX11_findSpans 21 = .ok (.bipush 64, 2) := by decide +kernel
theorem dX11_findSpans_23 : decode cX11_findSpans 23 = .ok (.if_icmp .ge 57, 3) := by decide +kernel
theorem dX11_findSpans_26 : decode cX11_findSpans 26 = .ok (.iconst 0, 1) := by decide +kernel
theorem dX11_findSpans_27 : decode cX11_findSpans 27 = .ok (.istore 4, 2) := by decide +kernel
theorem dX11_findSpans_29 : decode cX11_findSpans 29 = .ok (.iload 4, 2) := by decide +kernel
theorem dX11_findSpans_31 : decode cX11_findSpans 31 = .ok (.iconst 4, 1) := by decide +kernel
theorem dX11_findSpans_32 : decode cX11_findSpans 32 = .ok (.if_icmp .ge 42, 3) := by decide +kernel
theorem dX11_findSpans_35 : decode cX11_findSpans 35 = .ok (.iload_n 3, 1) := by decide +kernel
theorem dX11_findSpans_36 : decode cX11_findSpans 36 = .ok (.iload 4, 2) := by decide +kernel
theorem dX11_findSpans_38 : decode cX11_findSpans 38 = .ok (.invokestatic 167, 3) := by decide +kernel
theorem dX11_findSpans_41 : decode cX11_findSpans 41 = .ok (.istore 5, 2) := by decide +kernel
theorem dX11_findSpans_43 : decode cX11_findSpans 43 = .ok (.iload 5, 2) := by decide +kernel
theorem dX11_findSpans_45 : decode cX11_findSpans 45 = .ok (.ifCond .lt 13, 3) := by decide +kernel
theorem dX11_findSpans_48 : decode cX11_findSpans 48 = .ok (.aload_n 0, 1) := by decide +kernel
theorem dX11_findSpans_49 : decode cX11_findSpans 49 = .ok (.iload_n 3, 1) := by decide +kernel
theorem dX11_findSpans_50 : decode cX11_findSpans 50 = .ok (.iload 5, 2) := by decide +kernel
theorem dX11_findSpans_52 : decode cX11_findSpans 52 = .ok (.invokevirtual 224, 3) := by decide +kernel
theorem dX11_findSpans_55 : decode cX11_findSpans 55 = .ok (.ifCond .ne 7, 3) := by decide +kernel
theorem dX11_findSpans_58 : decode cX11_findSpans 58 = .ok (.iload_n 2, 1) := by decide +kernel
theorem dX11_findSpans_59 : decode cX11_findSpans 59 = .ok (.ifCond .eq 7, 3) := by decide +kernel
theorem dX11_findSpans_62 : decode cX11_findSpans 62 = .ok (.iconst 1, 1) := by decide +kernel
theorem dX11_findSpans_63 : decode cX11_findSpans 63 = .ok (.goto 4, 3) := by decide +kernel
theorem dX11_findSpans_66 : decode cX11_findSpans 66 = .ok (.iconst 0, 1) := by decide +kernel
theorem dX11_findSpans_67 : decode cX11_findSpans 67 = .ok (.istore_n 2, 1) := by decide +kernel
theorem dX11_findSpans_68 : decode cX11_findSpans 68 = .ok (.iinc 4 1, 3) := by decide +kernel
theorem dX11_findSpans_71 : decode cX11_findSpans 71 = .ok (.goto (-42), 3) := by decide +kernel
theorem dX11_findSpans_74 : decode cX11_findSpans 74 = .ok (.iinc 3 1, 3) := by decide +kernel
theorem dX11_findSpans_77 : decode cX11_findSpans 77 = .ok (.goto (-57), 3) := by decide +kernel
theorem dX11_findSpans_80 : decode cX11_findSpans 80 = .ok (.goto (-68), 3) := by decide +kernel
theorem dX11_findSpans_83 : decode cX11_findSpans 83 = .ok (.iconst 1, 1) := by decide +kernel
theorem dX11_findSpans_84 : decode cX11_findSpans 84 = .ok (.istore_n 3, 1) := by decide +kernel
theorem dX11_findSpans_85 : decode cX11_findSpans 85 = .ok (.iconst 0, 1) := by decide +kernel
theorem dX11_findSpans_86 : decode cX11_findSpans 86 = .ok (.istore 4, 2) := by decide +kernel
theorem dX11_findSpans_88 : decode cX11_findSpans 88 = .ok (.iload 4, 2) := by decide +kernel
theorem dX11_findSpans_90 : decode cX11_findSpans 90 = .ok (.bipush 64, 2) := by decide +kernel
theorem dX11_findSpans_92 : decode cX11_findSpans 92 = .ok (.if_icmp .ge 36, 3) := by decide +kernel
theorem dX11_findSpans_95 : decode cX11_findSpans 95 = .ok (.iload_n 3, 1) := by decide +kernel
theorem dX11_findSpans_96 : decode cX11_findSpans 96 = .ok (.ifCond .eq 24, 3) := by decide +kernel
theorem dX11_findSpans_99 : decode cX11_findSpans 99 = .ok (.aload_n 0, 1) := by decide +kernel
theorem dX11_findSpans_100 : decode cX11_findSpans 100 = .ok (.getfield 49, 3) := by decide +kernel
theorem dX11_findSpans_103 : decode cX11_findSpans 103 = .ok (.iload 4, 2) := by decide +kernel
theorem dX11_findSpans_105 : decode cX11_findSpans 105 = .ok (.iaload, 1) := by decide +kernel
theorem dX11_findSpans_106 : decode cX11_findSpans 106 = .ok (.aload_n 0, 1) := by decide +kernel
theorem dX11_findSpans_107 : decode cX11_findSpans 107 = .ok (.getfield 52, 3) := by decide +kernel
theorem dX11_findSpans_110 : decode cX11_findSpans 110 = .ok (.iload 4, 2) := by decide +kernel
theorem dX11_findSpans_112 : decode cX11_findSpans 112 = .ok (.iaload, 1) := by decide +kernel
theorem dX11_findSpans_113 : decode cX11_findSpans 113 = .ok (.if_icmp .gt 7, 3) := by decide +kernel
theorem dX11_findSpans_116 : decode cX11_findSpans 116 = .ok (.iconst 1, 1) := by decide +kernel
theorem dX11_findSpans_117 : decode cX11_findSpans 117 = .ok (.goto 4, 3) := by decide +kernel
theorem dX11_findSpans_120 : decode cX11_findSpans 120 = .ok (.iconst 0, 1) := by decide +kernel
theorem dX11_findSpans_121 : decode cX11_findSpans 121 = .ok (.istore_n 3, 1) := by decide +kernel
theorem dX11_findSpans_122 : decode cX11_findSpans 122 = .ok (.iinc 4 1, 3) := by decide +kernel
theorem dX11_findSpans_125 : decode cX11_findSpans 125 = .ok (.goto (-37), 3) := by decide +kernel
theorem dX11_findSpans_128 : decode cX11_findSpans 128 = .ok (.iload_n 3, 1) := by decide +kernel
theorem dX11_findSpans_129 : decode cX11_findSpans 129 = .ok (.ireturn, 1) := by decide +kernel
set_option maxRecDepth 20000 in
theorem ggX11_span_X11_in : GoodIn wsX11_span wsX11_in := goodIn_r _ [7] (by decide +kernel) (by decide +kernel)
set_option maxRecDepth 20000 in
theorem gX11_span_X11_in : GoodIn wsX11_span (va_wsS RX11 73 yX11_in wsX11_in) := goodIn_app (goodIn_of _ (by decide +kernel)) ggX11_span_X11_in
set_option maxRecDepth 20000 in
theorem ggX11_span_X11_isSquare : GoodIn wsX11_span wsX11_isSquare := goodIn_r _ [10, 11, 4, 5, 6, 7] (by decide +kernel) (by decide +kernel)
set_option maxRecDepth 20000 in
theorem gX11_span_X11_isSquare : GoodIn wsX11_span (va_wsS RX11 77 yX11_isSquare wsX11_isSquare) := goodIn_app (goodIn_of _ (by decide +kernel)) ggX11_span_X11_isSquare
set_option maxRecDepth 20000 in
theorem ggX11_span_X11_findSpans : GoodIn wsX11_span wsX11_findSpans := goodIn_r _ [15, 2, 3, 16, 17, 18, 6, 19, 20, 21, 22, 23, 24, 25, 26, 27, 28, 29, 30, 4, 5, 7, 31, 32, 33, 34, 35, 36, 37, 38, 39, 40, 41, 42, 43, 44, 45, 46, 47, 48, 49, 50, 51, 52, 53, 54, 55, 56, 57, 58, 59, 60, 61, 62, 63, 64, 65, 66] (by decide +kernel) (by decide +kernel)
set_option maxRecDepth 20000 in
theorem gX11_span_X11_findSpans : GoodIn wsX11_span (wsV RX11 229 RX11 yX11_findSpans wsX11_findSpans) := goodIn_app (goodIn_of _ (by decide +kernel)) ggX11_span_X11_findSpans
theorem dX11_span_0 : decode cX11_span 0 = .ok (.iload_n 1, 1) := by decide +kernel
theorem dX11_span_1 : decode cX11_span 1 = .ok (.i2l, 1) := by decide +kernel
theorem dX11_span_2 : decode cX11_span 2 = .ok (.lconst 0, 1) := by decide +kernel
theorem dX11_span_3 : decode cX11_span 3 = .ok (.ldc2_w 227, 3) := by decide +kernel
theorem dX11_span_6 : decode cX11_span 6 = .ok (.invokestatic 73, 3) := by decide +kernel
theorem dX11_span_9 : decode cX11_span 9 = .ok (.ifCond .eq 21, 3) := by decide +kernel
theorem dX11_span_12 : decode cX11_span 12 = .ok (.iload_n 2, 1) := by decide +kernel
theorem dX11_span_13 : decode cX11_span 13 = .ok (.i2l, 1) := by decide +kernel
theorem dX11_span_14 : decode cX11_span 14 = .ok (.invokestatic 77, 3) := by decide +kernel
theorem dX11_span_17 : decode cX11_span 17 = .ok (.ifCond .eq 13, 3) := by decide +kernel
theorem dX11_span_20 : decode cX11_span 20 = .ok (.iload_n 3, 1) := by decide +kernel
theorem dX11_span_21 : decode cX11_span 21 = .ok (.i2l, 1) := by decide +kernel
theorem dX11_span_22 : decode cX11_span 22 = .ok (.lconst 0, 1) := by decide +kernel
theorem dX11_span_23 : decode cX11_span 23 = .ok (.lconst 1, 1) := by decide +kernel
theorem dX11_span_24 : decode cX11_span 24 = .ok (.invokestatic 73, 3) := by decide +kernel
theorem dX11_span_27 : decode cX11_span 27 = .ok (.ifCond .ne 5, 3) := by decide +kernel
theorem dX11_span_30 : decode cX11_span 30 = .ok (.iconst (-1), 1) := by decide +kernel
theorem dX11_span_31 : decode cX11_span 31 = .ok (.ireturn, 1) := by decide +kernel
theorem dX11_span_32 : decode cX11_span 32 = .ok (.aload_n 0, 1) := by decide +kernel
theorem dX11_span_33 : decode cX11_span 33 = .ok (.iload_n 1, 1) := by decide +kernel
theorem dX11_span_34 : decode cX11_span 34 = .ok (.invokevirtual 229, 3) := by decide +kernel
theorem dX11_span_37 : decode cX11_span 37 = .ok (.ifCond .ne 8, 3) := by decide +kernel
theorem dX11_span_40 : decode cX11_span 40 = .ok (.bipush (-4), 2) := by decide +kernel
theorem dX11_span_42 : decode cX11_span 42 = .ok (.goto 22, 3) := by decide +kernel
theorem dX11_span_45 : decode cX11_span 45 = .ok (.iload_n 3, 1) := by decide +kernel
theorem dX11_span_46 : decode cX11_span 46 = .ok (.ifCond .ne 12, 3) := by decide +kernel
theorem dX11_span_49 : decode cX11_span 49 = .ok (.aload_n 0, 1) := by decide +kernel
theorem dX11_span_50 : decode cX11_span 50 = .ok (.getfield 49, 3) := by decide +kernel
theorem dX11_span_53 : decode cX11_span 53 = .ok (.iload_n 2, 1) := by decide +kernel
theorem dX11_span_54 : decode cX11_span 54 = .ok (.iaload, 1) := by decide +kernel
theorem dX11_span_55 : decode cX11_span 55 = .ok (.goto 9, 3) := by decide +kernel
theorem dX11_span_58 : decode cX11_span 58 = .ok (.aload_n 0, 1) := by decide +kernel
theorem dX11_span_59 : decode cX11_span 59 = .ok (.getfield 52, 3) := by decide +kernel
theorem dX11_span_62 : decode cX11_span 62 = .ok (.iload_n 2, 1) := by decide +kernel
theorem dX11_span_63 : decode cX11_span 63 = .ok (.iaload, 1) := by decide +kernel
theorem dX11_span_64 : decode cX11_span 64 = .ok (.ireturn, 1) := by decide +kernel
set_option maxRecDepth 20000 in
theorem ggX11_safe_X11_isRoad : GoodIn wsX11_safe wsX11_isRoad := goodIn_r _ [7, 8, 9, 10, 11, 6, 12, 13, 14, 15, 16] (by decide +kernel) (by decide +kernel)
set_option maxRecDepth 20000 in
theorem gX11_safe_X11_isRoad : GoodIn wsX11_safe (va_wsS RX11 199 yX11_isRoad wsX11_isRoad) := goodIn_app (goodIn_of _ (by decide +kernel)) ggX11_safe_X11_isRoad
set_option maxRecDepth 20000 in
theorem ggX11_safe_X11_findSpans : GoodIn wsX11_safe wsX11_findSpans := goodIn_r _ [20, 2, 21, 22, 23, 24, 6, 25, 26, 27, 28, 29, 30, 31, 3, 32, 33, 34, 35, 14, 15, 16, 36, 37, 38, 39, 40, 41, 42, 43, 68, 69, 70, 71, 72, 73, 74, 75, 76, 77, 78, 79, 80, 81, 82, 83, 84, 85, 86, 87, 88, 89, 90, 91, 92, 93, 94, 95] (by decide +kernel) (by decide +kernel)
set_option maxRecDepth 20000 in
theorem gX11_safe_X11_findSpans : GoodIn wsX11_safe (wsV RX11 229 RX11 yX11_findSpans wsX11_findSpans) := goodIn_app (goodIn_of _ (by decide +kernel)) ggX11_safe_X11_findSpans
set_option maxRecDepth 20000 in
theorem ggX11_safe_X11_bearsBy : GoodIn wsX11_safe wsX11_bearsBy := goodIn_r _ [46, 47, 48, 6, 49] (by decide +kernel) (by decide +kernel)
set_option maxRecDepth 20000 in
theorem gX11_safe_X11_bearsBy : GoodIn wsX11_safe (va_wsS RX11 90 yX11_bearsBy wsX11_bearsBy) := goodIn_app (goodIn_of _ (by decide +kernel)) ggX11_safe_X11_bearsBy
set_option maxRecDepth 20000 in
theorem ggX11_safe_X11_needBy : GoodIn wsX11_safe wsX11_needBy := goodIn_r _ [52] (by decide +kernel) (by decide +kernel)
set_option maxRecDepth 20000 in
theorem gX11_safe_X11_needBy : GoodIn wsX11_safe (va_wsS RX11 206 yX11_needBy wsX11_needBy) := goodIn_app (goodIn_of _ (by decide +kernel)) ggX11_safe_X11_needBy
set_option maxRecDepth 20000 in
theorem ggX11_safe_X11_roadSize : GoodIn wsX11_safe wsX11_roadSize := goodIn_r _ [56, 1, 57, 58, 59, 60, 61, 62, 6, 63, 64, 65, 66, 67, 36, 37, 38, 68, 69, 70, 71, 72, 73, 74, 75, 76, 77, 78, 79, 80, 81, 82, 83, 84, 85, 86, 87, 88, 89, 90, 91, 92, 93, 94, 95] (by decide +kernel) (by decide +kernel)
set_option maxRecDepth 20000 in
theorem gX11_safe_X11_roadSize : GoodIn wsX11_safe (wsV RX11 209 RX11 yX11_roadSize wsX11_roadSize) := goodIn_app (goodIn_of _ (by decide +kernel)) ggX11_safe_X11_roadSize
theorem dX11_safe_0 : decode cX11_safe 0 = .ok (.iload_n 1, 1) := by decide +kernel
theorem dX11_safe_1 : decode cX11_safe 1 = .ok (.iload_n 2, 1) := by decide +kernel
theorem dX11_safe_2 : decode cX11_safe 2 = .ok (.iload_n 3, 1) := by decide +kernel
theorem dX11_safe_3 : decode cX11_safe 3 = .ok (.iload 4, 2) := by decide +kernel
theorem dX11_safe_5 : decode cX11_safe 5 = .ok (.invokestatic 199, 3) := by decide +kernel
theorem dX11_safe_8 : decode cX11_safe 8 = .ok (.ifCond .ne 5, 3) := by decide +kernel
theorem dX11_safe_11 : decode cX11_safe 11 = .ok (.iconst (-1), 1) := by decide +kernel
theorem dX11_safe_12 : decode cX11_safe 12 = .ok (.ireturn, 1) := by decide +kernel
theorem dX11_safe_13 : decode cX11_safe 13 = .ok (.aload_n 0, 1) := by decide +kernel
theorem dX11_safe_14 : decode cX11_safe 14 = .ok (.bipush 15, 2) := by decide +kernel
theorem dX11_safe_16 : decode cX11_safe 16 = .ok (.invokevirtual 229, 3) := by decide +kernel
theorem dX11_safe_19 : decode cX11_safe 19 = .ok (.ifCond .ne 6, 3) := by decide +kernel
theorem dX11_safe_22 : decode cX11_safe 22 = .ok (.bipush (-2), 2) := by decide +kernel
theorem dX11_safe_24 : decode cX11_safe 24 = .ok (.ireturn, 1) := by decide +kernel
theorem dX11_safe_25 : decode cX11_safe 25 = .ok (.iconst 0, 1) := by decide +kernel
theorem dX11_safe_26 : decode cX11_safe 26 = .ok (.istore 5, 2) := by decide +kernel
theorem dX11_safe_28 : decode cX11_safe 28 = .ok (.iload 5, 2) := by decide +kernel
theorem dX11_safe_30 : decode cX11_safe 30 = .ok (.bipush 64, 2) := by decide +kernel
theorem dX11_safe_32 : decode cX11_safe 32 = .ok (.if_icmp .ge 51, 3) := by decide +kernel
theorem dX11_safe_35 : decode cX11_safe 35 = .ok (.aload_n 0, 1) := by decide +kernel
theorem dX11_safe_36 : decode cX11_safe 36 = .ok (.getfield 46, 3) := by decide +kernel
theorem dX11_safe_39 : decode cX11_safe 39 = .ok (.iload 5, 2) := by decide +kernel
theorem dX11_safe_41 : decode cX11_safe 41 = .ok (.aload_n 0, 1) := by decide +kernel
theorem dX11_safe_42 : decode cX11_safe 42 = .ok (.getfield 49, 3) := by decide +kernel
theorem dX11_safe_45 : decode cX11_safe 45 = .ok (.iload 5, 2) := by decide +kernel
theorem dX11_safe_47 : decode cX11_safe 47 = .ok (.iaload, 1) := by decide +kernel
theorem dX11_safe_48 : decode cX11_safe 48 = .ok (.aload_n 0, 1) := by decide +kernel
theorem dX11_safe_49 : decode cX11_safe 49 = .ok (.getfield 7, 3) := by decide +kernel
theorem dX11_safe_52 : decode cX11_safe 52 = .ok (.bipush 64, 2) := by decide +kernel
theorem dX11_safe_54 : decode cX11_safe 54 = .ok (.iload 5, 2) := by decide +kernel
theorem dX11_safe_56 : decode cX11_safe 56 = .ok (.iadd, 1) := by decide +kernel
theorem dX11_safe_57 : decode cX11_safe 57 = .ok (.iaload, 1) := by decide +kernel
theorem dX11_safe_58 : decode cX11_safe 58 = .ok (.invokestatic 90, 3) := by decide +kernel
theorem dX11_safe_61 : decode cX11_safe 61 = .ok (.bipush 60, 2) := by decide +kernel
theorem dX11_safe_63 : decode cX11_safe 63 = .ok (.aload_n 0, 1) := by decide +kernel
theorem dX11_safe_64 : decode cX11_safe 64 = .ok (.getfield 7, 3) := by decide +kernel
theorem dX11_safe_67 : decode cX11_safe 67 = .ok (.sipush 256, 3) := by decide +kernel
theorem dX11_safe_70 : decode cX11_safe 70 = .ok (.iload 5, 2) := by decide +kernel
theorem dX11_safe_72 : decode cX11_safe 72 = .ok (.iadd, 1) := by decide +kernel
theorem dX11_safe_73 : decode cX11_safe 73 = .ok (.iaload, 1) := by decide +kernel
theorem dX11_safe_74 : decode cX11_safe 74 = .ok (.imul, 1) := by decide +kernel
theorem dX11_safe_75 : decode cX11_safe 75 = .ok (.iadd, 1) := by decide +kernel
theorem dX11_safe_76 : decode cX11_safe 76 = .ok (.iastore, 1) := by decide +kernel
theorem dX11_safe_77 : decode cX11_safe 77 = .ok (.iinc 5 1, 3) := by decide +kernel
theorem dX11_safe_80 : decode cX11_safe 80 = .ok (.goto (-52), 3) := by decide +kernel
theorem dX11_safe_83 : decode cX11_safe 83 = .ok (.aload_n 0, 1) := by decide +kernel
theorem dX11_safe_84 : decode cX11_safe 84 = .ok (.iload_n 1, 1) := by decide +kernel
theorem dX11_safe_85 : decode cX11_safe 85 = .ok (.iload_n 2, 1) := by decide +kernel
theorem dX11_safe_86 : decode cX11_safe 86 = .ok (.iload_n 3, 1) := by decide +kernel
theorem dX11_safe_87 : decode cX11_safe 87 = .ok (.iload 4, 2) := by decide +kernel
theorem dX11_safe_89 : decode cX11_safe 89 = .ok (.invokestatic 206, 3) := by decide +kernel
theorem dX11_safe_92 : decode cX11_safe 92 = .ok (.invokevirtual 209, 3) := by decide +kernel
theorem dX11_safe_95 : decode cX11_safe 95 = .ok (.istore 5, 2) := by decide +kernel
theorem dX11_safe_97 : decode cX11_safe 97 = .ok (.iload 5, 2) := by decide +kernel
theorem dX11_safe_99 : decode cX11_safe 99 = .ok (.ifCond .ne 8, 3) := by decide +kernel
theorem dX11_safe_102 : decode cX11_safe 102 = .ok (.bipush (-4), 2) := by decide +kernel
theorem dX11_safe_104 : decode cX11_safe 104 = .ok (.goto 5, 3) := by decide +kernel
theorem dX11_safe_107 : decode cX11_safe 107 = .ok (.iload 5, 2) := by decide +kernel
theorem dX11_safe_109 : decode cX11_safe 109 = .ok (.ireturn, 1) := by decide +kernel
set_option maxRecDepth 20000 in
theorem ggX11_drum_X11_findSpans : GoodIn wsX11_drum wsX11_findSpans := goodIn_r _ [7, 2, 1, 8, 9, 10, 6, 11, 12, 13, 14, 15, 16, 17, 18, 19, 20, 21, 22, 23, 24, 25, 26, 27, 28, 29, 30, 31, 32, 33, 34, 35, 36, 37, 38, 39, 40, 41, 42, 43, 44, 45, 46, 47, 48, 49, 50, 51, 52, 53, 54, 55, 56, 57, 58, 59, 60, 61] (by decide +kernel) (by decide +kernel)
set_option maxRecDepth 20000 in
theorem gX11_drum_X11_findSpans : GoodIn wsX11_drum (wsV RX11 229 RX11 yX11_findSpans wsX11_findSpans) := goodIn_app (goodIn_of _ (by decide +kernel)) ggX11_drum_X11_findSpans
theorem dX11_drum_0 : decode cX11_drum 0 = .ok (.aload_n 0, 1) := by decide +kernel
theorem dX11_drum_1 : decode cX11_drum 1 = .ok (.bipush 15, 2) := by decide +kernel
theorem dX11_drum_3 : decode cX11_drum 3 = .ok (.invokevirtual 229, 3) := by decide +kernel
theorem dX11_drum_6 : decode cX11_drum 6 = .ok (.ifCond .ne 6, 3) := by decide +kernel
theorem dX11_drum_9 : decode cX11_drum 9 = .ok (.bipush (-4), 2) := by decide +kernel
theorem dX11_drum_11 : decode cX11_drum 11 = .ok (.ireturn, 1) := by decide +kernel
theorem dX11_drum_12 : decode cX11_drum 12 = .ok (.iconst 0, 1) := by decide +kernel
theorem dX11_drum_13 : decode cX11_drum 13 = .ok (.istore_n 1, 1) := by decide +kernel
theorem dX11_drum_14 : decode cX11_drum 14 = .ok (.iconst 1, 1) := by decide +kernel
theorem dX11_drum_15 : decode cX11_drum 15 = .ok (.istore_n 2, 1) := by decide +kernel
theorem dX11_drum_16 : decode cX11_drum 16 = .ok (.iload_n 2, 1) := by decide +kernel
theorem dX11_drum_17 : decode cX11_drum 17 = .ok (.bipush 64, 2) := by decide +kernel
theorem dX11_drum_19 : decode cX11_drum 19 = .ok (.if_icmp .ge 44, 3) := by decide +kernel
theorem dX11_drum_22 : decode cX11_drum 22 = .ok (.aload_n 0, 1) := by decide +kernel
theorem dX11_drum_23 : decode cX11_drum 23 = .ok (.getfield 52, 3) := by decide +kernel
theorem dX11_drum_26 : decode cX11_drum 26 = .ok (.iload_n 2, 1) := by decide +kernel
theorem dX11_drum_27 : decode cX11_drum 27 = .ok (.iaload, 1) := by decide +kernel
theorem dX11_drum_28 : decode cX11_drum 28 = .ok (.aload_n 0, 1) := by decide +kernel
theorem dX11_drum_29 : decode cX11_drum 29 = .ok (.getfield 49, 3) := by decide +kernel
theorem dX11_drum_32 : decode cX11_drum 32 = .ok (.iload_n 2, 1) := by decide +kernel
theorem dX11_drum_33 : decode cX11_drum 33 = .ok (.iaload, 1) := by decide +kernel
theorem dX11_drum_34 : decode cX11_drum 34 = .ok (.isub, 1) := by decide +kernel
theorem dX11_drum_35 : decode cX11_drum 35 = .ok (.aload_n 0, 1) := by decide +kernel
theorem dX11_drum_36 : decode cX11_drum 36 = .ok (.getfield 52, 3) := by decide +kernel
theorem dX11_drum_39 : decode cX11_drum 39 = .ok (.iload_n 1, 1) := by decide +kernel
theorem dX11_drum_40 : decode cX11_drum 40 = .ok (.iaload, 1) := by decide +kernel
theorem dX11_drum_41 : decode cX11_drum 41 = .ok (.aload_n 0, 1) := by decide +kernel
theorem dX11_drum_42 : decode cX11_drum 42 = .ok (.getfield 49, 3) := by decide +kernel
theorem dX11_drum_45 : decode cX11_drum 45 = .ok (.iload_n 1, 1) := by decide +kernel
theorem dX11_drum_46 : decode cX11_drum 46 = .ok (.iaload, 1) := by decide +kernel
theorem dX11_drum_47 : decode cX11_drum 47 = .ok (.isub, 1) := by decide +kernel
theorem dX11_drum_48 : decode cX11_drum 48 = .ok (.if_icmp .le 7, 3) := by decide +kernel
theorem dX11_drum_51 : decode cX11_drum 51 = .ok (.iload_n 2, 1) := by decide +kernel
theorem dX11_drum_52 : decode cX11_drum 52 = .ok (.goto 4, 3) := by decide +kernel
theorem dX11_drum_55 : decode cX11_drum 55 = .ok (.iload_n 1, 1) := by decide +kernel
theorem dX11_drum_56 : decode cX11_drum 56 = .ok (.istore_n 1, 1) := by decide +kernel
theorem dX11_drum_57 : decode cX11_drum 57 = .ok (.iinc 2 1, 3) := by decide +kernel
theorem dX11_drum_60 : decode cX11_drum 60 = .ok (.goto (-44), 3) := by decide +kernel
theorem dX11_drum_63 : decode cX11_drum 63 = .ok (.iload_n 1, 1) := by decide +kernel
theorem dX11_drum_64 : decode cX11_drum 64 = .ok (.ireturn, 1) := by decide +kernel
set_option maxRecDepth 20000 in
theorem ggX11_liars_X11_findSpans : GoodIn wsX11_liars wsX11_findSpans := goodIn_r _ [5, 6, 7, 8, 9, 10, 4, 11, 12, 13, 14, 15, 16, 17, 18, 19, 20, 21, 22, 23, 24, 25, 26, 27, 28, 29, 30, 31, 32, 33, 34, 35, 36, 37, 38, 39, 40, 41, 42, 43, 44, 45, 46, 47, 48, 49, 50, 51, 52, 53, 54, 55, 56, 57, 58, 59, 60, 61] (by decide +kernel) (by decide +kernel)
set_option maxRecDepth 20000 in
theorem gX11_liars_X11_findSpans : GoodIn wsX11_liars (wsV RX11 229 RX11 yX11_findSpans wsX11_findSpans) := goodIn_app (goodIn_of _ (by decide +kernel)) ggX11_liars_X11_findSpans
theorem dX11_liars_0 : decode cX11_liars 0 = .ok (.bipush (-4), 2) := by decide +kernel
theorem dX11_liars_2 : decode cX11_liars 2 = .ok (.istore_n 1, 1) := by decide +kernel
theorem dX11_liars_3 : decode cX11_liars 3 = .ok (.bipush 9, 2) := by decide +kernel
theorem dX11_liars_5 : decode cX11_liars 5 = .ok (.istore_n 2, 1) := by decide +kernel
theorem dX11_liars_6 : decode cX11_liars 6 = .ok (.iconst 0, 1) := by decide +kernel
theorem dX11_liars_7 : decode cX11_liars 7 = .ok (.istore_n 3, 1) := by decide +kernel
theorem dX11_liars_8 : decode cX11_liars 8 = .ok (.iload_n 3, 1) := by decide +kernel
theorem dX11_liars_9 : decode cX11_liars 9 = .ok (.bipush 16, 2) := by decide +kernel
theorem dX11_liars_11 : decode cX11_liars 11 = .ok (.if_icmp .ge 67, 3) := by decide +kernel
theorem dX11_liars_14 : decode cX11_liars 14 = .ok (.iload_n 3, 1) := by decide +kernel
theorem dX11_liars_15 : decode cX11_liars 15 = .ok (.iconst 1, 1) := by decide +kernel
theorem dX11_liars_16 : decode cX11_liars 16 = .ok (.iand, 1) := by decide +kernel
theorem dX11_liars_17 : decode cX11_liars 17 = .ok (.iload_n 3, 1) := by decide +kernel
theorem dX11_liars_18 : decode cX11_liars 18 = .ok (.iconst 1, 1) := by decide +kernel
theorem dX11_liars_19 : decode cX11_liars 19 = .ok (.ishr, 1) := by decide +kernel
theorem dX11_liars_20 : decode cX11_liars 20 = .ok (.iconst 1, 1) := by decide +kernel
theorem dX11_liars_21 : decode cX11_liars 21 = .ok (.iand, 1) := by decide +kernel
theorem dX11_liars_22 : decode cX11_liars 22 = .ok (.iadd, 1) := by decide +kernel
theorem dX11_liars_23 : decode cX11_liars 23 = .ok (.iload_n 3, 1) := by decide +kernel
theorem dX11_liars_24 : decode cX11_liars 24 = .ok (.iconst 2, 1) := by decide +kernel
theorem dX11_liars_25 : decode cX11_liars 25 = .ok (.ishr, 1) := by decide +kernel
theorem dX11_liars_26 : decode cX11_liars 26 = .ok (.iconst 1, 1) := by decide +kernel
theorem dX11_liars_27 : decode cX11_liars 27 = .ok (.iand, 1) := by decide +kernel
theorem dX11_liars_28 : decode cX11_liars 28 = .ok (.iadd, 1) := by decide +kernel
theorem dX11_liars_29 : decode cX11_liars 29 = .ok (.iload_n 3, 1) := by decide +kernel
theorem dX11_liars_30 : decode cX11_liars 30 = .ok (.iconst 3, 1) := by decide +kernel
theorem dX11_liars_31 : decode cX11_liars 31 = .ok (.ishr, 1) := by decide +kernel
theorem dX11_liars_32 : decode cX11_liars 32 = .ok (.iconst 1, 1) := by decide +kernel
theorem dX11_liars_33 : decode cX11_liars 33 = .ok (.iand, 1) := by decide +kernel
theorem dX11_liars_34 : decode cX11_liars 34 = .ok (.iadd, 1) := by decide +kernel
theorem dX11_liars_35 : decode cX11_liars 35 = .ok (.istore 4, 2) := by decide +kernel
theorem dX11_liars_37 : decode cX11_liars 37 = .ok (.iload 4, 2) := by decide +kernel
theorem dX11_liars_39 : decode cX11_liars 39 = .ok (.iload_n 2, 1) := by decide +kernel
theorem dX11_liars_40 : decode cX11_liars 40 = .ok (.if_icmp .gt 32, 3) := by decide +kernel
theorem dX11_liars_43 : decode cX11_liars 43 = .ok (.aload_n 0, 1) := by decide +kernel
theorem dX11_liars_44 : decode cX11_liars 44 = .ok (.bipush 15, 2) := by decide +kernel
theorem dX11_liars_46 : decode cX11_liars 46 = .ok (.iload_n 3, 1) := by decide +kernel
theorem dX11_liars_47 : decode cX11_liars 47 = .ok (.iconst (-1), 1) := by decide +kernel
theorem dX11_liars_48 : decode cX11_liars 48 = .ok (.ixor, 1) := by decide +kernel
theorem dX11_liars_49 : decode cX11_liars 49 = .ok (.iand, 1) := by decide +kernel
theorem dX11_liars_50 : decode cX11_liars 50 = .ok (.invokevirtual 229, 3) := by decide +kernel
theorem dX11_liars_53 : decode cX11_liars 53 = .ok (.ifCond .eq 19, 3) := by decide +kernel
theorem dX11_liars_56 : decode cX11_liars 56 = .ok (.iload 4, 2) := by decide +kernel
theorem dX11_liars_58 : decode cX11_liars 58 = .ok (.iload_n 2, 1) := by decide +kernel
theorem dX11_liars_59 : decode cX11_liars 59 = .ok (.if_icmp .ne 8, 3) := by decide +kernel
theorem dX11_liars_62 : decode cX11_liars 62 = .ok (.bipush (-4), 2) := by decide +kernel
theorem dX11_liars_64 : decode cX11_liars 64 = .ok (.goto 4, 3) := by decide +kernel
theorem dX11_liars_67 : decode cX11_liars 67 = .ok (.iload_n 3, 1) := by decide +kernel
theorem dX11_liars_68 : decode cX11_liars 68 = .ok (.istore_n 1, 1) := by decide +kernel
theorem dX11_liars_69 : decode cX11_liars 69 = .ok (.iload 4, 2) := by decide +kernel
theorem dX11_liars_71 : decode cX11_liars 71 = .ok (.istore_n 2, 1) := by decide +kernel
theorem dX11_liars_72 : decode cX11_liars 72 = .ok (.iinc 3 1, 3) := by decide +kernel
theorem dX11_liars_75 : decode cX11_liars 75 = .ok (.goto (-67), 3) := by decide +kernel
theorem dX11_liars_78 : decode cX11_liars 78 = .ok (.iload_n 1, 1) := by decide +kernel
theorem dX11_liars_79 : decode cX11_liars 79 = .ok (.ireturn, 1) := by decide +kernel
theorem dX11_carried_0 : decode cX11_carried 0 = .ok (.iload_n 1, 1) := by decide +kernel
theorem dX11_carried_1 : decode cX11_carried 1 = .ok (.sipush 320, 3) := by decide +kernel
theorem dX11_carried_4 : decode cX11_carried 4 = .ok (.if_icmp .ge 30, 3) := by decide +kernel
theorem dX11_carried_7 : decode cX11_carried 7 = .ok (.aload_n 0, 1) := by decide +kernel
theorem dX11_carried_8 : decode cX11_carried 8 = .ok (.getfield 7, 3) := by decide +kernel
theorem dX11_carried_11 : decode cX11_carried 11 = .ok (.iload_n 1, 1) := by decide +kernel
theorem dX11_carried_12 : decode cX11_carried 12 = .ok (.iload_n 3, 1) := by decide +kernel
theorem dX11_carried_13 : decode cX11_carried 13 = .ok (.ifCond .eq 7, 3) := by decide +kernel
theorem dX11_carried_16 : decode cX11_carried 16 = .ok (.iload_n 2, 1) := by decide +kernel
theorem dX11_carried_17 : decode cX11_carried 17 = .ok (.goto 9, 3) := by decide +kernel
theorem dX11_carried_20 : decode cX11_carried 20 = .ok (.aload_n 0, 1) := by decide +kernel
theorem dX11_carried_21 : decode cX11_carried 21 = .ok (.getfield 7, 3) := by decide +kernel
theorem dX11_carried_24 : decode cX11_carried 24 = .ok (.iload_n 1, 1) := by decide +kernel
theorem dX11_carried_25 : decode cX11_carried 25 = .ok (.iaload, 1) := by decide +kernel
theorem dX11_carried_26 : decode cX11_carried 26 = .ok (.iastore, 1) := by decide +kernel
theorem dX11_carried_27 : decode cX11_carried 27 = .ok (.aload_n 0, 1) := by decide +kernel
theorem dX11_carried_28 : decode cX11_carried 28 = .ok (.getfield 7, 3) := by decide +kernel
theorem dX11_carried_31 : decode cX11_carried 31 = .ok (.iload_n 1, 1) := by decide +kernel
theorem dX11_carried_32 : decode cX11_carried 32 = .ok (.iaload, 1) := by decide +kernel
theorem dX11_carried_33 : decode cX11_carried 33 = .ok (.ireturn, 1) := by decide +kernel
theorem dX11_carried_34 : decode cX11_carried 34 = .ok (.iload_n 1, 1) := by decide +kernel
theorem dX11_carried_35 : decode cX11_carried 35 = .ok (.sipush 320, 3) := by decide +kernel
theorem dX11_carried_38 : decode cX11_carried 38 = .ok (.isub, 1) := by decide +kernel
theorem dX11_carried_39 : decode cX11_carried 39 = .ok (.istore 4, 2) := by decide +kernel
theorem dX11_carried_41 : decode cX11_carried 41 = .ok (.iload 4, 2) := by decide +kernel
theorem dX11_carried_43 : decode cX11_carried 43 = .ok (.bipush 18, 2) := by decide +kernel
theorem dX11_carried_45 : decode cX11_carried 45 = .ok (.if_icmp .ge 146, 3) := by decide +kernel
theorem dX11_carried_48 : decode cX11_carried 48 = .ok (.iload 4, 2) := by decide +kernel
theorem dX11_carried_50 : decode cX11_carried 50 = .ok (.bipush 6, 2) := by decide +kernel
theorem dX11_carried_52 : decode cX11_carried 52 = .ok (.irem, 1) := by decide +kernel
theorem dX11_carried_53 : decode cX11_carried 53 = .ok (.istore 5, 2) := by decide +kernel
theorem dX11_carried_55 : decode cX11_carried 55 = .ok (.aload_n 0, 1) := by decide +kernel
theorem dX11_carried_56 : decode cX11_carried 56 = .ok (.getfield 13, 3) := by decide +kernel
theorem dX11_carried_59 : decode cX11_carried 59 = .ok (.iload 5, 2) := by decide +kernel
theorem dX11_carried_61 : decode cX11_carried 61 = .ok (.iload_n 3, 1) := by decide +kernel
theorem dX11_carried_62 : decode cX11_carried 62 = .ok (.ifCond .eq 14, 3) := by decide +kernel
theorem dX11_carried_65 : decode cX11_carried 65 = .ok (.iload 4, 2) := by decide +kernel
theorem dX11_carried_67 : decode cX11_carried 67 = .ok (.bipush 6, 2) := by decide +kernel
theorem dX11_carried_69 : decode cX11_carried 69 = .ok (.if_icmp .ge 7, 3) := by decide +kernel
theorem dX11_carried_72 : decode cX11_carried 72 = .ok (.iload_n 2, 1) := by decide +kernel
theorem dX11_carried_73 : decode cX11_carried 73 = .ok (.goto 10, 3) := by decide +kernel
theorem dX11_carried_76 : decode cX11_carried 76 = .ok (.aload_n 0, 1) := by decide +kernel
theorem dX11_carried_77 : decode cX11_carried 77 = .ok (.getfield 13, 3) := by decide +kernel
theorem dX11_carried_80 : decode cX11_carried 80 = .ok (.iload 5, 2) := by decide +kernel
theorem dX11_carried_82 : decode cX11_carried 82 = .ok (.iaload, 1) := by decide +kernel
theorem dX11_carried_83 : decode cX11_carried 83 = .ok (.iastore, 1) := by decide +kernel
theorem dX11_carried_84 : decode cX11_carried 84 = .ok (.aload_n 0, 1) := by decide +kernel
theorem dX11_carried_85 : decode cX11_carried 85 = .ok (.getfield 16, 3) := by decide +kernel
theorem dX11_carried_88 : decode cX11_carried 88 = .ok (.iload 5, 2) := by decide +kernel
theorem dX11_carried_90 : decode cX11_carried 90 = .ok (.iload_n 3, 1) := by decide +kernel
theorem dX11_carried_91 : decode cX11_carried 91 = .ok (.ifCond .eq 21, 3) := by decide +kernel
theorem dX11_carried_94 : decode cX11_carried 94 = .ok (.iload 4, 2) := by decide +kernel
theorem dX11_carried_96 : decode cX11_carried 96 = .ok (.bipush 6, 2) := by decide +kernel
theorem dX11_carried_98 : decode cX11_carried 98 = .ok (.if_icmp .lt 14, 3) := by decide +kernel
theorem dX11_carried_101 : decode cX11_carried 101 = .ok (.iload 4, 2) := by decide +kernel
theorem dX11_carried_103 : decode cX11_carried 103 = .ok (.bipush 12, 2) := by decide +kernel
theorem dX11_carried_105 : decode cX11_carried 105 = .ok (.if_icmp .ge 7, 3) := by decide +kernel
theorem dX11_carried_108 : decode cX11_carried 108 = .ok (.iload_n 2, 1) := by decide +kernel
theorem dX11_carried_109 : decode cX11_carried 109 = .ok (.goto 10, 3) := by decide +kernel
theorem dX11_carried_112 : decode cX11_carried 112 = .ok (.aload_n 0, 1) := by decide +kernel
theorem dX11_carried_113 : decode cX11_carried 113 = .ok (.getfield 16, 3) := by decide +kernel
theorem dX11_carried_116 : decode cX11_carried 116 = .ok (.iload 5, 2) := by decide +kernel
theorem dX11_carried_118 : decode cX11_carried 118 = .ok (.iaload, 1) := by decide +kernel
theorem dX11_carried_119 : decode cX11_carried 119 = .ok (.iastore, 1) := by decide +kernel
theorem dX11_carried_120 : decode cX11_carried 120 = .ok (.aload_n 0, 1) := by decide +kernel
theorem dX11_carried_121 : decode cX11_carried 121 = .ok (.getfield 19, 3) := by decide +kernel
theorem dX11_carried_124 : decode cX11_carried 124 = .ok (.iload 5, 2) := by decide +kernel
theorem dX11_carried_126 : decode cX11_carried 126 = .ok (.iload_n 3, 1) := by decide +kernel
theorem dX11_carried_127 : decode cX11_carried 127 = .ok (.ifCond .eq 14, 3) := by decide +kernel
theorem dX11_carried_130 : decode cX11_carried 130 = .ok (.iload 4, 2) := by decide +kernel
theorem dX11_carried_132 : decode cX11_carried 132 = .ok (.bipush 12, 2) := by decide +kernel
theorem dX11_carried_134 : decode cX11_carried 134 = .ok (.if_icmp .lt 7, 3) := by decide +kernel
theorem dX11_carried_137 : decode cX11_carried 137 = .ok (.iload_n 2, 1) := by decide +kernel
theorem dX11_carried_138 : decode cX11_carried 138 = .ok (.goto 10, 3) := by decide +kernel
theorem dX11_carried_141 : decode cX11_carried 141 = .ok (.aload_n 0, 1) := by decide +kernel
theorem dX11_carried_142 : decode cX11_carried 142 = .ok (.getfield 19, 3) := by decide +kernel
theorem dX11_carried_145 : decode cX11_carried 145 = .ok (.iload 5, 2) := by decide +kernel
theorem dX11_carried_147 : decode cX11_carried 147 = .ok (.iaload, 1) := by decide +kernel
theorem dX11_carried_148 : decode cX11_carried 148 = .ok (.iastore, 1) := by decide +kernel
theorem dX11_carried_149 : decode cX11_carried 149 = .ok (.iload 4, 2) := by decide +kernel
theorem dX11_carried_151 : decode cX11_carried 151 = .ok (.bipush 6, 2) := by decide +kernel
theorem dX11_carried_153 : decode cX11_carried 153 = .ok (.if_icmp .ge 13, 3) := by decide +kernel
theorem dX11_carried_156 : decode cX11_carried 156 = .ok (.aload_n 0, 1) := by decide +kernel
theorem dX11_carried_157 : decode cX11_carried 157 = .ok (.getfield 13, 3) := by decide +kernel
theorem dX11_carried_160 : decode cX11_carried 160 = .ok (.iload 5, 2) := by decide +kernel
theorem dX11_carried_162 : decode cX11_carried 162 = .ok (.iaload, 1) := by decide +kernel
theorem dX11_carried_163 : decode cX11_carried 163 = .ok (.goto 27, 3) := by decide +kernel
theorem dX11_carried_166 : decode cX11_carried 166 = .ok (.iload 4, 2) := by decide +kernel
theorem dX11_carried_168 : decode cX11_carried 168 = .ok (.bipush 12, 2) := by decide +kernel
theorem dX11_carried_170 : decode cX11_carried 170 = .ok (.if_icmp .ge 13, 3) := by decide +kernel
theorem dX11_carried_173 : decode cX11_carried 173 = .ok (.aload_n 0, 1) := by decide +kernel
theorem dX11_carried_174 : decode cX11_carried 174 = .ok (.getfield 16, 3) := by decide +kernel
theorem dX11_carried_177 : decode cX11_carried 177 = .ok (.iload 5, 2) := by decide +kernel
theorem dX11_carried_179 : decode cX11_carried 179 = .ok (.iaload, 1) := by decide +kernel
theorem dX11_carried_180 : decode cX11_carried 180 = .ok (.goto 10, 3) := by decide +kernel
theorem dX11_carried_183 : decode cX11_carried 183 = .ok (.aload_n 0, 1) := by decide +kernel
theorem dX11_carried_184 : decode cX11_carried 184 = .ok (.getfield 19, 3) := by decide +kernel
theorem dX11_carried_187 : decode cX11_carried 187 = .ok (.iload 5, 2) := by decide +kernel
theorem dX11_carried_189 : decode cX11_carried 189 = .ok (.iaload, 1) := by decide +kernel
theorem dX11_carried_190 : decode cX11_carried 190 = .ok (.ireturn, 1) := by decide +kernel
theorem dX11_carried_191 : decode cX11_carried 191 = .ok (.iinc 4 (-18), 3) := by decide +kernel
theorem dX11_carried_194 : decode cX11_carried 194 = .ok (.iload 4, 2) := by decide +kernel
theorem dX11_carried_196 : decode cX11_carried 196 = .ok (.bipush 24, 2) := by decide +kernel
theorem dX11_carried_198 : decode cX11_carried 198 = .ok (.if_icmp .ge 33, 3) := by decide +kernel
theorem dX11_carried_201 : decode cX11_carried 201 = .ok (.aload_n 0, 1) := by decide +kernel
theorem dX11_carried_202 : decode cX11_carried 202 = .ok (.getfield 22, 3) := by decide +kernel
theorem dX11_carried_205 : decode cX11_carried 205 = .ok (.iload 4, 2) := by decide +kernel
theorem dX11_carried_207 : decode cX11_carried 207 = .ok (.iload_n 3, 1) := by decide +kernel
theorem dX11_carried_208 : decode cX11_carried 208 = .ok (.ifCond .eq 7, 3) := by decide +kernel
theorem dX11_carried_211 : decode cX11_carried 211 = .ok (.iload_n 2, 1) := by decide +kernel
theorem dX11_carried_212 : decode cX11_carried 212 = .ok (.goto 10, 3) := by decide +kernel
theorem dX11_carried_215 : decode cX11_carried 215 = .ok (.aload_n 0, 1) := by decide +kernel
theorem dX11_carried_216 : decode cX11_carried 216 = .ok (.getfield 22, 3) := by decide +kernel
theorem dX11_carried_219 : decode cX11_carried 219 = .ok (.iload 4, 2) := by decide +kernel
theorem dX11_carried_221 : decode cX11_carried 221 = .ok (.iaload, 1) := by decide +kernel
theorem dX11_carried_222 : decode cX11_carried 222 = .ok (.iastore, 1) := by decide +kernel
theorem dX11_carried_223 : decode cX11_carried 223 = .ok (.aload_n 0, 1) := by decide +kernel
theorem dX11_carried_224 : decode cX11_carried 224 = .ok (.getfield 22, 3) := by decide +kernel
theorem dX11_carried_227 : decode cX11_carried 227 = .ok (.iload 4, 2) := by decide +kernel
theorem dX11_carried_229 : decode cX11_carried 229 = .ok (.iaload, 1) := by decide +kernel
theorem dX11_carried_230 : decode cX11_carried 230 = .ok (.ireturn, 1) := by decide +kernel
theorem dX11_carried_231 : decode cX11_carried 231 = .ok (.iinc 4 (-24), 3) := by decide +kernel
theorem dX11_carried_234 : decode cX11_carried 234 = .ok (.iload 4, 2) := by decide +kernel
theorem dX11_carried_236 : decode cX11_carried 236 = .ok (.iconst 2, 1) := by decide +kernel
theorem dX11_carried_237 : decode cX11_carried 237 = .ok (.if_icmp .ge 33, 3) := by decide +kernel
theorem dX11_carried_240 : decode cX11_carried 240 = .ok (.aload_n 0, 1) := by decide +kernel
theorem dX11_carried_241 : decode cX11_carried 241 = .ok (.getfield 25, 3) := by decide +kernel
theorem dX11_carried_244 : decode cX11_carried 244 = .ok (.iload 4, 2) := by decide +kernel
theorem dX11_carried_246 : decode cX11_carried 246 = .ok (.iload_n 3, 1) := by decide +kernel
theorem dX11_carried_247 : decode cX11_carried 247 = .ok (.ifCond .eq 7, 3) := by decide +kernel
theorem dX11_carried_250 : decode cX11_carried 250 = .ok (.iload_n 2, 1) := by decide +kernel
theorem dX11_carried_251 : decode cX11_carried 251 = .ok (.goto 10, 3) := by decide +kernel
theorem dX11_carried_254 : decode cX11_carried 254 = .ok (.aload_n 0, 1) := by decide +kernel
theorem dX11_carried_255 : decode cX11_carried 255 = .ok (.getfield 25, 3) := by decide +kernel
theorem dX11_carried_258 : decode cX11_carried 258 = .ok (.iload 4, 2) := by decide +kernel
theorem dX11_carried_260 : decode cX11_carried 260 = .ok (.iaload, 1) := by decide +kernel
theorem dX11_carried_261 : decode cX11_carried 261 = .ok (.iastore, 1) := by decide +kernel
theorem dX11_carried_262 : decode cX11_carried 262 = .ok (.aload_n 0, 1) := by decide +kernel
theorem dX11_carried_263 : decode cX11_carried 263 = .ok (.getfield 25, 3) := by decide +kernel
theorem dX11_carried_266 : decode cX11_carried 266 = .ok (.iload 4, 2) := by decide +kernel
theorem dX11_carried_268 : decode cX11_carried 268 = .ok (.iaload, 1) := by decide +kernel
theorem dX11_carried_269 : decode cX11_carried 269 = .ok (.ireturn, 1) := by decide +kernel
theorem dX11_carried_270 : decode cX11_carried 270 = .ok (.iinc 4 (-2), 3) := by decide +kernel
theorem dX11_carried_273 : decode cX11_carried 273 = .ok (.iload 4, 2) := by decide +kernel
theorem dX11_carried_275 : decode cX11_carried 275 = .ok (.iconst 4, 1) := by decide +kernel
theorem dX11_carried_276 : decode cX11_carried 276 = .ok (.if_icmp .ge 33, 3) := by decide +kernel
theorem dX11_carried_279 : decode cX11_carried 279 = .ok (.aload_n 0, 1) := by decide +kernel
theorem dX11_carried_280 : decode cX11_carried 280 = .ok (.getfield 28, 3) := by decide +kernel
theorem dX11_carried_283 : decode cX11_carried 283 = .ok (.iload 4, 2) := by decide +kernel
theorem dX11_carried_285 : decode cX11_carried 285 = .ok (.iload_n 3, 1) := by decide +kernel
theorem dX11_carried_286 : decode cX11_carried 286 = .ok (.ifCond .eq 7, 3) := by decide +kernel
theorem dX11_carried_289 : decode cX11_carried 289 = .ok (.iload_n 2, 1) := by decide +kernel
theorem dX11_carried_290 : decode cX11_carried 290 = .ok (.goto 10, 3) := by decide +kernel
theorem dX11_carried_293 : decode cX11_carried 293 = .ok (.aload_n 0, 1) := by decide +kernel
theorem dX11_carried_294 : decode cX11_carried 294 = .ok (.getfield 28, 3) := by decide +kernel
theorem dX11_carried_297 : decode cX11_carried 297 = .ok (.iload 4, 2) := by decide +kernel
theorem dX11_carried_299 : decode cX11_carried 299 = .ok (.iaload, 1) := by decide +kernel
theorem dX11_carried_300 : decode cX11_carried 300 = .ok (.iastore, 1) := by decide +kernel
theorem dX11_carried_301 : decode cX11_carried 301 = .ok (.aload_n 0, 1) := by decide +kernel
theorem dX11_carried_302 : decode cX11_carried 302 = .ok (.getfield 28, 3) := by decide +kernel
theorem dX11_carried_305 : decode cX11_carried 305 = .ok (.iload 4, 2) := by decide +kernel
theorem dX11_carried_307 : decode cX11_carried 307 = .ok (.iaload, 1) := by decide +kernel
theorem dX11_carried_308 : decode cX11_carried 308 = .ok (.ireturn, 1) := by decide +kernel
theorem dX11_carried_309 : decode cX11_carried 309 = .ok (.iinc 4 (-4), 3) := by decide +kernel
theorem dX11_carried_312 : decode cX11_carried 312 = .ok (.aload_n 0, 1) := by decide +kernel
theorem dX11_carried_313 : decode cX11_carried 313 = .ok (.getfield 31, 3) := by decide +kernel
theorem dX11_carried_316 : decode cX11_carried 316 = .ok (.iload 4, 2) := by decide +kernel
theorem dX11_carried_318 : decode cX11_carried 318 = .ok (.iload_n 3, 1) := by decide +kernel
theorem dX11_carried_319 : decode cX11_carried 319 = .ok (.ifCond .eq 7, 3) := by decide +kernel
theorem dX11_carried_322 : decode cX11_carried 322 = .ok (.iload_n 2, 1) := by decide +kernel
theorem dX11_carried_323 : decode cX11_carried 323 = .ok (.goto 10, 3) := by decide +kernel
theorem dX11_carried_326 : decode cX11_carried 326 = .ok (.aload_n 0, 1) := by decide +kernel
theorem dX11_carried_327 : decode cX11_carried 327 = .ok (.getfield 31, 3) := by decide +kernel
theorem dX11_carried_330 : decode cX11_carried 330 = .ok (.iload 4, 2) := by decide +kernel
theorem dX11_carried_332 : decode cX11_carried 332 = .ok (.iaload, 1) := by decide +kernel
theorem dX11_carried_333 : decode cX11_carried 333 = .ok (.iastore, 1) := by decide +kernel
theorem dX11_carried_334 : decode cX11_carried 334 = .ok (.aload_n 0, 1) := by decide +kernel
theorem dX11_carried_335 : decode cX11_carried 335 = .ok (.getfield 31, 3) := by decide +kernel
theorem dX11_carried_338 : decode cX11_carried 338 = .ok (.iload 4, 2) := by decide +kernel
theorem dX11_carried_340 : decode cX11_carried 340 = .ok (.iaload, 1) := by decide +kernel
theorem dX11_carried_341 : decode cX11_carried 341 = .ok (.ireturn, 1) := by decide +kernel
set_option maxRecDepth 20000 in
theorem ggX11_image_X11_carried : GoodIn wsX11_image wsX11_carried := goodIn_r _ [11, 12, 13, 14, 15, 16, 17, 18, 19, 20, 21, 22, 23, 24, 25, 26, 27, 28, 29, 30, 31, 32, 33, 34, 35, 36, 37, 38, 39, 40, 41, 42, 43, 44, 45, 46, 47] (by decide +kernel) (by decide +kernel)
set_option maxRecDepth 20000 in
theorem gX11_image_X11_carried : GoodIn wsX11_image (wsV RX11 232 RX11 yX11_carried wsX11_carried) := goodIn_app (goodIn_of _ (by decide +kernel)) ggX11_image_X11_carried
theorem dX11_image_0 : decode cX11_image 0 = .ok (.iconst 0, 1) := by decide +kernel
theorem dX11_image_1 : decode cX11_image 1 = .ok (.istore_n 1, 1) := by decide +kernel
theorem dX11_image_2 : decode cX11_image 2 = .ok (.iload_n 1, 1) := by decide +kernel
theorem dX11_image_3 : decode cX11_image 3 = .ok (.sipush 416, 3) := by decide +kernel
theorem dX11_image_6 : decode cX11_image 6 = .ok (.if_icmp .ge 22, 3) := by decide +kernel
theorem dX11_image_9 : decode cX11_image 9 = .ok (.aload_n 0, 1) := by decide +kernel
theorem dX11_image_10 : decode cX11_image 10 = .ok (.getfield 55, 3) := by decide +kernel
theorem dX11_image_13 : decode cX11_image 13 = .ok (.iload_n 1, 1) := by decide +kernel
theorem dX11_image_14 : decode cX11_image 14 = .ok (.aload_n 0, 1) := by decide +kernel
theorem dX11_image_15 : decode cX11_image 15 = .ok (.iload_n 1, 1) := by decide +kernel
theorem dX11_image_16 : decode cX11_image 16 = .ok (.iconst 0, 1) := by decide +kernel
theorem dX11_image_17 : decode cX11_image 17 = .ok (.iconst 0, 1) := by decide +kernel
theorem dX11_image_18 : decode cX11_image 18 = .ok (.invokevirtual 232, 3) := by decide +kernel
theorem dX11_image_21 : decode cX11_image 21 = .ok (.iastore, 1) := by decide +kernel
theorem dX11_image_22 : decode cX11_image 22 = .ok (.iinc 1 1, 3) := by decide +kernel
theorem dX11_image_25 : decode cX11_image 25 = .ok (.goto (-23), 3) := by decide +kernel
theorem dX11_image_28 : decode cX11_image 28 = .ok (.aload_n 0, 1) := by decide +kernel
theorem dX11_image_29 : decode cX11_image 29 = .ok (.getfield 58, 3) := by decide +kernel
theorem dX11_image_32 : decode cX11_image 32 = .ok (.iconst 0, 1) := by decide +kernel
theorem dX11_image_33 : decode cX11_image 33 = .ok (.aload_n 0, 1) := by decide +kernel
theorem dX11_image_34 : decode cX11_image 34 = .ok (.getfield 112, 3) := by decide +kernel
theorem dX11_image_37 : decode cX11_image 37 = .ok (.iastore, 1) := by decide +kernel
theorem dX11_image_38 : decode cX11_image 38 = .ok (.aload_n 0, 1) := by decide +kernel
theorem dX11_image_39 : decode cX11_image 39 = .ok (.getfield 58, 3) := by decide +kernel
theorem dX11_image_42 : decode cX11_image 42 = .ok (.iconst 1, 1) := by decide +kernel
theorem dX11_image_43 : decode cX11_image 43 = .ok (.aload_n 0, 1) := by decide +kernel
theorem dX11_image_44 : decode cX11_image 44 = .ok (.getfield 116, 3) := by decide +kernel
theorem dX11_image_47 : decode cX11_image 47 = .ok (.iastore, 1) := by decide +kernel
theorem dX11_image_48 : decode cX11_image 48 = .ok (.aload_n 0, 1) := by decide +kernel
theorem dX11_image_49 : decode cX11_image 49 = .ok (.getfield 58, 3) := by decide +kernel
theorem dX11_image_52 : decode cX11_image 52 = .ok (.iconst 2, 1) := by decide +kernel
theorem dX11_image_53 : decode cX11_image 53 = .ok (.aload_n 0, 1) := by decide +kernel
theorem dX11_image_54 : decode cX11_image 54 = .ok (.getfield 119, 3) := by decide +kernel
theorem dX11_image_57 : decode cX11_image 57 = .ok (.iastore, 1) := by decide +kernel
theorem dX11_image_58 : decode cX11_image 58 = .ok (.aload_n 0, 1) := by decide +kernel
theorem dX11_image_59 : decode cX11_image 59 = .ok (.iconst 1, 1) := by decide +kernel
theorem dX11_image_60 : decode cX11_image 60 = .ok (.putfield 236, 3) := by decide +kernel
theorem dX11_image_63 : decode cX11_image 63 = .ok (.iconst 1, 1) := by decide +kernel
theorem dX11_image_64 : decode cX11_image 64 = .ok (.ireturn, 1) := by decide +kernel
set_option maxRecDepth 20000 in
theorem ggX11_restore_X11_carried : GoodIn wsX11_restore wsX11_carried := goodIn_r _ [11, 12, 13, 14, 15, 16, 17, 18, 19, 20, 21, 22, 23, 24, 25, 26, 27, 28, 29, 30, 31, 32, 33, 34, 35, 36, 37, 38, 39, 40, 41, 42, 43, 44, 45, 46, 47] (by decide +kernel) (by decide +kernel)
set_option maxRecDepth 20000 in
theorem gX11_restore_X11_carried : GoodIn wsX11_restore (wsV RX11 232 RX11 yX11_carried wsX11_carried) := goodIn_app (goodIn_of _ (by decide +kernel)) ggX11_restore_X11_carried
theorem dX11_restore_0 : decode cX11_restore 0 = .ok (.aload_n 0, 1) := by decide +kernel
theorem dX11_restore_1 : decode cX11_restore 1 = .ok (.getfield 236, 3) := by decide +kernel
theorem dX11_restore_4 : decode cX11_restore 4 = .ok (.ifCond .ne 6, 3) := by decide +kernel
theorem dX11_restore_7 : decode cX11_restore 7 = .ok (.bipush (-4), 2) := by decide +kernel
theorem dX11_restore_9 : decode cX11_restore 9 = .ok (.ireturn, 1) := by decide +kernel
theorem dX11_restore_10 : decode cX11_restore 10 = .ok (.iconst 0, 1) := by decide +kernel
theorem dX11_restore_11 : decode cX11_restore 11 = .ok (.istore_n 1, 1) := by decide +kernel
theorem dX11_restore_12 : decode cX11_restore 12 = .ok (.iload_n 1, 1) := by decide +kernel
theorem dX11_restore_13 : decode cX11_restore 13 = .ok (.sipush 416, 3) := by decide +kernel
theorem dX11_restore_16 : decode cX11_restore 16 = .ok (.if_icmp .ge 22, 3) := by decide +kernel
theorem dX11_restore_19 : decode cX11_restore 19 = .ok (.aload_n 0, 1) := by decide +kernel
theorem dX11_restore_20 : decode cX11_restore 20 = .ok (.iload_n 1, 1) := by decide +kernel
theorem dX11_restore_21 : decode cX11_restore 21 = .ok (.aload_n 0, 1) := by decide +kernel
theorem dX11_restore_22 : decode cX11_restore 22 = .ok (.getfield 55, 3) := by decide +kernel
theorem dX11_restore_25 : decode cX11_restore 25 = .ok (.iload_n 1, 1) := by decide +kernel
theorem dX11_restore_26 : decode cX11_restore 26 = .ok (.iaload, 1) := by decide +kernel
theorem dX11_restore_27 : decode cX11_restore 27 = .ok (.iconst 1, 1) := by decide +kernel
theorem dX11_restore_28 : decode cX11_restore 28 = .ok (.invokevirtual 232, 3) := by decide +kernel
theorem dX11_restore_31 : decode cX11_restore 31 = .ok (.pop, 1) := by decide +kernel
theorem dX11_restore_32 : decode cX11_restore 32 = .ok (.iinc 1 1, 3) := by decide +kernel
theorem dX11_restore_35 : decode cX11_restore 35 = .ok (.goto (-23), 3) := by decide +kernel
theorem dX11_restore_38 : decode cX11_restore 38 = .ok (.aload_n 0, 1) := by decide +kernel
theorem dX11_restore_39 : decode cX11_restore 39 = .ok (.aload_n 0, 1) := by decide +kernel
theorem dX11_restore_40 : decode cX11_restore 40 = .ok (.getfield 58, 3) := by decide +kernel
theorem dX11_restore_43 : decode cX11_restore 43 = .ok (.iconst 0, 1) := by decide +kernel
theorem dX11_restore_44 : decode cX11_restore 44 = .ok (.iaload, 1) := by decide +kernel
theorem dX11_restore_45 : decode cX11_restore 45 = .ok (.putfield 112, 3) := by decide +kernel
theorem dX11_restore_48 : decode cX11_restore 48 = .ok (.aload_n 0, 1) := by decide +kernel
theorem dX11_restore_49 : decode cX11_restore 49 = .ok (.aload_n 0, 1) := by decide +kernel
theorem dX11_restore_50 : decode cX11_restore 50 = .ok (.getfield 58, 3) := by decide +kernel
theorem dX11_restore_53 : decode cX11_restore 53 = .ok (.iconst 1, 1) := by decide +kernel
theorem dX11_restore_54 : decode cX11_restore 54 = .ok (.iaload, 1) := by decide +kernel
theorem dX11_restore_55 : decode cX11_restore 55 = .ok (.putfield 116, 3) := by decide +kernel
theorem dX11_restore_58 : decode cX11_restore 58 = .ok (.aload_n 0, 1) := by decide +kernel
theorem dX11_restore_59 : decode cX11_restore 59 = .ok (.aload_n 0, 1) := by decide +kernel
theorem dX11_restore_60 : decode cX11_restore 60 = .ok (.getfield 58, 3) := by decide +kernel
theorem dX11_restore_63 : decode cX11_restore 63 = .ok (.iconst 2, 1) := by decide +kernel
theorem dX11_restore_64 : decode cX11_restore 64 = .ok (.iaload, 1) := by decide +kernel
theorem dX11_restore_65 : decode cX11_restore 65 = .ok (.putfield 119, 3) := by decide +kernel
theorem dX11_restore_68 : decode cX11_restore 68 = .ok (.iconst 1, 1) := by decide +kernel
theorem dX11_restore_69 : decode cX11_restore 69 = .ok (.ireturn, 1) := by decide +kernel
set_option maxRecDepth 20000 in
theorem ggX11_isSheet_X11_in : GoodIn wsX11_isSheet wsX11_in := goodIn_r _ [6] (by decide +kernel) (by decide +kernel)
set_option maxRecDepth 20000 in
theorem gX11_isSheet_X11_in : GoodIn wsX11_isSheet (va_wsS RX11 73 yX11_in wsX11_in) := goodIn_app (goodIn_of _ (by decide +kernel)) ggX11_isSheet_X11_in
theorem dX11_isSheet_0 : decode cX11_isSheet 0 = .ok (.iload_n 0, 1) := by decide +kernel
theorem dX11_isSheet_1 : decode cX11_isSheet 1 = .ok (.i2l, 1) := by decide +kernel
theorem dX11_isSheet_2 : decode cX11_isSheet 2 = .ok (.lconst 0, 1) := by decide +kernel
theorem dX11_isSheet_3 : decode cX11_isSheet 3 = .ok (.ldc2_w 182, 3) := by decide +kernel
theorem dX11_isSheet_6 : decode cX11_isSheet 6 = .ok (.invokestatic 73, 3) := by decide +kernel
theorem dX11_isSheet_9 : decode cX11_isSheet 9 = .ok (.ifCond .eq 19, 3) := by decide +kernel
theorem dX11_isSheet_12 : decode cX11_isSheet 12 = .ok (.iload_n 1, 1) := by decide +kernel
theorem dX11_isSheet_13 : decode cX11_isSheet 13 = .ok (.i2l, 1) := by decide +kernel
theorem dX11_isSheet_14 : decode cX11_isSheet 14 = .ok (.lconst 0, 1) := by decide +kernel
theorem dX11_isSheet_15 : decode cX11_isSheet 15 = .ok (.ldc2_w 240, 3) := by decide +kernel
theorem dX11_isSheet_18 : decode cX11_isSheet 18 = .ok (.invokestatic 73, 3) := by decide +kernel
theorem dX11_isSheet_21 : decode cX11_isSheet 21 = .ok (.ifCond .eq 7, 3) := by decide +kernel
theorem dX11_isSheet_24 : decode cX11_isSheet 24 = .ok (.iconst 1, 1) := by decide +kernel
theorem dX11_isSheet_25 : decode cX11_isSheet 25 = .ok (.goto 4, 3) := by decide +kernel
theorem dX11_isSheet_28 : decode cX11_isSheet 28 = .ok (.iconst 0, 1) := by decide +kernel
theorem dX11_isSheet_29 : decode cX11_isSheet 29 = .ok (.ireturn, 1) := by decide +kernel
set_option maxRecDepth 20000 in
theorem ggX11_sheet_X11_isSheet : GoodIn wsX11_sheet wsX11_isSheet := goodIn_r _ [7, 8, 9, 10, 11, 6, 12] (by decide +kernel) (by decide +kernel)
set_option maxRecDepth 20000 in
theorem gX11_sheet_X11_isSheet : GoodIn wsX11_sheet (va_wsS RX11 242 yX11_isSheet wsX11_isSheet) := goodIn_app (goodIn_of _ (by decide +kernel)) ggX11_sheet_X11_isSheet
theorem dX11_sheet_0 : decode cX11_sheet 0 = .ok (.iload_n 1, 1) := by decide +kernel
theorem dX11_sheet_1 : decode cX11_sheet 1 = .ok (.iload_n 2, 1) := by decide +kernel
theorem dX11_sheet_2 : decode cX11_sheet 2 = .ok (.invokestatic 242, 3) := by decide +kernel
theorem dX11_sheet_5 : decode cX11_sheet 5 = .ok (.ifCond .eq 9, 3) := by decide +kernel
theorem dX11_sheet_8 : decode cX11_sheet 8 = .ok (.iload_n 3, 1) := by decide +kernel
theorem dX11_sheet_9 : decode cX11_sheet 9 = .ok (.bipush 24, 2) := by decide +kernel
theorem dX11_sheet_11 : decode cX11_sheet 11 = .ok (.if_icmp .le 5, 3) := by decide +kernel
theorem dX11_sheet_14 : decode cX11_sheet 14 = .ok (.iconst (-1), 1) := by decide +kernel
theorem dX11_sheet_15 : decode cX11_sheet 15 = .ok (.ireturn, 1) := by decide +kernel
theorem dX11_sheet_16 : decode cX11_sheet 16 = .ok (.iload_n 3, 1) := by decide +kernel
theorem dX11_sheet_17 : decode cX11_sheet 17 = .ok (.ifCond .ge 6, 3) := by decide +kernel
theorem dX11_sheet_20 : decode cX11_sheet 20 = .ok (.bipush (-14), 2) := by decide +kernel
theorem dX11_sheet_22 : decode cX11_sheet 22 = .ok (.ireturn, 1) := by decide +kernel
theorem dX11_sheet_23 : decode cX11_sheet 23 = .ok (.aload_n 0, 1) := by decide +kernel
theorem dX11_sheet_24 : decode cX11_sheet 24 = .ok (.getfield 61, 3) := by decide +kernel
theorem dX11_sheet_27 : decode cX11_sheet 27 = .ok (.iload_n 1, 1) := by decide +kernel
theorem dX11_sheet_28 : decode cX11_sheet 28 = .ok (.iload_n 2, 1) := by decide +kernel
theorem dX11_sheet_29 : decode cX11_sheet 29 = .ok (.iastore, 1) := by decide +kernel
theorem dX11_sheet_30 : decode cX11_sheet 30 = .ok (.aload_n 0, 1) := by decide +kernel
theorem dX11_sheet_31 : decode cX11_sheet 31 = .ok (.getfield 64, 3) := by decide +kernel
theorem dX11_sheet_34 : decode cX11_sheet 34 = .ok (.iload_n 1, 1) := by decide +kernel
theorem dX11_sheet_35 : decode cX11_sheet 35 = .ok (.iload_n 3, 1) := by decide +kernel
theorem dX11_sheet_36 : decode cX11_sheet 36 = .ok (.iastore, 1) := by decide +kernel
theorem dX11_sheet_37 : decode cX11_sheet 37 = .ok (.iconst 0, 1) := by decide +kernel
theorem dX11_sheet_38 : decode cX11_sheet 38 = .ok (.istore 4, 2) := by decide +kernel
theorem dX11_sheet_40 : decode cX11_sheet 40 = .ok (.iload 4, 2) := by decide +kernel
theorem dX11_sheet_42 : decode cX11_sheet 42 = .ok (.bipush 24, 2) := by decide +kernel
theorem dX11_sheet_44 : decode cX11_sheet 44 = .ok (.if_icmp .ge 22, 3) := by decide +kernel
theorem dX11_sheet_47 : decode cX11_sheet 47 = .ok (.aload_n 0, 1) := by decide +kernel
theorem dX11_sheet_48 : decode cX11_sheet 48 = .ok (.getfield 67, 3) := by decide +kernel
theorem dX11_sheet_51 : decode cX11_sheet 51 = .ok (.bipush 24, 2) := by decide +kernel
theorem dX11_sheet_53 : decode cX11_sheet 53 = .ok (.iload_n 1, 1) := by decide +kernel
theorem dX11_sheet_54 : decode cX11_sheet 54 = .ok (.imul, 1) := by decide +kernel
theorem dX11_sheet_55 : decode cX11_sheet 55 = .ok (.iload 4, 2) := by decide +kernel
theorem dX11_sheet_57 : decode cX11_sheet 57 = .ok (.iadd, 1) := by decide +kernel
theorem dX11_sheet_58 : decode cX11_sheet 58 = .ok (.lconst 0, 1) := by decide +kernel
theorem dX11_sheet_59 : decode cX11_sheet 59 = .ok (.lastore, 1) := by decide +kernel
theorem dX11_sheet_60 : decode cX11_sheet 60 = .ok (.iinc 4 1, 3) := by decide +kernel
theorem dX11_sheet_63 : decode cX11_sheet 63 = .ok (.goto (-23), 3) := by decide +kernel
theorem dX11_sheet_66 : decode cX11_sheet 66 = .ok (.iload_n 3, 1) := by decide +kernel
theorem dX11_sheet_67 : decode cX11_sheet 67 = .ok (.ireturn, 1) := by decide +kernel
set_option maxRecDepth 20000 in
theorem ggX11_drop_X11_in : GoodIn wsX11_drop wsX11_in := goodIn_r _ [7] (by decide +kernel) (by decide +kernel)
set_option maxRecDepth 20000 in
theorem gX11_drop_X11_in : GoodIn wsX11_drop (va_wsS RX11 73 yX11_in wsX11_in) := goodIn_app (goodIn_of _ (by decide +kernel)) ggX11_drop_X11_in
theorem dX11_drop_0 : decode cX11_drop 0 = .ok (.iload_n 1, 1) := by decide +kernel
theorem dX11_drop_1 : decode cX11_drop 1 = .ok (.i2l, 1) := by decide +kernel
theorem dX11_drop_2 : decode cX11_drop 2 = .ok (.lconst 0, 1) := by decide +kernel
theorem dX11_drop_3 : decode cX11_drop 3 = .ok (.ldc2_w 182, 3) := by decide +kernel
theorem dX11_drop_6 : decode cX11_drop 6 = .ok (.invokestatic 73, 3) := by decide +kernel
theorem dX11_drop_9 : decode cX11_drop 9 = .ok (.ifCond .ne 5, 3) := by decide +kernel
theorem dX11_drop_12 : decode cX11_drop 12 = .ok (.iconst (-1), 1) := by decide +kernel
theorem dX11_drop_13 : decode cX11_drop 13 = .ok (.ireturn, 1) := by decide +kernel
theorem dX11_drop_14 : decode cX11_drop 14 = .ok (.aload_n 0, 1) := by decide +kernel
theorem dX11_drop_15 : decode cX11_drop 15 = .ok (.getfield 61, 3) := by decide +kernel
theorem dX11_drop_18 : decode cX11_drop 18 = .ok (.iload_n 1, 1) := by decide +kernel
theorem dX11_drop_19 : decode cX11_drop 19 = .ok (.iaload, 1) := by decide +kernel
theorem dX11_drop_20 : decode cX11_drop 20 = .ok (.ifCond .ge 6, 3) := by decide +kernel
theorem dX11_drop_23 : decode cX11_drop 23 = .ok (.bipush (-11), 2) := by decide +kernel
theorem dX11_drop_25 : decode cX11_drop 25 = .ok (.ireturn, 1) := by decide +kernel
theorem dX11_drop_26 : decode cX11_drop 26 = .ok (.aload_n 0, 1) := by decide +kernel
theorem dX11_drop_27 : decode cX11_drop 27 = .ok (.getfield 61, 3) := by decide +kernel
theorem dX11_drop_30 : decode cX11_drop 30 = .ok (.iload_n 1, 1) := by decide +kernel
theorem dX11_drop_31 : decode cX11_drop 31 = .ok (.iconst (-1), 1) := by decide +kernel
theorem dX11_drop_32 : decode cX11_drop 32 = .ok (.iastore, 1) := by decide +kernel
theorem dX11_drop_33 : decode cX11_drop 33 = .ok (.aload_n 0, 1) := by decide +kernel
theorem dX11_drop_34 : decode cX11_drop 34 = .ok (.getfield 64, 3) := by decide +kernel
theorem dX11_drop_37 : decode cX11_drop 37 = .ok (.iload_n 1, 1) := by decide +kernel
theorem dX11_drop_38 : decode cX11_drop 38 = .ok (.iaload, 1) := by decide +kernel
theorem dX11_drop_39 : decode cX11_drop 39 = .ok (.ireturn, 1) := by decide +kernel
set_option maxRecDepth 20000 in
theorem ggX11_lacksRow_X11_in : GoodIn wsX11_lacksRow wsX11_in := goodIn_r _ [6] (by decide +kernel) (by decide +kernel)
set_option maxRecDepth 20000 in
theorem gX11_lacksRow_X11_in : GoodIn wsX11_lacksRow (va_wsS RX11 73 yX11_in wsX11_in) := goodIn_app (goodIn_of _ (by decide +kernel)) ggX11_lacksRow_X11_in
theorem dX11_lacksRow_0 : decode cX11_lacksRow 0 = .ok (.aload_n 0, 1) := by decide +kernel
theorem dX11_lacksRow_1 : decode cX11_lacksRow 1 = .ok (.getfield 61, 3) := by decide +kernel
theorem dX11_lacksRow_4 : decode cX11_lacksRow 4 = .ok (.iload_n 1, 1) := by decide +kernel
theorem dX11_lacksRow_5 : decode cX11_lacksRow 5 = .ok (.iaload, 1) := by decide +kernel
theorem dX11_lacksRow_6 : decode cX11_lacksRow 6 = .ok (.iload_n 2, 1) := by decide +kernel
theorem dX11_lacksRow_7 : decode cX11_lacksRow 7 = .ok (.if_icmp .eq 20, 3) := by decide +kernel
theorem dX11_lacksRow_10 : decode cX11_lacksRow 10 = .ok (.aload_n 0, 1) := by decide +kernel
theorem dX11_lacksRow_11 : decode cX11_lacksRow 11 = .ok (.getfield 61, 3) := by decide +kernel
theorem dX11_lacksRow_14 : decode cX11_lacksRow 14 = .ok (.iload_n 1, 1) := by decide +kernel
theorem dX11_lacksRow_15 : decode cX11_lacksRow 15 = .ok (.iaload, 1) := by decide +kernel
theorem dX11_lacksRow_16 : decode cX11_lacksRow 16 = .ok (.ifCond .ge 8, 3) := by decide +kernel
theorem dX11_lacksRow_19 : decode cX11_lacksRow 19 = .ok (.bipush (-11), 2) := by decide +kernel
theorem dX11_lacksRow_21 : decode cX11_lacksRow 21 = .ok (.goto 5, 3) := by decide +kernel
theorem dX11_lacksRow_24 : decode cX11_lacksRow 24 = .ok (.bipush (-12), 2) := by decide +kernel
theorem dX11_lacksRow_26 : decode cX11_lacksRow 26 = .ok (.ireturn, 1) := by decide +kernel
theorem dX11_lacksRow_27 : decode cX11_lacksRow 27 = .ok (.iload_n 3, 1) := by decide +kernel
theorem dX11_lacksRow_28 : decode cX11_lacksRow 28 = .ok (.i2l, 1) := by decide +kernel
theorem dX11_lacksRow_29 : decode cX11_lacksRow 29 = .ok (.lconst 0, 1) := by decide +kernel
theorem dX11_lacksRow_30 : decode cX11_lacksRow 30 = .ok (.aload_n 0, 1) := by decide +kernel
theorem dX11_lacksRow_31 : decode cX11_lacksRow 31 = .ok (.getfield 64, 3) := by decide +kernel
theorem dX11_lacksRow_34 : decode cX11_lacksRow 34 = .ok (.iload_n 1, 1) := by decide +kernel
theorem dX11_lacksRow_35 : decode cX11_lacksRow 35 = .ok (.iaload, 1) := by decide +kernel
theorem dX11_lacksRow_36 : decode cX11_lacksRow 36 = .ok (.iload 4, 2) := by decide +kernel
theorem dX11_lacksRow_38 : decode cX11_lacksRow 38 = .ok (.isub, 1) := by decide +kernel
theorem dX11_lacksRow_39 : decode cX11_lacksRow 39 = .ok (.i2l, 1) := by decide +kernel
theorem dX11_lacksRow_40 : decode cX11_lacksRow 40 = .ok (.invokestatic 73, 3) := by decide +kernel
theorem dX11_lacksRow_43 : decode cX11_lacksRow 43 = .ok (.ifCond .eq 7, 3) := by decide +kernel
theorem dX11_lacksRow_46 : decode cX11_lacksRow 46 = .ok (.iconst 0, 1) := by decide +kernel
theorem dX11_lacksRow_47 : decode cX11_lacksRow 47 = .ok (.goto 5, 3) := by decide +kernel
theorem dX11_lacksRow_50 : decode cX11_lacksRow 50 = .ok (.bipush (-13), 2) := by decide +kernel
theorem dX11_lacksRow_52 : decode cX11_lacksRow 52 = .ok (.ireturn, 1) := by decide +kernel
set_option maxRecDepth 20000 in
theorem ggX11_item_X11_isSheet : GoodIn wsX11_item wsX11_isSheet := goodIn_r _ [5, 6, 7, 8, 9, 4, 10] (by decide +kernel) (by decide +kernel)
set_option maxRecDepth 20000 in
theorem gX11_item_X11_isSheet : GoodIn wsX11_item (va_wsS RX11 242 yX11_isSheet wsX11_isSheet) := goodIn_app (goodIn_of _ (by decide +kernel)) ggX11_item_X11_isSheet
set_option maxRecDepth 20000 in
theorem ggX11_item_X11_lacksRow : GoodIn wsX11_item wsX11_lacksRow := goodIn_r _ [14, 15, 16, 8, 9, 4, 10, 17, 18, 19, 20, 21, 22, 23, 24, 25, 26, 27, 28, 29, 30, 31, 32, 33, 34, 35, 36, 37, 38, 39, 40, 41, 42, 43, 44] (by decide +kernel) (by decide +kernel)
set_option maxRecDepth 20000 in
theorem gX11_item_X11_lacksRow : GoodIn wsX11_item (wsV RX11 245 RX11 yX11_lacksRow wsX11_lacksRow) := goodIn_app (goodIn_of _ (by decide +kernel)) ggX11_item_X11_lacksRow
theorem dX11_item_0 : decode cX11_item 0 = .ok (.iload_n 1, 1) := by decide +kernel
theorem dX11_item_1 : decode cX11_item 1 = .ok (.iload_n 2, 1) := by decide +kernel
theorem dX11_item_2 : decode cX11_item 2 = .ok (.invokestatic 242, 3) := by decide +kernel
theorem dX11_item_5 : decode cX11_item 5 = .ok (.ifCond .ne 5, 3) := by decide +kernel
theorem dX11_item_8 : decode cX11_item 8 = .ok (.iconst (-1), 1) := by decide +kernel
theorem dX11_item_9 : decode cX11_item 9 = .ok (.ireturn, 1) := by decide +kernel
theorem dX11_item_10 : decode cX11_item 10 = .ok (.aload_n 0, 1) := by decide +kernel
theorem dX11_item_11 : decode cX11_item 11 = .ok (.iload_n 1, 1) := by decide +kernel
theorem dX11_item_12 : decode cX11_item 12 = .ok (.iload_n 2, 1) := by decide +kernel
theorem dX11_item_13 : decode cX11_item 13 = .ok (.iload_n 3, 1) := by decide +kernel
theorem dX11_item_14 : decode cX11_item 14 = .ok (.iconst 1, 1) := by decide +kernel
theorem dX11_item_15 : decode cX11_item 15 = .ok (.invokevirtual 245, 3) := by decide +kernel
theorem dX11_item_18 : decode cX11_item 18 = .ok (.istore 6, 2) := by decide +kernel
theorem dX11_item_20 : decode cX11_item 20 = .ok (.iload 6, 2) := by decide +kernel
theorem dX11_item_22 : decode cX11_item 22 = .ok (.ifCond .ge 6, 3) := by decide +kernel
theorem dX11_item_25 : decode cX11_item 25 = .ok (.iload 6, 2) := by decide +kernel
theorem dX11_item_27 : decode cX11_item 27 = .ok (.ireturn, 1) := by decide +kernel
theorem dX11_item_28 : decode cX11_item 28 = .ok (.aload_n 0, 1) := by decide +kernel
theorem dX11_item_29 : decode cX11_item 29 = .ok (.getfield 67, 3) := by decide +kernel
theorem dX11_item_32 : decode cX11_item 32 = .ok (.bipush 24, 2) := by decide +kernel
theorem dX11_item_34 : decode cX11_item 34 = .ok (.iload_n 1, 1) := by decide +kernel
theorem dX11_item_35 : decode cX11_item 35 = .ok (.imul, 1) := by decide +kernel
theorem dX11_item_36 : decode cX11_item 36 = .ok (.iload_n 3, 1) := by decide +kernel
theorem dX11_item_37 : decode cX11_item 37 = .ok (.iadd, 1) := by decide +kernel
theorem dX11_item_38 : decode cX11_item 38 = .ok (.iload_n 2, 1) := by decide +kernel
theorem dX11_item_39 : decode cX11_item 39 = .ok (.ifCond .ne 18, 3) := by decide +kernel
theorem dX11_item_42 : decode cX11_item 42 = .ok (.lload 4, 2) := by decide +kernel
theorem dX11_item_44 : decode cX11_item 44 = .ok (.lconst 0, 1) := by decide +kernel
theorem dX11_item_45 : decode cX11_item 45 = .ok (.lcmp, 1) := by decide +kernel
theorem dX11_item_46 : decode cX11_item 46 = .ok (.ifCond .ne 7, 3) := by decide +kernel
theorem dX11_item_49 : decode cX11_item 49 = .ok (.lconst 0, 1) := by decide +kernel
theorem dX11_item_50 : decode cX11_item 50 = .ok (.goto 25, 3) := by decide +kernel
theorem dX11_item_53 : decode cX11_item 53 = .ok (.lconst 1, 1) := by decide +kernel
theorem dX11_item_54 : decode cX11_item 54 = .ok (.goto 21, 3) := by decide +kernel
theorem dX11_item_57 : decode cX11_item 57 = .ok (.iload_n 2, 1) := by decide +kernel
theorem dX11_item_58 : decode cX11_item 58 = .ok (.iconst 1, 1) := by decide +kernel
theorem dX11_item_59 : decode cX11_item 59 = .ok (.if_icmp .ne 14, 3) := by decide +kernel
theorem dX11_item_62 : decode cX11_item 62 = .ok (.lload 4, 2) := by decide +kernel
theorem dX11_item_64 : decode cX11_item 64 = .ok (.bipush 56, 2) := by decide +kernel
theorem dX11_item_66 : decode cX11_item 66 = .ok (.lshl, 1) := by decide +kernel
theorem dX11_item_67 : decode cX11_item 67 = .ok (.bipush 56, 2) := by decide +kernel
theorem dX11_item_69 : decode cX11_item 69 = .ok (.lshr, 1) := by decide +kernel
theorem dX11_item_70 : decode cX11_item 70 = .ok (.goto 5, 3) := by decide +kernel
theorem dX11_item_73 : decode cX11_item 73 = .ok (.lload 4, 2) := by decide +kernel
theorem dX11_item_75 : decode cX11_item 75 = .ok (.lastore, 1) := by decide +kernel
theorem dX11_item_76 : decode cX11_item 76 = .ok (.iconst 1, 1) := by decide +kernel
theorem dX11_item_77 : decode cX11_item 77 = .ok (.ireturn, 1) := by decide +kernel
set_option maxRecDepth 20000 in
theorem ggX11_go_X11_in : GoodIn wsX11_go wsX11_in := goodIn_r _ [10] (by decide +kernel) (by decide +kernel)
set_option maxRecDepth 20000 in
theorem gX11_go_X11_in : GoodIn wsX11_go (va_wsS RX11 73 yX11_in wsX11_in) := goodIn_app (goodIn_of _ (by decide +kernel)) ggX11_go_X11_in
set_option maxRecDepth 20000 in
theorem ggX11_go_X11_lacksRow : GoodIn wsX11_go wsX11_lacksRow := goodIn_r _ [14, 15, 16, 7, 8, 9, 10, 27, 28, 29, 30, 31, 32, 33, 34, 35, 36, 37, 38, 39, 40, 41, 42, 43, 44, 45, 46, 47, 48, 49, 50, 51, 52, 53, 54] (by decide +kernel) (by decide +kernel)
set_option maxRecDepth 20000 in
theorem gX11_go_X11_lacksRow : GoodIn wsX11_go (wsV RX11 245 RX11 yX11_lacksRow wsX11_lacksRow) := goodIn_app (goodIn_of _ (by decide +kernel)) ggX11_go_X11_lacksRow
set_option maxRecDepth 20000 in
theorem ggX11_go_X11_isSquare : GoodIn wsX11_go wsX11_isSquare := goodIn_r _ [19, 20, 7, 8, 9, 10] (by decide +kernel) (by decide +kernel)
set_option maxRecDepth 20000 in
theorem gX11_go_X11_isSquare : GoodIn wsX11_go (va_wsS RX11 77 yX11_isSquare wsX11_isSquare) := goodIn_app (goodIn_of _ (by decide +kernel)) ggX11_go_X11_isSquare
set_option maxRecDepth 20000 in
theorem ggX11_go_X11_areNext : GoodIn wsX11_go wsX11_areNext := goodIn_r _ [23, 24, 25, 9, 26] (by decide +kernel) (by decide +kernel)
set_option maxRecDepth 20000 in
theorem gX11_go_X11_areNext : GoodIn wsX11_go (va_wsS RX11 170 yX11_areNext wsX11_areNext) := goodIn_app (goodIn_of _ (by decide +kernel)) ggX11_go_X11_areNext
theorem dX11_go_0 : decode cX11_go 0 = .ok (.iload_n 1, 1) := by decide +kernel
theorem dX11_go_1 : decode cX11_go 1 = .ok (.i2l, 1) := by decide +kernel
theorem dX11_go_2 : decode cX11_go 2 = .ok (.lconst 0, 1) := by decide +kernel
theorem dX11_go_3 : decode cX11_go 3 = .ok (.ldc2_w 182, 3) := by decide +kernel
theorem dX11_go_6 : decode cX11_go 6 = .ok (.invokestatic 73, 3) := by decide +kernel
theorem dX11_go_9 : decode cX11_go 9 = .ok (.ifCond .eq 28, 3) := by decide +kernel
theorem dX11_go_12 : decode cX11_go 12 = .ok (.iload_n 2, 1) := by decide +kernel
theorem dX11_go_13 : decode cX11_go 13 = .ok (.i2l, 1) := by decide +kernel
theorem dX11_go_14 : decode cX11_go 14 = .ok (.lconst 1, 1) := by decide +kernel
theorem dX11_go_15 : decode cX11_go 15 = .ok (.ldc2_w 240, 3) := by decide +kernel
theorem dX11_go_18 : decode cX11_go 18 = .ok (.invokestatic 73, 3) := by decide +kernel
theorem dX11_go_21 : decode cX11_go 21 = .ok (.ifCond .eq 16, 3) := by decide +kernel
theorem dX11_go_24 : decode cX11_go 24 = .ok (.iload 4, 2) := by decide +kernel
theorem dX11_go_26 : decode cX11_go 26 = .ok (.i2l, 1) := by decide +kernel
theorem dX11_go_27 : decode cX11_go 27 = .ok (.lconst 1, 1) := by decide +kernel
theorem dX11_go_28 : decode cX11_go 28 = .ok (.ldc2_w 174, 3) := by decide +kernel
theorem dX11_go_31 : decode cX11_go 31 = .ok (.invokestatic 73, 3) := by decide +kernel
theorem dX11_go_34 : decode cX11_go 34 = .ok (.ifCond .ne 5, 3) := by decide +kernel
theorem dX11_go_37 : decode cX11_go 37 = .ok (.iconst (-1), 1) := by decide +kernel
theorem dX11_go_38 : decode cX11_go 38 = .ok (.ireturn, 1) := by decide +kernel
theorem dX11_go_39 : decode cX11_go 39 = .ok (.aload_n 0, 1) := by decide +kernel
theorem dX11_go_40 : decode cX11_go 40 = .ok (.iload_n 1, 1) := by decide +kernel
theorem dX11_go_41 : decode cX11_go 41 = .ok (.iload_n 2, 1) := by decide +kernel
theorem dX11_go_42 : decode cX11_go 42 = .ok (.iload_n 3, 1) := by decide +kernel
theorem dX11_go_43 : decode cX11_go 43 = .ok (.iload 4, 2) := by decide +kernel
theorem dX11_go_45 : decode cX11_go 45 = .ok (.invokevirtual 245, 3) := by decide +kernel
theorem dX11_go_48 : decode cX11_go 48 = .ok (.istore 5, 2) := by decide +kernel
theorem dX11_go_50 : decode cX11_go 50 = .ok (.iload 5, 2) := by decide +kernel
theorem dX11_go_52 : decode cX11_go 52 = .ok (.ifCond .ge 6, 3) := by decide +kernel
theorem dX11_go_55 : decode cX11_go 55 = .ok (.iload 5, 2) := by decide +kernel
theorem dX11_go_57 : decode cX11_go 57 = .ok (.ireturn, 1) := by decide +kernel
theorem dX11_go_58 : decode cX11_go 58 = .ok (.bipush 24, 2) := by decide +kernel
theorem dX11_go_60 : decode cX11_go 60 = .ok (.iload_n 1, 1) := by decide +kernel
theorem dX11_go_61 : decode cX11_go 61 = .ok (.imul, 1) := by decide +kernel
