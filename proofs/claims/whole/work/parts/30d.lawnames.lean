set_option maxRecDepth 20000 in
theorem ggL_law_X11_sleighs : GoodIn wsL_law wsX11_sleighs := goodIn_r _ [443, 288, 388, 389, 444, 134, 142, 135, 136, 445, 446, 447, 5, 448, 449, 450, 451, 452, 251, 453, 454, 455, 456, 141, 398, 399, 400, 401, 402, 403, 182, 183, 184, 965, 966, 967, 968, 969, 970, 971, 972, 973, 974, 975, 976, 977, 978, 979, 980, 981, 982, 983, 984, 985, 986, 987, 988, 989, 990, 991, 992] (by decide +kernel) (by decide +kernel)
set_option maxRecDepth 20000 in
theorem gL_law_X11_sleighs : GoodIn wsL_law (wsV RL 46 RX11 yX11_sleighs wsX11_sleighs) := goodIn_app (goodIn_of _ (by decide +kernel)) ggL_law_X11_sleighs
set_option maxRecDepth 20000 in
theorem ggL_law_X10_count : GoodIn wsL_law wsX10_count := goodIn_r _ [460, 16, 411, 461, 462, 463, 464, 465, 158, 466, 467, 468, 44, 469, 196, 166, 167, 168, 65, 470, 471, 472, 473, 474, 475, 476, 243, 244, 245, 246, 957, 958, 959, 960, 961, 962, 963, 964, 993, 994, 995, 996, 997, 998, 1017, 1018, 1019, 1020, 1021, 1022, 1023, 1024, 1025, 1026, 1027, 1016] (by decide +kernel) (by decide +kernel)
set_option maxRecDepth 20000 in
theorem gL_law_X10_count : GoodIn wsL_law (wsV RL 47 RX10 yX10_count wsX10_count) := goodIn_app (goodIn_of _ (by decide +kernel)) ggL_law_X10_count
set_option maxRecDepth 20000 in
theorem ggL_law_X11_count : GoodIn wsL_law wsX11_count := goodIn_r _ [480, 133, 444, 481, 482, 965, 966, 967, 968, 969, 970, 971, 972, 973, 974, 975, 976, 977, 978, 979, 980, 981, 982, 983, 984, 985, 986, 987, 988, 989, 990, 991, 992] (by decide +kernel) (by decide +kernel)
set_option maxRecDepth 20000 in
theorem gL_law_X11_count : GoodIn wsL_law (wsV RL 51 RX11 yX11_count wsX11_count) := goodIn_app (goodIn_of _ (by decide +kernel)) ggL_law_X11_count
set_option maxRecDepth 20000 in
theorem ggL_law_X10_sleigh : GoodIn wsL_law wsX10_sleigh := goodIn_r _ [486, 16, 411, 461, 487, 488, 2, 489, 162, 163, 164, 490, 491, 492, 493, 429, 430, 48, 431, 76, 79, 77, 78, 957, 958, 959, 960, 961, 962, 963, 964, 993, 994, 995, 996, 997, 998, 1017, 1018, 1019, 1020] (by decide +kernel) (by decide +kernel)
set_option maxRecDepth 20000 in
theorem gL_law_X10_sleigh : GoodIn wsL_law (wsV RL 52 RX10 yX10_sleigh wsX10_sleigh) := goodIn_app (goodIn_of _ (by decide +kernel)) ggL_law_X10_sleigh
set_option maxRecDepth 20000 in
theorem ggL_law_X11_sleigh : GoodIn wsL_law wsX11_sleigh := goodIn_r _ [497, 267, 251, 444, 134, 135, 136, 182, 183, 5, 184, 965, 966, 967, 968, 969, 970, 971, 972, 973, 974, 975, 976, 977, 978, 979, 980, 981, 982, 983, 984, 985, 986, 987, 988, 989, 990, 991, 992] (by decide +kernel) (by decide +kernel)
set_option maxRecDepth 20000 in
theorem gL_law_X11_sleigh : GoodIn wsL_law (wsV RL 55 RX11 yX11_sleigh wsX11_sleigh) := goodIn_app (goodIn_of _ (by decide +kernel)) ggL_law_X11_sleigh
