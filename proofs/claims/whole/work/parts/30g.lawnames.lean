set_option maxRecDepth 20000 in
theorem ggL_law_X10_cracks : GoodIn wsL_law wsX10_cracks := goodIn_r _ [619, 16, 620, 159, 160, 2, 161, 162, 163, 164, 593, 594, 595, 15, 596, 45, 58, 597, 467, 468, 44, 469, 196, 166, 167, 168, 65, 515, 516, 517, 518, 957, 958, 959, 960, 961, 962, 963, 964, 993, 994, 995, 996, 997, 998, 1016] (by decide +kernel) (by decide +kernel)
set_option maxRecDepth 20000 in
theorem gL_law_X10_cracks : GoodIn wsL_law (wsV RL 76 RX10 yX10_cracks wsX10_cracks) := goodIn_app (goodIn_of _ (by decide +kernel)) ggL_law_X10_cracks
set_option maxRecDepth 20000 in
theorem ggL_law_X11_cracks : GoodIn wsL_law wsX11_cracks := goodIn_r _ [624, 625, 607, 143, 178, 179, 5, 180, 181, 182, 183, 184, 603, 604, 605, 606, 133, 138, 608, 609, 610, 611, 144, 612, 613, 614, 615, 530, 531, 532, 965, 966, 967, 968, 969, 970, 971, 972, 973, 974, 975, 976, 977, 978, 979, 980, 981, 982, 983, 984, 985, 986, 987, 988, 989, 990, 991, 992] (by decide +kernel) (by decide +kernel)
set_option maxRecDepth 20000 in
theorem gL_law_X11_cracks : GoodIn wsL_law (wsV RL 80 RX11 yX11_cracks wsX11_cracks) := goodIn_app (goodIn_of _ (by decide +kernel)) ggL_law_X11_cracks
set_option maxRecDepth 20000 in
theorem ggL_law_X10_crack : GoodIn wsL_law wsX10_crack := goodIn_r _ [629, 16, 158, 159, 160, 2, 161, 162, 163, 164, 593, 594, 595, 15, 596, 45, 58, 597, 467, 468, 44, 469, 196, 166, 167, 168, 65, 515, 516, 517, 518, 630, 631, 632, 633, 242, 170, 171, 172, 470, 471, 472, 473, 474, 475, 476, 957, 958, 959, 960, 961, 962, 963, 964, 993, 994, 995, 996, 997, 998, 1016] (by decide +kernel) (by decide +kernel)
set_option maxRecDepth 20000 in
theorem gL_law_X10_crack : GoodIn wsL_law (wsV RL 81 RX10 yX10_crack wsX10_crack) := goodIn_app (goodIn_of _ (by decide +kernel)) ggL_law_X10_crack
set_option maxRecDepth 20000 in
theorem ggL_law_X11_crack : GoodIn wsL_law wsX11_crack := goodIn_r _ [637, 133, 143, 178, 179, 5, 180, 181, 182, 183, 184, 603, 604, 605, 606, 607, 138, 608, 609, 610, 611, 144, 612, 613, 614, 615, 530, 531, 532, 965, 966, 967, 968, 969, 970, 971, 972, 973, 974, 975, 976, 977, 978, 979, 980, 981, 982, 983, 984, 985, 986, 987, 988, 989, 990, 991, 992] (by decide +kernel) (by decide +kernel)
set_option maxRecDepth 20000 in
theorem gL_law_X11_crack : GoodIn wsL_law (wsV RL 84 RX11 yX11_crack wsX11_crack) := goodIn_app (goodIn_of _ (by decide +kernel)) ggL_law_X11_crack
set_option maxRecDepth 20000 in
theorem ggL_law_X10_road : GoodIn wsL_law wsX10_road := goodIn_r _ [641, 30, 16, 158, 642, 643, 2, 644, 159, 160, 161, 162, 163, 164, 487, 488, 489, 490, 491, 492, 645, 646, 647, 29, 648, 110, 649, 193, 194, 44, 195, 196, 166, 167, 168, 65, 197, 198, 199, 200, 201, 202, 203, 204, 650, 558, 559, 651, 652, 653, 654, 111, 112, 655, 656, 657, 658, 113, 659, 298, 68, 299, 660, 661, 662, 663, 664, 665, 666, 667, 668, 669, 957, 958, 959, 960, 961, 962, 963, 964, 993, 994, 995, 996, 997, 998, 1005, 1006, 1007, 1008, 1016] (by decide +kernel) (by decide +kernel)
set_option maxRecDepth 20000 in
theorem gL_law_X10_road : GoodIn wsL_law (wsV RL 85 RX10 yX10_road wsX10_road) := goodIn_app (goodIn_of _ (by decide +kernel)) ggL_law_X10_road
