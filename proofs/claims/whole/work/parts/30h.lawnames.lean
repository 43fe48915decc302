set_option maxRecDepth 20000 in
theorem ggL_law_X11_road : GoodIn wsL_law wsX11_road := goodIn_r _ [673, 625, 181, 144, 674, 675, 5, 676, 267, 251, 178, 179, 180, 182, 183, 184, 677, 678, 679, 680, 145, 214, 215, 216, 217, 133, 218, 219, 220, 221, 222, 223, 681, 682, 683, 684, 685, 686, 687, 607, 143, 608, 609, 610, 611, 612, 613, 614, 615, 530, 531, 532, 965, 966, 967, 968, 969, 970, 971, 972, 973, 974, 975, 976, 977, 978, 979, 980, 981, 982, 983, 984, 985, 986, 987, 988, 989, 990, 991, 992] (by decide +kernel) (by decide +kernel)
set_option maxRecDepth 20000 in
theorem gL_law_X11_road : GoodIn wsL_law (wsV RL 89 RX11 yX11_road wsX11_road) := goodIn_app (goodIn_of _ (by decide +kernel)) ggL_law_X11_road
set_option maxRecDepth 20000 in
theorem ggL_law_X10_most : GoodIn wsL_law wsX10_most := goodIn_r _ [691, 30, 16, 158, 159, 160, 2, 161, 162, 163, 164, 490, 491, 492, 645, 646, 647, 29, 648, 110, 649, 193, 194, 44, 195, 196, 166, 167, 168, 65, 197, 198, 199, 200, 201, 202, 203, 204, 650, 558, 559, 651, 652, 653, 654, 111, 112, 655, 656, 657, 658, 113, 659, 298, 68, 299, 660, 661, 957, 958, 959, 960, 961, 962, 963, 964, 993, 994, 995, 996, 997, 998, 1005, 1006, 1007, 1008, 1016] (by decide +kernel) (by decide +kernel)
set_option maxRecDepth 20000 in
theorem gL_law_X10_most : GoodIn wsL_law (wsV RL 90 RX10 yX10_most wsX10_most) := goodIn_app (goodIn_of _ (by decide +kernel)) ggL_law_X10_most
set_option maxRecDepth 20000 in
theorem ggL_law_X11_most : GoodIn wsL_law wsX11_most := goodIn_r _ [695, 674, 675, 5, 676, 267, 251, 178, 179, 180, 181, 182, 183, 184, 677, 678, 679, 680, 145, 214, 215, 216, 217, 133, 218, 219, 220, 221, 222, 223, 681, 682, 683, 684, 685, 686, 687, 607, 143, 144, 608, 609, 610, 611, 612, 613, 614, 615, 530, 531, 532, 965, 966, 967, 968, 969, 970, 971, 972, 973, 974, 975, 976, 977, 978, 979, 980, 981, 982, 983, 984, 985, 986, 987, 988, 989, 990, 991, 992] (by decide +kernel) (by decide +kernel)
set_option maxRecDepth 20000 in
theorem gL_law_X11_most : GoodIn wsL_law (wsV RL 93 RX11 yX11_most wsX11_most) := goodIn_app (goodIn_of _ (by decide +kernel)) ggL_law_X11_most
set_option maxRecDepth 20000 in
theorem ggL_law_X10_planks : GoodIn wsL_law wsX10_planks := goodIn_r _ [699, 30, 16, 158, 642, 643, 2, 644, 159, 160, 161, 162, 163, 164, 487, 488, 489, 490, 491, 492, 650, 558, 559, 700, 701, 702, 29, 703, 111, 112, 704, 166, 167, 44, 168, 65, 705, 202, 203, 204, 196, 655, 656, 657, 658, 113, 659, 298, 68, 299, 660, 661, 957, 958, 959, 960, 961, 962, 963, 964, 993, 994, 995, 996, 997, 998, 1005, 1006, 1007, 1008, 1016] (by decide +kernel) (by decide +kernel)
set_option maxRecDepth 20000 in
theorem gL_law_X10_planks : GoodIn wsL_law (wsV RL 94 RX10 yX10_planks wsX10_planks) := goodIn_app (goodIn_of _ (by decide +kernel)) ggL_law_X10_planks
set_option maxRecDepth 20000 in
theorem ggL_law_X11_planks : GoodIn wsL_law wsX11_planks := goodIn_r _ [709, 133, 145, 144, 674, 675, 5, 676, 267, 251, 178, 179, 180, 181, 182, 183, 184, 681, 682, 683, 218, 219, 220, 221, 222, 223, 530, 531, 532, 965, 966, 967, 968, 969, 970, 971, 972, 973, 974, 975, 976, 977, 978, 979, 980, 981, 982, 983, 984, 985, 986, 987, 988, 989, 990, 991, 992] (by decide +kernel) (by decide +kernel)
set_option maxRecDepth 20000 in
theorem gL_law_X11_planks : GoodIn wsL_law (wsV RL 98 RX11 yX11_planks wsX11_planks) := goodIn_app (goodIn_of _ (by decide +kernel)) ggL_law_X11_planks
