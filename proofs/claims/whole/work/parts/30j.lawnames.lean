set_option maxRecDepth 20000 in
theorem ggL_law_X11_deaf : GoodIn wsL_law wsX11_deaf := goodIn_r _ [740, 482, 965, 966, 967, 968, 969, 970, 971, 972, 973, 974, 975, 976, 977, 978, 979, 980, 981, 982, 983, 984, 985, 986, 987, 988, 989, 990, 991, 992] (by decide +kernel) (by decide +kernel)
set_option maxRecDepth 20000 in
theorem gL_law_X11_deaf : GoodIn wsL_law (wsV RL 110 RX11 yX11_deaf wsX11_deaf) := goodIn_app (goodIn_of _ (by decide +kernel)) ggL_law_X11_deaf
set_option maxRecDepth 20000 in
theorem ggL_law_X10_span : GoodIn wsL_law wsX10_span := goodIn_r _ [744, 34, 16, 745, 746, 162, 163, 2, 164, 159, 160, 161, 747, 748, 749, 33, 750, 117, 118, 751, 752, 753, 754, 755, 298, 68, 299, 756, 757, 758, 759, 760, 761, 762, 763, 764, 240, 237, 241, 765, 236, 238, 766, 166, 167, 44, 168, 65, 767, 768, 769, 770, 660, 661, 771, 772, 773, 774, 775, 776, 777, 778, 957, 958, 959, 960, 961, 962, 963, 964, 1009, 1010, 993, 994, 995, 996, 997, 998, 1023, 1024, 1025, 1026, 1027, 1016] (by decide +kernel) (by decide +kernel)
set_option maxRecDepth 20000 in
theorem gL_law_X10_span : GoodIn wsL_law (wsV RL 111 RX10 yX10_span wsX10_span) := goodIn_app (goodIn_of _ (by decide +kernel)) ggL_law_X10_span
set_option maxRecDepth 20000 in
theorem ggL_law_X11_span : GoodIn wsL_law wsX11_span := goodIn_r _ [782, 783, 146, 147, 182, 183, 5, 184, 178, 179, 180, 181, 784, 785, 786, 787, 788, 789, 790, 791, 792, 793, 794, 795, 482, 140, 133, 139, 224, 225, 226, 530, 531, 532, 796, 797, 798, 799, 138, 965, 966, 967, 968, 969, 970, 971, 972, 973, 974, 975, 976, 977, 978, 979, 980, 981, 982, 983, 984, 985, 986, 987, 988, 989, 990, 991, 992] (by decide +kernel) (by decide +kernel)
set_option maxRecDepth 20000 in
theorem gL_law_X11_span : GoodIn wsL_law (wsV RL 114 RX11 yX11_span wsX11_span) := goodIn_app (goodIn_of _ (by decide +kernel)) ggL_law_X11_span
set_option maxRecDepth 20000 in
theorem ggL_law_X10_safe : GoodIn wsL_law wsX10_safe := goodIn_r _ [803, 34, 16, 30, 158, 745, 642, 643, 2, 644, 159, 160, 161, 162, 163, 164, 487, 488, 489, 490, 491, 492, 747, 748, 749, 33, 750, 117, 118, 751, 752, 753, 754, 755, 298, 68, 299, 756, 757, 758, 759, 760, 761, 762, 763, 764, 240, 237, 241, 765, 236, 238, 766, 166, 167, 44, 168, 65, 767, 768, 769, 770, 660, 661, 771, 772, 773, 774, 775, 776, 777, 778, 804, 805, 806, 29, 807, 110, 808, 198, 199, 200, 201, 202, 203, 204, 196, 650, 558, 559, 651, 652, 653, 654, 111, 112, 655, 656, 657, 658, 113, 659, 957, 958, 959, 960, 961, 962, 963, 964, 993, 994, 995, 996, 997, 998, 1009, 1010, 1023, 1024, 1025, 1026, 1027, 1016, 1005, 1006, 1007, 1008] (by decide +kernel) (by decide +kernel)
set_option maxRecDepth 20000 in
theorem gL_law_X10_safe : GoodIn wsL_law (wsV RL 115 RX10 yX10_safe wsX10_safe) := goodIn_app (goodIn_of _ (by decide +kernel)) ggL_law_X10_safe
set_option maxRecDepth 20000 in
theorem ggL_law_X11_safe : GoodIn wsL_law wsX11_safe := goodIn_r _ [812, 145, 146, 133, 674, 675, 5, 676, 267, 251, 178, 179, 180, 181, 182, 183, 184, 784, 785, 786, 787, 147, 788, 789, 790, 791, 792, 793, 794, 795, 482, 140, 139, 224, 225, 226, 530, 531, 532, 796, 797, 798, 799, 138, 218, 219, 220, 221, 222, 223, 681, 682, 683, 684, 685, 686, 687, 607, 143, 144, 608, 609, 610, 611, 612, 613, 614, 615, 965, 966, 967, 968, 969, 970, 971, 972, 973, 974, 975, 976, 977, 978, 979, 980, 981, 982, 983, 984, 985, 986, 987, 988, 989, 990, 991, 992] (by decide +kernel) (by decide +kernel)
set_option maxRecDepth 20000 in
theorem gL_law_X11_safe : GoodIn wsL_law (wsV RL 118 RX11 yX11_safe wsX11_safe) := goodIn_app (goodIn_of _ (by decide +kernel)) ggL_law_X11_safe
