set_option maxRecDepth 20000 in
theorem ggL_law_X11_image : GoodIn wsL_law wsX11_image := goodIn_r _ [867, 148, 149, 444, 481, 482, 868, 869, 870, 871, 5, 872, 133, 134, 135, 136, 137, 138, 139, 140, 965, 966, 967, 968, 969, 970, 971, 972, 973, 974, 975, 976, 977, 978, 979, 980, 981, 982, 983, 984, 985, 986, 987, 988, 989, 990, 991, 992] (by decide +kernel) (by decide +kernel)
set_option maxRecDepth 20000 in
theorem gL_law_X11_image : GoodIn wsL_law (wsV RL 130 RX11 yX11_image wsX11_image) := goodIn_app (goodIn_of _ (by decide +kernel)) ggL_law_X11_image
set_option maxRecDepth 20000 in
theorem ggL_law_X10_restore : GoodIn wsL_law wsX10_restore := goodIn_r _ [876, 18, 16, 17, 844, 845, 846, 15, 847, 45, 49, 53, 57, 58, 59, 848, 849, 850, 44, 851, 65, 852, 437, 438, 439, 853, 433, 434, 48, 435, 76, 436, 77, 78, 79, 854, 855, 856, 52, 857, 83, 858, 84, 859, 860, 861, 56, 862, 88, 863, 89, 90, 91, 92, 957, 958, 959, 960, 961, 962, 963, 964, 993, 994, 995, 996, 997, 998, 1016, 1017, 1018, 1019, 1020, 1021, 1022, 1023, 1024, 1025, 1026, 1027] (by decide +kernel) (by decide +kernel)
set_option maxRecDepth 20000 in
theorem gL_law_X10_restore : GoodIn wsL_law (wsV RL 131 RX10 yX10_restore wsX10_restore) := goodIn_app (goodIn_of _ (by decide +kernel)) ggL_law_X10_restore
set_option maxRecDepth 20000 in
theorem ggL_law_X11_restore : GoodIn wsL_law wsX11_restore := goodIn_r _ [880, 868, 148, 149, 444, 481, 482, 869, 870, 871, 5, 872, 133, 134, 135, 136, 137, 138, 139, 140, 965, 966, 967, 968, 969, 970, 971, 972, 973, 974, 975, 976, 977, 978, 979, 980, 981, 982, 983, 984, 985, 986, 987, 988, 989, 990, 991, 992] (by decide +kernel) (by decide +kernel)
set_option maxRecDepth 20000 in
theorem gL_law_X11_restore : GoodIn wsL_law (wsV RL 134 RX11 yX11_restore wsX11_restore) := goodIn_app (goodIn_of _ (by decide +kernel)) ggL_law_X11_restore
set_option maxRecDepth 20000 in
theorem ggL_law_X10_go : GoodIn wsL_law wsX10_go := goodIn_r _ [884, 36, 16, 462, 463, 885, 886, 2, 887, 162, 163, 164, 888, 889, 890, 38, 891, 127, 128, 892, 893, 894, 895, 896, 897, 898, 899, 124, 126, 160, 161, 512, 513, 514, 515, 516, 517, 518, 900, 519, 520, 521, 52, 522, 83, 84, 957, 958, 959, 960, 961, 962, 963, 964, 993, 994, 995, 996, 997, 998, 1021, 1022, 1011, 1012, 1013, 1014, 1015] (by decide +kernel) (by decide +kernel)
set_option maxRecDepth 20000 in
theorem gL_law_X10_go : GoodIn wsL_law (wsV RL 135 RX10 yX10_go wsX10_go) := goodIn_app (goodIn_of _ (by decide +kernel)) ggL_law_X10_go
set_option maxRecDepth 20000 in
theorem ggL_law_X11_go : GoodIn wsL_law wsX11_go := goodIn_r _ [904, 602, 905, 541, 152, 481, 137, 182, 183, 5, 184, 906, 907, 908, 909, 150, 151, 178, 179, 180, 181, 527, 528, 529, 530, 531, 532, 965, 966, 967, 968, 969, 970, 971, 972, 973, 974, 975, 976, 977, 978, 979, 980, 981, 982, 983, 984, 985, 986, 987, 988, 989, 990, 991, 992] (by decide +kernel) (by decide +kernel)
set_option maxRecDepth 20000 in
theorem gL_law_X11_go : GoodIn wsL_law (wsV RL 138 RX11 yX11_go wsX11_go) := goodIn_app (goodIn_of _ (by decide +kernel)) ggL_law_X11_go
