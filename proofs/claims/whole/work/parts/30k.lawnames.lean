set_option maxRecDepth 20000 in
theorem ggL_law_X10_drum : GoodIn wsL_law wsX10_drum := goodIn_r _ [816, 34, 16, 747, 748, 749, 33, 750, 117, 118, 751, 752, 753, 754, 755, 298, 68, 299, 756, 757, 758, 759, 760, 761, 762, 763, 764, 240, 237, 241, 765, 236, 238, 766, 166, 167, 44, 168, 65, 767, 768, 769, 770, 660, 2, 661, 771, 772, 773, 774, 775, 776, 777, 778, 817, 818, 819, 820, 957, 958, 959, 960, 961, 962, 963, 964, 1009, 1010, 993, 994, 995, 996, 997, 998, 1023, 1024, 1025, 1026, 1027, 1016] (by decide +kernel) (by decide +kernel)
set_option maxRecDepth 20000 in
theorem gL_law_X10_drum : GoodIn wsL_law (wsV RL 119 RX10 yX10_drum wsX10_drum) := goodIn_app (goodIn_of _ (by decide +kernel)) ggL_law_X10_drum
set_option maxRecDepth 20000 in
theorem ggL_law_X11_drum : GoodIn wsL_law wsX11_drum := goodIn_r _ [824, 147, 146, 784, 785, 786, 5, 787, 788, 789, 790, 791, 792, 793, 794, 795, 482, 140, 133, 139, 224, 225, 226, 182, 183, 184, 530, 531, 532, 796, 797, 798, 799, 138, 965, 966, 967, 968, 969, 970, 971, 972, 973, 974, 975, 976, 977, 978, 979, 980, 981, 982, 983, 984, 985, 986, 987, 988, 989, 990, 991, 992] (by decide +kernel) (by decide +kernel)
set_option maxRecDepth 20000 in
theorem gL_law_X11_drum : GoodIn wsL_law (wsV RL 122 RX11 yX11_drum wsX11_drum) := goodIn_app (goodIn_of _ (by decide +kernel)) ggL_law_X11_drum
set_option maxRecDepth 20000 in
theorem ggL_law_X10_liars : GoodIn wsL_law wsX10_liars := goodIn_r _ [828, 34, 16, 829, 830, 831, 832, 833, 834, 835, 747, 748, 749, 33, 750, 117, 118, 751, 752, 753, 754, 755, 298, 68, 299, 756, 757, 758, 759, 760, 761, 762, 763, 764, 240, 237, 241, 765, 236, 238, 766, 166, 167, 44, 168, 65, 767, 768, 769, 770, 660, 2, 661, 771, 772, 773, 774, 775, 776, 777, 778, 957, 958, 959, 960, 961, 962, 963, 964, 1009, 1010, 993, 994, 995, 996, 997, 998, 1023, 1024, 1025, 1026, 1027, 1016] (by decide +kernel) (by decide +kernel)
set_option maxRecDepth 20000 in
theorem gL_law_X10_liars : GoodIn wsL_law (wsV RL 123 RX10 yX10_liars wsX10_liars) := goodIn_app (goodIn_of _ (by decide +kernel)) ggL_law_X10_liars
set_option maxRecDepth 20000 in
theorem ggL_law_X11_liars : GoodIn wsL_law wsX11_liars := goodIn_r _ [839, 784, 785, 786, 5, 787, 146, 147, 788, 789, 790, 791, 792, 793, 794, 795, 482, 140, 133, 139, 224, 225, 226, 182, 183, 184, 530, 531, 532, 796, 797, 798, 799, 138, 965, 966, 967, 968, 969, 970, 971, 972, 973, 974, 975, 976, 977, 978, 979, 980, 981, 982, 983, 984, 985, 986, 987, 988, 989, 990, 991, 992] (by decide +kernel) (by decide +kernel)
set_option maxRecDepth 20000 in
theorem gL_law_X11_liars : GoodIn wsL_law (wsV RL 126 RX11 yX11_liars wsX11_liars) := goodIn_app (goodIn_of _ (by decide +kernel)) ggL_law_X11_liars
set_option maxRecDepth 20000 in
theorem ggL_law_X10_image : GoodIn wsL_law wsX10_image := goodIn_r _ [843, 17, 16, 18, 844, 845, 846, 15, 847, 45, 49, 53, 57, 58, 59, 848, 849, 850, 44, 851, 65, 852, 437, 438, 439, 853, 433, 434, 48, 435, 76, 436, 77, 78, 79, 854, 855, 856, 52, 857, 83, 858, 84, 859, 860, 861, 56, 862, 88, 863, 89, 90, 91, 92, 957, 958, 959, 960, 961, 962, 963, 964, 993, 994, 995, 996, 997, 998, 1016, 1017, 1018, 1019, 1020, 1021, 1022, 1023, 1024, 1025, 1026, 1027] (by decide +kernel) (by decide +kernel)
set_option maxRecDepth 20000 in
theorem gL_law_X10_image : GoodIn wsL_law (wsV RL 127 RX10 yX10_image wsX10_image) := goodIn_app (goodIn_of _ (by decide +kernel)) ggL_law_X10_image
