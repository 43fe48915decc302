set_option maxRecDepth 20000 in
theorem ggL_law_X11_back : GoodIn wsL_law wsX11_back := goodIn_r _ [540, 541, 481, 182, 183, 5, 184, 965, 966, 967, 968, 969, 970, 971, 972, 973, 974, 975, 976, 977, 978, 979, 980, 981, 982, 983, 984, 985, 986, 987, 988, 989, 990, 991, 992] (by decide +kernel) (by decide +kernel)
set_option maxRecDepth 20000 in
theorem gL_law_X11_back : GoodIn wsL_law (wsV RL 67 RX11 yX11_back wsX11_back) := goodIn_app (goodIn_of _ (by decide +kernel)) ggL_law_X11_back
set_option maxRecDepth 20000 in
theorem ggL_law_X10_need : GoodIn wsL_law wsX10_need := goodIn_r _ [545, 16, 411, 461, 462, 463, 162, 163, 2, 164, 546, 547, 548, 48, 549, 550, 551, 552, 553, 78, 77, 554, 555, 556, 557, 76, 79, 558, 559, 957, 958, 959, 960, 961, 962, 963, 964, 993, 994, 995, 996, 997, 998, 1017, 1018, 1019, 1020, 1021, 1022] (by decide +kernel) (by decide +kernel)
set_option maxRecDepth 20000 in
theorem gL_law_X10_need : GoodIn wsL_law (wsV RL 68 RX10 yX10_need wsX10_need) := goodIn_app (goodIn_of _ (by decide +kernel)) ggL_law_X10_need
set_option maxRecDepth 20000 in
theorem ggL_law_X11_need : GoodIn wsL_law wsX11_need := goodIn_r _ [563, 444, 481, 182, 183, 5, 184, 564, 565, 566, 567, 134, 135, 568, 569, 570, 571, 136, 965, 966, 967, 968, 969, 970, 971, 972, 973, 974, 975, 976, 977, 978, 979, 980, 981, 982, 983, 984, 985, 986, 987, 988, 989, 990, 991, 992] (by decide +kernel) (by decide +kernel)
set_option maxRecDepth 20000 in
theorem gL_law_X11_need : GoodIn wsL_law (wsV RL 71 RX11 yX11_need wsX11_need) := goodIn_app (goodIn_of _ (by decide +kernel)) ggL_law_X11_need
set_option maxRecDepth 20000 in
theorem ggL_law_X10_breaks : GoodIn wsL_law wsX10_breaks := goodIn_r _ [575, 16, 462, 510, 411, 162, 163, 2, 164, 576, 577, 578, 15, 579, 49, 580, 581, 582, 583, 584, 53, 585, 45, 586, 587, 547, 548, 48, 549, 550, 551, 552, 553, 78, 77, 588, 555, 556, 557, 76, 79, 558, 559, 589, 193, 194, 44, 195, 196, 166, 167, 168, 65, 197, 198, 199, 200, 201, 202, 203, 204, 590, 591, 592, 593, 594, 595, 596, 58, 597, 467, 468, 469, 515, 516, 517, 518, 470, 471, 472, 473, 474, 475, 476, 957, 958, 959, 960, 961, 962, 963, 964, 993, 994, 995, 996, 997, 998, 1021, 1022, 1017, 1018, 1019, 1020, 1016] (by decide +kernel) (by decide +kernel)
set_option maxRecDepth 20000 in
theorem gL_law_X10_breaks : GoodIn wsL_law (wsV RL 72 RX10 yX10_breaks wsX10_breaks) := goodIn_app (goodIn_of _ (by decide +kernel)) ggL_law_X10_breaks
set_option maxRecDepth 20000 in
theorem ggL_law_X11_breaks : GoodIn wsL_law wsX11_breaks := goodIn_r _ [601, 602, 444, 481, 137, 182, 183, 5, 184, 564, 565, 566, 567, 134, 135, 568, 569, 570, 571, 136, 214, 215, 216, 217, 133, 218, 219, 220, 221, 222, 223, 603, 604, 605, 606, 607, 143, 138, 608, 609, 610, 611, 144, 612, 613, 614, 615, 530, 531, 532, 965, 966, 967, 968, 969, 970, 971, 972, 973, 974, 975, 976, 977, 978, 979, 980, 981, 982, 983, 984, 985, 986, 987, 988, 989, 990, 991, 992] (by decide +kernel) (by decide +kernel)
set_option maxRecDepth 20000 in
theorem gL_law_X11_breaks : GoodIn wsL_law (wsV RL 75 RX11 yX11_breaks wsX11_breaks) := goodIn_app (goodIn_of _ (by decide +kernel)) ggL_law_X11_breaks
