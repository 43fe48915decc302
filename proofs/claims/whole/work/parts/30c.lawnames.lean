set_option maxRecDepth 20000 in
theorem ggL_law_X10_type : GoodIn wsL_law wsX10_type := goodIn_r _ [271, 22, 272, 162, 163, 2, 164, 273, 274, 275, 276, 277, 278, 21, 279, 97, 98, 957, 958, 959, 960, 961, 962, 963, 964, 999, 1000, 1001] (by decide +kernel) (by decide +kernel)
set_option maxRecDepth 20000 in
theorem gL_law_X10_type : GoodIn wsL_law (wsV RL 33 RX10 yX10_type wsX10_type) := goodIn_app (goodIn_of _ (by decide +kernel)) ggL_law_X10_type
set_option maxRecDepth 20000 in
theorem ggL_law_X11_type : GoodIn wsL_law wsX11_type := goodIn_r _ [283, 284, 285, 286, 287, 288, 141, 182, 183, 5, 184, 965, 966, 967, 968, 969, 970, 971, 972, 973, 974, 975, 976, 977, 978, 979, 980, 981, 982, 983, 984, 985, 986, 987, 988, 989, 990, 991, 992] (by decide +kernel) (by decide +kernel)
set_option maxRecDepth 20000 in
theorem gL_law_X11_type : GoodIn wsL_law (wsV RL 37 RX11 yX11_type wsX11_type) := goodIn_app (goodIn_of _ (by decide +kernel)) ggL_law_X11_type
set_option maxRecDepth 20000 in
theorem ggL_law_X10_ice : GoodIn wsL_law wsX10_ice := goodIn_r _ [292, 26, 22, 16, 158, 272, 293, 294, 295, 25, 296, 103, 297, 298, 68, 299, 300, 301, 302, 21, 303, 99, 304, 305, 306, 307, 98, 97, 308, 309, 310, 311, 104, 312, 313, 314, 315, 316, 317, 318, 319, 163, 2, 164, 320, 321, 322, 323, 324, 325, 326, 327, 328, 329, 330, 331, 332, 333, 334, 335, 336, 337, 338, 339, 340, 341, 342, 343, 344, 345, 346, 347, 348, 349, 350, 351, 352, 353, 354, 355, 356, 357, 358, 359, 360, 361, 362, 363, 364, 365, 366, 367, 368, 369, 370, 371, 372, 373, 374, 375, 376, 377, 378, 379, 380, 381, 382, 383, 170, 171, 44, 172, 65, 957, 958, 959, 960, 961, 962, 963, 964, 993, 994, 995, 996, 997, 998, 999, 1000, 1001, 1002, 1003, 1004, 1016] (by decide +kernel) (by decide +kernel)
set_option maxRecDepth 20000 in
theorem gL_law_X10_ice : GoodIn wsL_law (wsV RL 38 RX10 yX10_ice wsX10_ice) := goodIn_app (goodIn_of _ (by decide +kernel)) ggL_law_X10_ice
set_option maxRecDepth 20000 in
theorem ggL_law_X11_ice : GoodIn wsL_law wsX11_ice := goodIn_r _ [387, 288, 388, 142, 133, 389, 390, 391, 392, 5, 393, 394, 395, 396, 397, 398, 399, 400, 401, 402, 403, 141, 182, 183, 184, 404, 405, 406, 965, 966, 967, 968, 969, 970, 971, 972, 973, 974, 975, 976, 977, 978, 979, 980, 981, 982, 983, 984, 985, 986, 987, 988, 989, 990, 991, 992] (by decide +kernel) (by decide +kernel)
set_option maxRecDepth 20000 in
theorem gL_law_X11_ice : GoodIn wsL_law (wsV RL 42 RX11 yX11_ice wsX11_ice) := goodIn_app (goodIn_of _ (by decide +kernel)) ggL_law_X11_ice
set_option maxRecDepth 20000 in
theorem ggL_law_X10_sleighs : GoodIn wsL_law wsX10_sleighs := goodIn_r _ [410, 26, 22, 16, 411, 412, 272, 413, 414, 415, 25, 416, 106, 417, 300, 301, 302, 21, 303, 99, 304, 305, 306, 307, 98, 97, 418, 419, 420, 421, 422, 423, 424, 425, 426, 236, 237, 238, 427, 313, 314, 315, 316, 317, 318, 319, 163, 2, 164, 370, 371, 372, 373, 374, 322, 323, 324, 320, 321, 428, 429, 430, 48, 431, 76, 79, 77, 78, 375, 376, 377, 378, 432, 433, 434, 435, 436, 437, 438, 439, 957, 958, 959, 960, 961, 962, 963, 964, 993, 994, 995, 996, 997, 998, 1002, 1003, 1004, 999, 1000, 1001, 1017, 1018, 1019, 1020] (by decide +kernel) (by decide +kernel)
set_option maxRecDepth 20000 in
theorem gL_law_X10_sleighs : GoodIn wsL_law (wsV RL 43 RX10 yX10_sleighs wsX10_sleighs) := goodIn_app (goodIn_of _ (by decide +kernel)) ggL_law_X10_sleighs
