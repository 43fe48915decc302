/-! THE LAW's WORDS among the tables'. Laid by wip/gen_lawwords.py -/
set_option maxRecDepth 20000 in
theorem lq_wsL_law_r1 : GoodIn lw_tbl wsL_law_r1 := goodIn_r _ [43, 44, 22, 795, 796, 34, 1158, 45, 46, 47, 48, 49, 50, 51, 52, 23, 268, 269, 270, 170, 171, 29, 271, 188] (by decide +kernel) (by decide +kernel)
set_option maxRecDepth 20000 in
theorem lq_wsL_law_r2 : GoodIn lw_tbl wsL_law_r2 := goodIn_r _ [189, 30, 272, 207, 208, 31, 273, 226, 227, 32, 274, 241, 275, 243, 33, 54, 55, 56, 57, 58, 24, 142, 74, 75] (by decide +kernel) (by decide +kernel)
set_option maxRecDepth 20000 in
theorem lq_wsL_law_r3 : GoodIn lw_tbl wsL_law_r3 := goodIn_r _ [26, 145, 96, 97, 27, 147, 113, 114, 28, 149, 152, 154, 59, 60, 61, 62, 73, 69, 63, 64, 25, 65, 66, 67] (by decide +kernel) (by decide +kernel)
set_option maxRecDepth 20000 in
theorem lq_wsL_law_r4 : GoodIn lw_tbl wsL_law_r4 := goodIn_r _ [68, 77, 78, 79, 80, 81, 82, 83, 99, 100, 101, 102, 105, 116, 117, 118, 119, 122, 124, 126, 128, 173, 174, 175] (by decide +kernel) (by decide +kernel)
set_option maxRecDepth 20000 in
theorem lq_wsL_law_r5 : GoodIn lw_tbl wsL_law_r5 := goodIn_r _ [187, 176, 177, 179, 191, 192, 193, 196, 197, 194, 198, 210, 211, 212, 213, 214, 215, 216, 229, 230, 231, 232, 234, 245] (by decide +kernel) (by decide +kernel)
set_option maxRecDepth 20000 in
theorem lq_wsL_law_r6 : GoodIn lw_tbl wsL_law_r6 := goodIn_r _ [246, 247, 266, 248, 249, 267, 250, 251, 253, 797, 798, 799, 800, 801, 802, 803, 804, 806, 808, 809, 810, 812, 816, 817] (by decide +kernel) (by decide +kernel)
set_option maxRecDepth 20000 in
theorem lq_wsL_law_r7 : GoodIn lw_tbl wsL_law_r7 := goodIn_r _ [818, 820, 821, 822, 824, 825, 826, 827, 828, 293, 294, 295, 296, 303, 143, 297, 298, 299, 300, 301, 302, 305, 306, 307] (by decide +kernel) (by decide +kernel)
set_option maxRecDepth 20000 in
theorem lq_wsL_law_r8 : GoodIn lw_tbl wsL_law_r8 := goodIn_r _ [308, 309, 310, 311, 312, 886, 887, 888, 889, 897, 890, 891, 892, 893, 894, 895, 896, 898, 899, 900, 313, 314, 315, 316] (by decide +kernel) (by decide +kernel)
set_option maxRecDepth 20000 in
theorem lq_wsL_law_r9 : GoodIn lw_tbl wsL_law_r9 := goodIn_r _ [317, 318, 319, 320, 321, 322, 323, 324, 325, 326, 327, 328, 329, 332, 333, 334, 335, 901, 902, 903, 904, 905, 906, 908] (by decide +kernel) (by decide +kernel)
set_option maxRecDepth 20000 in
theorem lq_wsL_law_r10 : GoodIn lw_tbl wsL_law_r10 := goodIn_r _ [0, 909, 910, 911, 912, 913, 914, 915, 916, 917, 918, 336, 337, 338, 339, 340, 341, 342, 343, 344, 345, 35, 346, 347] (by decide +kernel) (by decide +kernel)
set_option maxRecDepth 20000 in
theorem lq_wsL_law_r11 : GoodIn lw_tbl wsL_law_r11 := goodIn_r _ [348, 349, 350, 351, 352, 353, 354, 919, 920, 921, 922, 923, 924, 925, 927, 1, 928, 355, 356, 357, 358, 153, 156, 929] (by decide +kernel) (by decide +kernel)
set_option maxRecDepth 20000 in
theorem lq_wsL_law_r12 : GoodIn lw_tbl wsL_law_r12 := goodIn_r _ [930, 931, 932, 933, 359, 360, 361, 362, 178, 363, 364, 365, 366, 367, 368, 369, 938, 939, 940, 941, 942, 943, 944, 945] (by decide +kernel) (by decide +kernel)
set_option maxRecDepth 20000 in
theorem lq_wsL_law_r13 : GoodIn lw_tbl wsL_law_r13 := goodIn_r _ [813, 370, 371, 372, 373, 374, 375, 376, 377, 378, 379, 380, 381, 382, 383, 384, 385, 386, 387, 388, 389, 390, 391, 392] (by decide +kernel) (by decide +kernel)
set_option maxRecDepth 20000 in
theorem lq_wsL_law_r14 : GoodIn lw_tbl wsL_law_r14 := goodIn_r _ [393, 394, 395, 396, 397, 398, 399, 400, 402, 403, 404, 405, 406, 407, 408, 409, 410, 412, 413, 414, 36, 415, 1160, 416] (by decide +kernel) (by decide +kernel)
set_option maxRecDepth 20000 in
theorem lq_wsL_law_r15 : GoodIn lw_tbl wsL_law_r15 := goodIn_r _ [417, 418, 419, 420, 1159, 422, 423, 37, 424, 425, 426, 427, 428, 430, 431, 38, 432, 433, 434, 39, 435, 436, 437, 438] (by decide +kernel) (by decide +kernel)
set_option maxRecDepth 20000 in
theorem lq_wsL_law_r16 : GoodIn lw_tbl wsL_law_r16 := goodIn_r _ [439, 440, 441, 442, 443, 444, 445, 446, 448, 450, 452, 453, 454, 455, 456, 457, 458, 459, 460, 461, 462, 463, 464, 465] (by decide +kernel) (by decide +kernel)
set_option maxRecDepth 20000 in
theorem lq_wsL_law_r17 : GoodIn lw_tbl wsL_law_r17 := goodIn_r _ [946, 947, 948, 949, 814, 815, 950, 952, 2, 953, 954, 956, 3, 957, 962, 963, 958, 960, 4, 961, 964, 965, 966, 466] (by decide +kernel) (by decide +kernel)
set_option maxRecDepth 20000 in
theorem lq_wsL_law_r18 : GoodIn lw_tbl wsL_law_r18 := goodIn_r _ [467, 468, 469, 146, 199, 470, 471, 472, 473, 85, 474, 475, 476, 477, 478, 479, 480, 481, 483, 482, 485, 486, 487, 488] (by decide +kernel) (by decide +kernel)
set_option maxRecDepth 20000 in
theorem lq_wsL_law_r19 : GoodIn lw_tbl wsL_law_r19 := goodIn_r _ [489, 490, 491, 492, 493, 495, 494, 40, 967, 968, 969, 970, 805, 971, 973, 5, 974, 975, 977, 6, 978, 979, 981, 7] (by decide +kernel) (by decide +kernel)
set_option maxRecDepth 20000 in
theorem lq_wsL_law_r20 : GoodIn lw_tbl wsL_law_r20 := goodIn_r _ [982, 496, 497, 498, 499, 86, 148, 107, 151, 130, 500, 501, 502, 503, 504, 505, 41, 506, 507, 508, 509, 934, 935, 936] (by decide +kernel) (by decide +kernel)
set_option maxRecDepth 20000 in
theorem lq_wsL_law_r21 : GoodIn lw_tbl wsL_law_r21 := goodIn_r _ [937, 807, 811, 510, 511, 512, 513, 514, 515, 516, 517, 518, 519, 520, 983, 984, 985, 986, 521, 522, 523, 524, 987, 988] (by decide +kernel) (by decide +kernel)
set_option maxRecDepth 20000 in
theorem lq_wsL_law_r22 : GoodIn lw_tbl wsL_law_r22 := goodIn_r _ [989, 990, 525, 526, 527, 528, 104, 529, 530, 531, 532, 533, 534, 535, 536, 537, 538, 539, 540, 991, 992, 993, 994, 995] (by decide +kernel) (by decide +kernel)
set_option maxRecDepth 20000 in
theorem lq_wsL_law_r23 : GoodIn lw_tbl wsL_law_r23 := goodIn_r _ [996, 997, 998, 999, 1000, 541, 542, 543, 544, 1001, 1002, 1003, 1004, 1005, 545, 546, 547, 548, 549, 550, 551, 552, 553, 554] (by decide +kernel) (by decide +kernel)
set_option maxRecDepth 20000 in
theorem lq_wsL_law_r24 : GoodIn lw_tbl wsL_law_r24 := goodIn_r _ [555, 556, 557, 558, 559, 560, 562, 563, 1006, 1007, 1008, 1009, 1010, 1012, 8, 1013, 1014, 1016, 9, 1017, 564, 565, 566, 567] (by decide +kernel) (by decide +kernel)
set_option maxRecDepth 20000 in
theorem lq_wsL_law_r25 : GoodIn lw_tbl wsL_law_r25 := goodIn_r _ [568, 569, 570, 571, 84, 572, 573, 574, 575, 106, 103, 576, 577, 578, 579, 580, 581, 582, 583, 584, 585, 586, 1018, 1019] (by decide +kernel) (by decide +kernel)
set_option maxRecDepth 20000 in
theorem lq_wsL_law_r26 : GoodIn lw_tbl wsL_law_r26 := goodIn_r _ [1020, 1021, 1022, 1023, 1025, 10, 1026, 819, 1027, 1029, 11, 1030, 1031, 1033, 12, 1034, 588, 589, 590, 591, 592, 1035, 1036, 1037] (by decide +kernel) (by decide +kernel)
set_option maxRecDepth 20000 in
theorem lq_wsL_law_r27 : GoodIn lw_tbl wsL_law_r27 := goodIn_r _ [1038, 1039, 593, 594, 595, 596, 597, 598, 599, 600, 1040, 1041, 1042, 1043, 601, 602, 603, 604, 605, 606, 607, 608, 609, 610] (by decide +kernel) (by decide +kernel)
set_option maxRecDepth 20000 in
theorem lq_wsL_law_r28 : GoodIn lw_tbl wsL_law_r28 := goodIn_r _ [611, 612, 613, 614, 615, 616, 617, 618, 619, 620, 621, 622, 624, 625, 626, 627, 628, 629, 630, 631, 632, 633, 1044, 1045] (by decide +kernel) (by decide +kernel)
set_option maxRecDepth 20000 in
theorem lq_wsL_law_r29 : GoodIn lw_tbl wsL_law_r29 := goodIn_r _ [1046, 1047, 1048, 1049, 1050, 1051, 1053, 13, 1054, 1055, 1056, 1057, 1058, 1060, 14, 1061, 634, 635, 636, 637, 1062, 1063, 1064, 1065] (by decide +kernel) (by decide +kernel)
set_option maxRecDepth 20000 in
theorem lq_wsL_law_r30 : GoodIn lw_tbl wsL_law_r30 := goodIn_r _ [638, 639, 640, 641, 642, 643, 644, 645, 646, 647, 1066, 1067, 1068, 1069, 648, 649, 650, 651, 121, 1070, 1071, 1072, 1073, 652] (by decide +kernel) (by decide +kernel)
set_option maxRecDepth 20000 in
theorem lq_wsL_law_r31 : GoodIn lw_tbl wsL_law_r31 := goodIn_r _ [653, 654, 655, 656, 657, 658, 659, 1074, 1075, 1076, 1077, 1078, 1079, 660, 661, 662, 663, 1080, 1081, 1082, 1083, 664, 665, 666] (by decide +kernel) (by decide +kernel)
set_option maxRecDepth 20000 in
theorem lq_wsL_law_r32 : GoodIn lw_tbl wsL_law_r32 := goodIn_r _ [667, 233, 235, 668, 669, 670, 671, 150, 129, 123, 155, 672, 673, 674, 675, 676, 125, 120, 127, 144, 678, 679, 677, 680] (by decide +kernel) (by decide +kernel)
set_option maxRecDepth 20000 in
theorem lq_wsL_law_r33 : GoodIn lw_tbl wsL_law_r33 := goodIn_r _ [681, 682, 683, 685, 686, 687, 688, 689, 690, 691, 692, 1084, 1085, 1086, 1087, 1088, 1089, 1091, 15, 1092, 1093, 1095, 16, 1096] (by decide +kernel) (by decide +kernel)
set_option maxRecDepth 20000 in
theorem lq_wsL_law_r34 : GoodIn lw_tbl wsL_law_r34 := goodIn_r _ [1097, 1099, 17, 1100, 1101, 1103, 18, 1104, 693, 694, 695, 696, 697, 698, 699, 700, 701, 1105, 1106, 1107, 1108, 702, 703, 704] (by decide +kernel) (by decide +kernel)
set_option maxRecDepth 20000 in
theorem lq_wsL_law_r35 : GoodIn lw_tbl wsL_law_r35 := goodIn_r _ [705, 706, 707, 708, 709, 1109, 1110, 1111, 1112, 710, 711, 712, 713, 714, 715, 42, 716, 717, 718, 719, 1113, 1114, 1115, 1116] (by decide +kernel) (by decide +kernel)
set_option maxRecDepth 20000 in
theorem lq_wsL_law_r36 : GoodIn lw_tbl wsL_law_r36 := goodIn_r _ [720, 721, 722, 723, 724, 725, 726, 727, 728, 729, 730, 731, 732, 733, 734, 735, 736, 737, 738, 739, 740, 741, 742, 743] (by decide +kernel) (by decide +kernel)
set_option maxRecDepth 20000 in
theorem lq_wsL_law_r37 : GoodIn lw_tbl wsL_law_r37 := goodIn_r _ [1117, 1118, 1119, 1120, 823, 1121, 1123, 19, 1124, 744, 745, 746, 747, 1125, 1126, 1127, 1128, 748, 749, 750, 751, 752, 753, 754] (by decide +kernel) (by decide +kernel)
set_option maxRecDepth 20000 in
theorem lq_wsL_law_r38 : GoodIn lw_tbl wsL_law_r38 := goodIn_r _ [755, 756, 757, 758, 759, 760, 761, 762, 763, 764, 765, 766, 769, 1149, 1150, 1151, 1152, 1136, 1145, 1147, 20, 1148, 770, 771] (by decide +kernel) (by decide +kernel)
set_option maxRecDepth 20000 in
theorem lq_wsL_law_r39 : GoodIn lw_tbl wsL_law_r39 := goodIn_r _ [772, 773, 774, 775, 776, 777, 1153, 1154, 1155, 1156, 1157, 778, 779, 780, 781, 782, 783, 784, 785, 786, 1129, 1130, 1131, 1132] (by decide +kernel) (by decide +kernel)
set_option maxRecDepth 20000 in
theorem lq_wsL_law_r40 : GoodIn lw_tbl wsL_law_r40 := goodIn_r _ [1133, 1134, 1135, 787, 788, 789, 790, 252, 254, 1137, 1138, 1139, 1140, 791, 792, 793, 794, 1141, 1142, 1143, 1144] (by decide +kernel) (by decide +kernel)
set_option maxRecDepth 20000 in
theorem lq_wsX100 : GoodIn lw_tbl wsX100 := goodIn_r _ [276, 278, 280, 282, 284, 286, 288, 290] (by decide +kernel) (by decide +kernel)
set_option maxRecDepth 20000 in
theorem lq_wsX110 : GoodIn lw_tbl wsX110 := goodIn_r _ [829, 831, 833, 835, 837, 839, 841, 843, 845, 847, 849, 851, 853, 855, 857, 859, 861, 863, 865, 867, 869, 871, 873, 875, 877, 879, 881, 883] (by decide +kernel) (by decide +kernel)
set_option maxRecDepth 20000 in
theorem lq_wsX40 : GoodIn lw_tbl wsX40 := goodIn_r _ [157, 159, 161, 163, 165, 167] (by decide +kernel) (by decide +kernel)
set_option maxRecDepth 20000 in
theorem lq_wsX70 : GoodIn lw_tbl wsX70 := goodIn_r _ [180, 182, 184] (by decide +kernel) (by decide +kernel)
set_option maxRecDepth 20000 in
theorem lq_wsX00 : GoodIn lw_tbl wsX00 := goodIn_r _ [200, 202, 204] (by decide +kernel) (by decide +kernel)
set_option maxRecDepth 20000 in
theorem lq_wsX30 : GoodIn lw_tbl wsX30 := goodIn_r _ [217, 219, 221, 223] (by decide +kernel) (by decide +kernel)
set_option maxRecDepth 20000 in
theorem lq_wsX60 : GoodIn lw_tbl wsX60 := goodIn_r _ [236, 238] (by decide +kernel) (by decide +kernel)
set_option maxRecDepth 20000 in
theorem lq_wsX50 : GoodIn lw_tbl wsX50 := goodIn_r _ [255, 257, 259, 261, 263] (by decide +kernel) (by decide +kernel)
set_option maxRecDepth 20000 in
theorem lq_wsX20 : GoodIn lw_tbl wsX20 := goodIn_r _ [70] (by decide +kernel) (by decide +kernel)
set_option maxRecDepth 20000 in
theorem lq_wsX80 : GoodIn lw_tbl wsX80 := goodIn_r _ [87, 89, 91, 93] (by decide +kernel) (by decide +kernel)
set_option maxRecDepth 20000 in
theorem lq_wsX90 : GoodIn lw_tbl wsX90 := goodIn_r _ [108, 110] (by decide +kernel) (by decide +kernel)
set_option maxRecDepth 20000 in
theorem lq_wsX10 : GoodIn lw_tbl wsX10 := goodIn_r _ [131, 133, 135, 137, 139] (by decide +kernel) (by decide +kernel)
theorem lq_law : GoodIn lw_tbl wsL_law := (goodIn_app (goodIn_app (goodIn_app (goodIn_app (goodIn_app (goodIn_app (goodIn_app (goodIn_app (goodIn_app (goodIn_app (goodIn_app (goodIn_app (goodIn_app (goodIn_app lq_wsL_law_r1 (goodIn_app lq_wsL_law_r2 (goodIn_app lq_wsL_law_r3 (goodIn_app lq_wsL_law_r4 (goodIn_app lq_wsL_law_r5 (goodIn_app lq_wsL_law_r6 (goodIn_app lq_wsL_law_r7 (goodIn_app lq_wsL_law_r8 (goodIn_app lq_wsL_law_r9 (goodIn_app lq_wsL_law_r10 (goodIn_app lq_wsL_law_r11 (goodIn_app lq_wsL_law_r12 (goodIn_app lq_wsL_law_r13 (goodIn_app lq_wsL_law_r14 (goodIn_app lq_wsL_law_r15 (goodIn_app lq_wsL_law_r16 (goodIn_app lq_wsL_law_r17 (goodIn_app lq_wsL_law_r18 (goodIn_app lq_wsL_law_r19 (goodIn_app lq_wsL_law_r20 (goodIn_app lq_wsL_law_r21 (goodIn_app lq_wsL_law_r22 (goodIn_app lq_wsL_law_r23 (goodIn_app lq_wsL_law_r24 (goodIn_app lq_wsL_law_r25 (goodIn_app lq_wsL_law_r26 (goodIn_app lq_wsL_law_r27 (goodIn_app lq_wsL_law_r28 (goodIn_app lq_wsL_law_r29 (goodIn_app lq_wsL_law_r30 (goodIn_app lq_wsL_law_r31 (goodIn_app lq_wsL_law_r32 (goodIn_app lq_wsL_law_r33 (goodIn_app lq_wsL_law_r34 (goodIn_app lq_wsL_law_r35 (goodIn_app lq_wsL_law_r36 (goodIn_app lq_wsL_law_r37 (goodIn_app lq_wsL_law_r38 (goodIn_app lq_wsL_law_r39 lq_wsL_law_r40))))))))))))))))))))))))))))))))))))))) lq_wsX100) lq_wsX110) lq_wsX40) lq_wsX70) lq_wsX00) lq_wsX30) lq_wsX60) lq_wsX50) lq_wsX20) lq_wsX80) lq_wsX90) lq_wsX10) (fun _ h => absurd h List.not_mem_nil))
theorem lq_in : ∀ w ∈ wsL_law, w ∈ lw_tbl := fun w h => (lq_law w h).1
theorem inlX0 : ∀ w ∈ wsX00, w ∈ wsL_law := fun _ h => List.mem_append_left _ (List.mem_append_left _ (List.mem_append_left _ (List.mem_append_left _ (List.mem_append_left _ (List.mem_append_left _ (List.mem_append_left _ (List.mem_append_left _ (List.mem_append_right _ h))))))))
theorem inlX1 : ∀ w ∈ wsX10, w ∈ wsL_law := fun _ h => List.mem_append_left _ (List.mem_append_right _ h)
theorem inlX2 : ∀ w ∈ wsX20, w ∈ wsL_law := fun _ h => List.mem_append_left _ (List.mem_append_left _ (List.mem_append_left _ (List.mem_append_left _ (List.mem_append_right _ h))))
theorem inlX3 : ∀ w ∈ wsX30, w ∈ wsL_law := fun _ h => List.mem_append_left _ (List.mem_append_left _ (List.mem_append_left _ (List.mem_append_left _ (List.mem_append_left _ (List.mem_append_left _ (List.mem_append_left _ (List.mem_append_right _ h)))))))
theorem inlX4 : ∀ w ∈ wsX40, w ∈ wsL_law := fun _ h => List.mem_append_left _ (List.mem_append_left _ (List.mem_append_left _ (List.mem_append_left _ (List.mem_append_left _ (List.mem_append_left _ (List.mem_append_left _ (List.mem_append_left _ (List.mem_append_left _ (List.mem_append_left _ (List.mem_append_right _ h))))))))))
theorem inlX5 : ∀ w ∈ wsX50, w ∈ wsL_law := fun _ h => List.mem_append_left _ (List.mem_append_left _ (List.mem_append_left _ (List.mem_append_left _ (List.mem_append_left _ (List.mem_append_right _ h)))))
theorem inlX6 : ∀ w ∈ wsX60, w ∈ wsL_law := fun _ h => List.mem_append_left _ (List.mem_append_left _ (List.mem_append_left _ (List.mem_append_left _ (List.mem_append_left _ (List.mem_append_left _ (List.mem_append_right _ h))))))
theorem inlX7 : ∀ w ∈ wsX70, w ∈ wsL_law := fun _ h => List.mem_append_left _ (List.mem_append_left _ (List.mem_append_left _ (List.mem_append_left _ (List.mem_append_left _ (List.mem_append_left _ (List.mem_append_left _ (List.mem_append_left _ (List.mem_append_left _ (List.mem_append_right _ h)))))))))
theorem inlX8 : ∀ w ∈ wsX80, w ∈ wsL_law := fun _ h => List.mem_append_left _ (List.mem_append_left _ (List.mem_append_left _ (List.mem_append_right _ h)))
theorem inlX9 : ∀ w ∈ wsX90, w ∈ wsL_law := fun _ h => List.mem_append_left _ (List.mem_append_left _ (List.mem_append_right _ h))
theorem inlX10 : ∀ w ∈ wsX100, w ∈ wsL_law := fun _ h => List.mem_append_left _ (List.mem_append_left _ (List.mem_append_left _ (List.mem_append_left _ (List.mem_append_left _ (List.mem_append_left _ (List.mem_append_left _ (List.mem_append_left _ (List.mem_append_left _ (List.mem_append_left _ (List.mem_append_left _ (List.mem_append_left _ (List.mem_append_right _ h))))))))))))
theorem inlX11 : ∀ w ∈ wsX110, w ∈ wsL_law := fun _ h => List.mem_append_left _ (List.mem_append_left _ (List.mem_append_left _ (List.mem_append_left _ (List.mem_append_left _ (List.mem_append_left _ (List.mem_append_left _ (List.mem_append_left _ (List.mem_append_left _ (List.mem_append_left _ (List.mem_append_left _ (List.mem_append_right _ h)))))))))))
