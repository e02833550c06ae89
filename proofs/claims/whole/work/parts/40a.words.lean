/-! the law's words among the tables' -/
theorem mem_r {big : List Cond} (ws : List Cond) (ps : List Nat) (hp : ws = ps.filterMap (fun i => big[i]?)) : ∀ w ∈ ws, w ∈ big := by
  intro w hw
  rw [hp] at hw
  obtain ⟨i, -, hi⟩ := List.mem_filterMap.mp hw
  exact List.mem_of_getElem? hi
set_option maxRecDepth 20000 in
theorem wl_1 : ∀ w ∈ wsL_law_r1, w ∈ lw_tbl := mem_r _ [58, 59, 45, 754, 755, 51, 60, 61, 62, 63, 64, 65, 66, 67, 46, 252, 190, 73, 47, 253, 254, 192, 193, 48] (by decide +kernel)
set_option maxRecDepth 20000 in
theorem wl_2 : ∀ w ∈ wsL_law_r2, w ∈ lw_tbl := mem_r _ [255, 209, 256, 211, 49, 232, 257, 234, 50, 134, 258, 259, 260, 69, 70, 71, 133, 135, 72, 138, 150, 189, 151, 75] (by decide +kernel)
set_option maxRecDepth 20000 in
theorem wl_3 : ∀ w ∈ wsL_law_r3, w ∈ lw_tbl := mem_r _ [76, 77, 78, 80, 82, 100, 195, 196, 197, 198, 199, 213, 214, 215, 216, 220, 218, 222, 236, 237, 238, 239, 243, 756] (by decide +kernel)
set_option maxRecDepth 20000 in
theorem wl_4 : ∀ w ∈ wsL_law_r4, w ∈ lw_tbl := mem_r _ [757, 758, 759, 768, 769, 770, 771, 775, 777, 788, 792, 793, 794, 795, 796, 798, 760, 762, 11, 763, 772, 773, 774, 776] (by decide +kernel)
set_option maxRecDepth 20000 in
theorem wl_5 : ∀ w ∈ wsL_law_r5, w ∈ lw_tbl := mem_r _ [764, 766, 12, 767, 283, 284, 285, 286, 137, 287, 288, 289, 290, 291, 292, 293, 136, 862, 863, 864, 865, 866, 778, 867] (by decide +kernel)
set_option maxRecDepth 20000 in
theorem wl_6 : ∀ w ∈ wsL_law_r6, w ∈ lw_tbl := mem_r _ [868, 869, 294, 295, 296, 297, 870, 871, 872, 873, 298, 299, 300, 301, 143, 145, 139, 201, 224, 141, 302, 303, 304, 305] (by decide +kernel)
set_option maxRecDepth 20000 in
theorem wl_7 : ∀ w ∈ wsL_law_r7, w ∈ lw_tbl := mem_r _ [146, 140, 306, 307, 308, 309, 142, 144, 148, 152, 153, 154, 155, 310, 311, 312, 313, 85, 88, 91, 94, 96, 98, 314] (by decide +kernel)
set_option maxRecDepth 20000 in
theorem wl_8 : ∀ w ∈ wsL_law_r8, w ∈ lw_tbl := mem_r _ [315, 316, 317, 147, 318, 319, 320, 321, 322, 323, 324, 325, 326, 327, 149, 328, 329, 330, 331, 332, 333, 334, 335, 337] (by decide +kernel)
set_option maxRecDepth 20000 in
theorem wl_9 : ∀ w ∈ wsL_law_r9, w ∈ lw_tbl := mem_r _ [338, 339, 340, 341, 342, 343, 52, 344, 1187, 345, 346, 347, 348, 349, 1188, 351, 352, 353, 354, 355, 356, 357, 358, 359] (by decide +kernel)
set_option maxRecDepth 20000 in
theorem wl_10 : ∀ w ∈ wsL_law_r10, w ∈ lw_tbl := mem_r _ [360, 53, 361, 362, 363, 364, 365, 367, 368, 54, 369, 370, 371, 55, 372, 373, 374, 375, 376, 377, 378, 379, 380, 381] (by decide +kernel)
set_option maxRecDepth 20000 in
theorem wl_11 : ∀ w ∈ wsL_law_r11, w ∈ lw_tbl := mem_r _ [382, 383, 385, 387, 389, 390, 391, 392, 87, 397, 398, 399, 400, 401, 402, 403, 404, 406, 407, 408, 409, 410, 411, 412] (by decide +kernel)
set_option maxRecDepth 20000 in
theorem wl_12 : ∀ w ∈ wsL_law_r12, w ∈ lw_tbl := mem_r _ [413, 418, 419, 420, 421, 423, 424, 425, 426, 90, 428, 429, 430, 431, 93, 432, 433, 434, 435, 84, 436, 437, 438, 439] (by decide +kernel)
set_option maxRecDepth 20000 in
theorem wl_13 : ∀ w ∈ wsL_law_r13, w ∈ lw_tbl := mem_r _ [440, 442, 441, 56, 874, 875, 876, 877, 783, 779, 781, 784, 878, 880, 13, 881, 780, 886, 887, 888, 889, 782, 882, 884] (by decide +kernel)
set_option maxRecDepth 20000 in
theorem wl_14 : ∀ w ∈ wsL_law_r14, w ∈ lw_tbl := mem_r _ [14, 885, 890, 892, 15, 893, 894, 896, 16, 897, 898, 900, 17, 901, 902, 904, 18, 905, 906, 908, 19, 909, 910, 912] (by decide +kernel)
set_option maxRecDepth 20000 in
theorem wl_15 : ∀ w ∈ wsL_law_r15, w ∈ lw_tbl := mem_r _ [20, 913, 914, 916, 21, 917, 918, 920, 22, 921, 922, 924, 23, 925, 926, 928, 24, 929, 443, 444, 445, 446, 930, 931] (by decide +kernel)
set_option maxRecDepth 20000 in
theorem wl_16 : ∀ w ∈ wsL_law_r16, w ∈ lw_tbl := mem_r _ [932, 933, 447, 448, 449, 450, 86, 95, 92, 89, 97, 99, 934, 935, 936, 937, 451, 452, 453, 454, 81, 455, 457, 0] (by decide +kernel)
set_option maxRecDepth 20000 in
theorem wl_17 : ∀ w ∈ wsL_law_r17, w ∈ lw_tbl := mem_r _ [458, 459, 460, 461, 462, 463, 464, 57, 465, 466, 467, 468, 469, 938, 939, 940, 941, 946, 942, 944, 25, 945, 947, 949] (by decide +kernel)
set_option maxRecDepth 20000 in
theorem wl_18 : ∀ w ∈ wsL_law_r18, w ∈ lw_tbl := mem_r _ [26, 950, 951, 953, 27, 954, 955, 957, 28, 958, 959, 961, 29, 962, 470, 471, 472, 473, 83, 474, 476, 1, 477, 963] (by decide +kernel)
set_option maxRecDepth 20000 in
theorem wl_19 : ∀ w ∈ wsL_law_r19, w ∈ lw_tbl := mem_r _ [964, 965, 966, 478, 479, 480, 481, 482, 483, 484, 485, 488, 489, 490, 491, 967, 968, 969, 970, 971, 972, 973, 974, 975] (by decide +kernel)
set_option maxRecDepth 20000 in
theorem wl_20 : ∀ w ∈ wsL_law_r20, w ∈ lw_tbl := mem_r _ [976, 977, 979, 30, 980, 492, 493, 494, 495, 981, 982, 983, 984, 985, 496, 497, 498, 499, 986, 987, 988, 989, 990, 500] (by decide +kernel)
set_option maxRecDepth 20000 in
theorem wl_21 : ∀ w ∈ wsL_law_r21, w ∈ lw_tbl := mem_r _ [501, 502, 503, 504, 505, 506, 507, 991, 992, 993, 994, 508, 509, 510, 511, 512, 513, 995, 996, 997, 998, 514, 515, 516] (by decide +kernel)
set_option maxRecDepth 20000 in
theorem wl_22 : ∀ w ∈ wsL_law_r22, w ∈ lw_tbl := mem_r _ [517, 518, 520, 2, 521, 522, 523, 524, 525, 526, 527, 528, 529, 530, 531, 532, 533, 104, 102, 106, 539, 540, 541, 534] (by decide +kernel)
set_option maxRecDepth 20000 in
theorem wl_23 : ∀ w ∈ wsL_law_r23, w ∈ lw_tbl := mem_r _ [535, 536, 537, 538, 542, 543, 544, 545, 999, 1000, 1001, 1002, 1003, 1005, 31, 1006, 1007, 1009, 32, 1010, 1011, 1013, 33, 1014] (by decide +kernel)
set_option maxRecDepth 20000 in
theorem wl_24 : ∀ w ∈ wsL_law_r24, w ∈ lw_tbl := mem_r _ [785, 787, 786, 1015, 1016, 1017, 1018, 1020, 34, 1021, 1022, 1024, 35, 1025, 1026, 1028, 36, 1029, 546, 547, 548, 549, 105, 101] (by decide +kernel)
set_option maxRecDepth 20000 in
theorem wl_25 : ∀ w ∈ wsL_law_r25, w ∈ lw_tbl := mem_r _ [550, 551, 552, 553, 1030, 1031, 1032, 1033, 1038, 1034, 1035, 1036, 1037, 554, 555, 556, 557, 103, 1039, 1040, 1041, 1042, 1043, 558] (by decide +kernel)
set_option maxRecDepth 20000 in
theorem wl_26 : ∀ w ∈ wsL_law_r26, w ∈ lw_tbl := mem_r _ [559, 560, 561, 562, 564, 3, 565, 1044, 1045, 1046, 1047, 1048, 1050, 37, 1051, 566, 567, 568, 569, 570, 571, 572, 573, 1052] (by decide +kernel)
set_option maxRecDepth 20000 in
theorem wl_27 : ∀ w ∈ wsL_law_r27, w ∈ lw_tbl := mem_r _ [1053, 1054, 1055, 1056, 1058, 38, 1059, 574, 575, 576, 577, 1060, 1061, 1062, 1063, 578, 579, 580, 581, 582, 1064, 1065, 1066, 1067] (by decide +kernel)
set_option maxRecDepth 20000 in
theorem wl_28 : ∀ w ∈ wsL_law_r28, w ∈ lw_tbl := mem_r _ [583, 584, 585, 586, 587, 588, 589, 590, 591, 592, 1068, 1069, 1070, 1071, 1072, 1073, 1074, 593, 594, 595, 596, 597, 598, 599] (by decide +kernel)
set_option maxRecDepth 20000 in
theorem wl_29 : ∀ w ∈ wsL_law_r29, w ∈ lw_tbl := mem_r _ [600, 1075, 1076, 1077, 1078, 601, 602, 603, 604, 1079, 1080, 1081, 1082, 1083, 1085, 39, 1086, 605, 606, 607, 608, 1087, 1088, 1089] (by decide +kernel)
set_option maxRecDepth 20000 in
theorem wl_30 : ∀ w ∈ wsL_law_r30, w ∈ lw_tbl := mem_r _ [1090, 609, 610, 611, 612, 613, 615, 4, 616, 107, 1091, 1092, 1093, 1094, 617, 618, 619, 620, 621, 622, 623, 624, 626, 5] (by decide +kernel)
set_option maxRecDepth 20000 in
theorem wl_31 : ∀ w ∈ wsL_law_r31, w ∈ lw_tbl := mem_r _ [627, 628, 629, 630, 631, 632, 633, 634, 1095, 1096, 1097, 1098, 1099, 1100, 1101, 1102, 789, 791, 1103, 1105, 40, 1106, 790, 1107] (by decide +kernel)
set_option maxRecDepth 20000 in
theorem wl_32 : ∀ w ∈ wsL_law_r32, w ∈ lw_tbl := mem_r _ [1108, 1109, 1110, 1111, 1112, 635, 636, 637, 638, 1113, 1114, 1115, 1116, 639, 640, 641, 642, 643, 644, 645, 646, 200, 1117, 1118] (by decide +kernel)
set_option maxRecDepth 20000 in
theorem wl_33 : ∀ w ∈ wsL_law_r33, w ∈ lw_tbl := mem_r _ [1119, 1120, 647, 648, 649, 650, 1121, 1122, 1123, 1124, 651, 652, 653, 654, 655, 657, 6, 658, 659, 661, 7, 662, 663, 664] (by decide +kernel)
set_option maxRecDepth 20000 in
theorem wl_34 : ∀ w ∈ wsL_law_r34, w ∈ lw_tbl := mem_r _ [665, 666, 1125, 1126, 1127, 1128, 1129, 1131, 41, 1132, 667, 668, 669, 670, 1133, 1134, 1135, 1136, 671, 672, 673, 674, 675, 677] (by decide +kernel)
set_option maxRecDepth 20000 in
theorem wl_35 : ∀ w ∈ wsL_law_r35, w ∈ lw_tbl := mem_r _ [8, 678, 679, 681, 9, 682, 683, 1137, 1138, 1139, 1140, 684, 685, 686, 687, 688, 1141, 1142, 1143, 1144, 1145, 689, 690, 691] (by decide +kernel)
set_option maxRecDepth 20000 in
theorem wl_36 : ∀ w ∈ wsL_law_r36, w ∈ lw_tbl := mem_r _ [692, 221, 223, 693, 694, 695, 696, 697, 1146, 1147, 1148, 1149, 1150, 1152, 42, 1153, 698, 699, 700, 701, 1154, 1155, 1156, 1157] (by decide +kernel)
set_option maxRecDepth 20000 in
theorem wl_37 : ∀ w ∈ wsL_law_r37, w ∈ lw_tbl := mem_r _ [702, 703, 704, 705, 706, 707, 708, 709, 710, 711, 712, 713, 714, 715, 241, 1158, 1159, 1160, 1161, 1162, 1163, 1164, 716, 717] (by decide +kernel)
set_option maxRecDepth 20000 in
theorem wl_38 : ∀ w ∈ wsL_law_r38, w ∈ lw_tbl := mem_r _ [718, 719, 242, 240, 720, 721, 722, 723, 725, 726, 727, 728, 1165, 1166, 1167, 1168, 729, 730, 731, 732, 261, 733, 734, 735] (by decide +kernel)
set_option maxRecDepth 20000 in
theorem wl_39 : ∀ w ∈ wsL_law_r39, w ∈ lw_tbl := mem_r _ [736, 737, 738, 740, 10, 741, 1169, 1170, 1171, 1172, 797, 1173, 1174, 742, 743, 744, 745, 1175, 1176, 1177, 1178, 746, 747, 748] (by decide +kernel)
set_option maxRecDepth 20000 in
theorem wl_40 : ∀ w ∈ wsL_law_r40, w ∈ lw_tbl := mem_r _ [749, 244, 750, 751, 752, 753, 1179, 1180, 1181, 1182, 1183, 1185, 43, 1186] (by decide +kernel)
set_option maxRecDepth 20000 in
theorem wl_wsX50 : ∀ w ∈ wsX50, w ∈ lw_tbl := mem_r _ [262, 264, 266, 268, 270, 272, 274, 276, 278, 280] (by decide +kernel)
set_option maxRecDepth 20000 in
theorem wl_wsX60 : ∀ w ∈ wsX60, w ∈ lw_tbl := mem_r _ [799, 801, 803, 805, 807, 809, 811, 813, 815, 817, 819, 821, 823, 825, 827, 829, 831, 833, 835, 837, 839, 841, 843, 845, 847, 849, 851, 853, 855, 857, 859] (by decide +kernel)
set_option maxRecDepth 20000 in
theorem wl_wsX40 : ∀ w ∈ wsX40, w ∈ lw_tbl := mem_r _ [156, 158, 160, 162, 164, 166, 168, 170, 172, 174, 176, 178, 180, 182, 184, 186] (by decide +kernel)
set_option maxRecDepth 20000 in
theorem wl_wsX00 : ∀ w ∈ wsX00, w ∈ lw_tbl := mem_r _ [108, 110, 112, 114, 116, 118, 120, 122, 124, 126, 128, 130] (by decide +kernel)
set_option maxRecDepth 20000 in
theorem wl_wsX30 : ∀ w ∈ wsX30, w ∈ lw_tbl := mem_r _ [202, 204, 206] (by decide +kernel)
set_option maxRecDepth 20000 in
theorem wl_wsX10 : ∀ w ∈ wsX10, w ∈ lw_tbl := mem_r _ [225, 227, 229] (by decide +kernel)
set_option maxRecDepth 20000 in
theorem wl_wsX20 : ∀ w ∈ wsX20, w ∈ lw_tbl := mem_r _ [245, 247, 249] (by decide +kernel)
theorem mem_ap {a b c : List Cond} (h1 : ∀ w ∈ a, w ∈ c) (h2 : ∀ w ∈ b, w ∈ c) : ∀ w ∈ a ++ b, w ∈ c := fun w h => (List.mem_append.mp h).elim (h1 w) (h2 w)
theorem wsL_law_in : ∀ w ∈ wsL_law, w ∈ lw_tbl := mem_ap (mem_ap (mem_ap (mem_ap (mem_ap (mem_ap (mem_ap (mem_ap (mem_ap wl_1 (mem_ap wl_2 (mem_ap wl_3 (mem_ap wl_4 (mem_ap wl_5 (mem_ap wl_6 (mem_ap wl_7 (mem_ap wl_8 (mem_ap wl_9 (mem_ap wl_10 (mem_ap wl_11 (mem_ap wl_12 (mem_ap wl_13 (mem_ap wl_14 (mem_ap wl_15 (mem_ap wl_16 (mem_ap wl_17 (mem_ap wl_18 (mem_ap wl_19 (mem_ap wl_20 (mem_ap wl_21 (mem_ap wl_22 (mem_ap wl_23 (mem_ap wl_24 (mem_ap wl_25 (mem_ap wl_26 (mem_ap wl_27 (mem_ap wl_28 (mem_ap wl_29 (mem_ap wl_30 (mem_ap wl_31 (mem_ap wl_32 (mem_ap wl_33 (mem_ap wl_34 (mem_ap wl_35 (mem_ap wl_36 (mem_ap wl_37 (mem_ap wl_38 (mem_ap wl_39 wl_40))))))))))))))))))))))))))))))))))))))) wl_wsX50) wl_wsX60) wl_wsX40) wl_wsX00) wl_wsX30) wl_wsX10) wl_wsX20) (fun _ h => absurd h List.not_mem_nil)
