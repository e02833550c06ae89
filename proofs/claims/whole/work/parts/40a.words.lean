/-! the law's words among the tables' -/
theorem mem_r {big : List Cond} (ws : List Cond) (ps : List Nat) (hp : ws = ps.filterMap (fun i => big[i]?)) : ∀ w ∈ ws, w ∈ big := by
  intro w hw
  rw [hp] at hw
  obtain ⟨i, -, hi⟩ := List.mem_filterMap.mp hw
  exact List.mem_of_getElem? hi
set_option maxRecDepth 20000 in
theorem wl_1 : ∀ w ∈ wsL_law_r1, w ∈ lw_tbl := mem_r _ [58, 59, 45, 755, 756, 51, 60, 61, 62, 63, 64, 65, 66, 67, 46, 252, 190, 73, 47, 253, 254, 192, 193, 48] (by decide +kernel)
set_option maxRecDepth 20000 in
theorem wl_2 : ∀ w ∈ wsL_law_r2, w ∈ lw_tbl := mem_r _ [255, 209, 256, 211, 49, 232, 257, 234, 50, 134, 258, 259, 260, 69, 70, 71, 133, 135, 72, 138, 150, 189, 151, 75] (by decide +kernel)
set_option maxRecDepth 20000 in
theorem wl_3 : ∀ w ∈ wsL_law_r3, w ∈ lw_tbl := mem_r _ [76, 77, 78, 80, 82, 100, 195, 196, 197, 198, 199, 213, 214, 215, 216, 220, 218, 222, 236, 237, 238, 239, 243, 757] (by decide +kernel)
set_option maxRecDepth 20000 in
theorem wl_4 : ∀ w ∈ wsL_law_r4, w ∈ lw_tbl := mem_r _ [758, 759, 760, 769, 770, 771, 772, 776, 778, 789, 793, 794, 795, 796, 797, 799, 761, 763, 11, 764, 773, 774, 775, 777] (by decide +kernel)
set_option maxRecDepth 20000 in
theorem wl_5 : ∀ w ∈ wsL_law_r5, w ∈ lw_tbl := mem_r _ [765, 767, 12, 768, 283, 284, 285, 286, 137, 287, 288, 289, 290, 291, 292, 293, 136, 863, 864, 865, 866, 867, 779, 868] (by decide +kernel)
set_option maxRecDepth 20000 in
theorem wl_6 : ∀ w ∈ wsL_law_r6, w ∈ lw_tbl := mem_r _ [869, 870, 294, 295, 296, 297, 871, 872, 873, 874, 298, 299, 300, 301, 143, 145, 139, 201, 224, 141, 302, 303, 304, 305] (by decide +kernel)
set_option maxRecDepth 20000 in
theorem wl_7 : ∀ w ∈ wsL_law_r7, w ∈ lw_tbl := mem_r _ [146, 140, 306, 307, 308, 309, 142, 144, 148, 152, 153, 154, 155, 310, 311, 312, 313, 85, 88, 91, 94, 96, 98, 314] (by decide +kernel)
set_option maxRecDepth 20000 in
theorem wl_8 : ∀ w ∈ wsL_law_r8, w ∈ lw_tbl := mem_r _ [315, 316, 317, 147, 318, 319, 320, 321, 322, 323, 324, 325, 326, 327, 149, 328, 329, 330, 331, 332, 333, 334, 335, 337] (by decide +kernel)
set_option maxRecDepth 20000 in
theorem wl_9 : ∀ w ∈ wsL_law_r9, w ∈ lw_tbl := mem_r _ [338, 339, 340, 341, 342, 343, 52, 344, 1188, 345, 346, 347, 348, 349, 1189, 351, 352, 353, 354, 355, 356, 357, 358, 359] (by decide +kernel)
set_option maxRecDepth 20000 in
theorem wl_10 : ∀ w ∈ wsL_law_r10, w ∈ lw_tbl := mem_r _ [360, 53, 361, 362, 363, 364, 365, 367, 368, 54, 369, 370, 371, 55, 372, 373, 374, 375, 376, 377, 378, 379, 380, 381] (by decide +kernel)
set_option maxRecDepth 20000 in
theorem wl_11 : ∀ w ∈ wsL_law_r11, w ∈ lw_tbl := mem_r _ [382, 383, 385, 387, 389, 390, 391, 392, 87, 397, 398, 399, 400, 401, 402, 403, 404, 406, 407, 408, 409, 410, 411, 412] (by decide +kernel)
set_option maxRecDepth 20000 in
theorem wl_12 : ∀ w ∈ wsL_law_r12, w ∈ lw_tbl := mem_r _ [413, 418, 419, 420, 421, 423, 424, 425, 426, 90, 428, 429, 430, 431, 93, 432, 433, 434, 435, 84, 436, 437, 438, 439] (by decide +kernel)
set_option maxRecDepth 20000 in
theorem wl_13 : ∀ w ∈ wsL_law_r13, w ∈ lw_tbl := mem_r _ [440, 442, 441, 56, 875, 876, 877, 878, 784, 780, 782, 785, 879, 881, 13, 882, 781, 887, 888, 889, 890, 783, 883, 885] (by decide +kernel)
set_option maxRecDepth 20000 in
theorem wl_14 : ∀ w ∈ wsL_law_r14, w ∈ lw_tbl := mem_r _ [14, 886, 891, 893, 15, 894, 895, 897, 16, 898, 899, 901, 17, 902, 903, 905, 18, 906, 907, 909, 19, 910, 911, 913] (by decide +kernel)
set_option maxRecDepth 20000 in
theorem wl_15 : ∀ w ∈ wsL_law_r15, w ∈ lw_tbl := mem_r _ [20, 914, 915, 917, 21, 918, 919, 921, 22, 922, 923, 925, 23, 926, 927, 929, 24, 930, 443, 444, 445, 446, 931, 932] (by decide +kernel)
set_option maxRecDepth 20000 in
theorem wl_16 : ∀ w ∈ wsL_law_r16, w ∈ lw_tbl := mem_r _ [933, 934, 447, 448, 449, 450, 86, 95, 92, 89, 97, 99, 935, 936, 937, 938, 451, 452, 453, 454, 81, 455, 457, 0] (by decide +kernel)
set_option maxRecDepth 20000 in
theorem wl_17 : ∀ w ∈ wsL_law_r17, w ∈ lw_tbl := mem_r _ [458, 459, 460, 461, 462, 463, 464, 57, 465, 466, 467, 468, 469, 939, 940, 941, 942, 947, 943, 945, 25, 946, 948, 950] (by decide +kernel)
set_option maxRecDepth 20000 in
theorem wl_18 : ∀ w ∈ wsL_law_r18, w ∈ lw_tbl := mem_r _ [26, 951, 952, 954, 27, 955, 956, 958, 28, 959, 960, 962, 29, 963, 470, 471, 472, 473, 83, 474, 476, 1, 477, 964] (by decide +kernel)
set_option maxRecDepth 20000 in
theorem wl_19 : ∀ w ∈ wsL_law_r19, w ∈ lw_tbl := mem_r _ [965, 966, 967, 478, 479, 480, 481, 482, 483, 484, 485, 488, 489, 490, 491, 968, 969, 970, 971, 972, 973, 974, 975, 976] (by decide +kernel)
set_option maxRecDepth 20000 in
theorem wl_20 : ∀ w ∈ wsL_law_r20, w ∈ lw_tbl := mem_r _ [977, 978, 980, 30, 981, 492, 493, 494, 495, 982, 983, 984, 985, 986, 496, 497, 498, 499, 987, 988, 989, 990, 991, 500] (by decide +kernel)
set_option maxRecDepth 20000 in
theorem wl_21 : ∀ w ∈ wsL_law_r21, w ∈ lw_tbl := mem_r _ [501, 502, 503, 504, 505, 506, 507, 992, 993, 994, 995, 508, 509, 510, 511, 512, 513, 996, 997, 998, 999, 514, 515, 516] (by decide +kernel)
set_option maxRecDepth 20000 in
theorem wl_22 : ∀ w ∈ wsL_law_r22, w ∈ lw_tbl := mem_r _ [517, 518, 520, 2, 521, 522, 523, 524, 525, 526, 527, 528, 529, 530, 531, 532, 533, 104, 102, 106, 539, 540, 541, 534] (by decide +kernel)
set_option maxRecDepth 20000 in
theorem wl_23 : ∀ w ∈ wsL_law_r23, w ∈ lw_tbl := mem_r _ [535, 536, 537, 538, 542, 543, 544, 545, 1000, 1001, 1002, 1003, 1004, 1006, 31, 1007, 1008, 1010, 32, 1011, 1012, 1014, 33, 1015] (by decide +kernel)
set_option maxRecDepth 20000 in
theorem wl_24 : ∀ w ∈ wsL_law_r24, w ∈ lw_tbl := mem_r _ [786, 788, 787, 1016, 1017, 1018, 1019, 1021, 34, 1022, 1023, 1025, 35, 1026, 1027, 1029, 36, 1030, 546, 547, 548, 549, 105, 101] (by decide +kernel)
set_option maxRecDepth 20000 in
theorem wl_25 : ∀ w ∈ wsL_law_r25, w ∈ lw_tbl := mem_r _ [550, 551, 552, 553, 1031, 1032, 1033, 1034, 1039, 1035, 1036, 1037, 1038, 554, 555, 556, 557, 103, 1040, 1041, 1042, 1043, 1044, 558] (by decide +kernel)
set_option maxRecDepth 20000 in
theorem wl_26 : ∀ w ∈ wsL_law_r26, w ∈ lw_tbl := mem_r _ [559, 560, 561, 562, 564, 3, 565, 1045, 1046, 1047, 1048, 1049, 1051, 37, 1052, 566, 567, 568, 569, 570, 571, 572, 573, 1053] (by decide +kernel)
set_option maxRecDepth 20000 in
theorem wl_27 : ∀ w ∈ wsL_law_r27, w ∈ lw_tbl := mem_r _ [1054, 1055, 1056, 1057, 1059, 38, 1060, 574, 575, 576, 577, 1061, 1062, 1063, 1064, 578, 579, 580, 581, 582, 1065, 1066, 1067, 1068] (by decide +kernel)
set_option maxRecDepth 20000 in
theorem wl_28 : ∀ w ∈ wsL_law_r28, w ∈ lw_tbl := mem_r _ [583, 584, 585, 586, 587, 588, 589, 590, 591, 592, 1069, 1070, 1071, 1072, 1073, 1074, 1075, 593, 594, 595, 596, 597, 598, 599] (by decide +kernel)
set_option maxRecDepth 20000 in
theorem wl_29 : ∀ w ∈ wsL_law_r29, w ∈ lw_tbl := mem_r _ [600, 1076, 1077, 1078, 1079, 601, 602, 603, 604, 1080, 1081, 1082, 1083, 1084, 1086, 39, 1087, 605, 606, 607, 608, 1088, 1089, 1090] (by decide +kernel)
set_option maxRecDepth 20000 in
theorem wl_30 : ∀ w ∈ wsL_law_r30, w ∈ lw_tbl := mem_r _ [1091, 609, 610, 611, 612, 613, 615, 4, 616, 107, 1092, 1093, 1094, 1095, 617, 618, 619, 620, 621, 622, 623, 624, 626, 5] (by decide +kernel)
set_option maxRecDepth 20000 in
theorem wl_31 : ∀ w ∈ wsL_law_r31, w ∈ lw_tbl := mem_r _ [627, 629, 628, 630, 631, 632, 633, 634, 635, 1096, 1097, 1098, 1099, 1100, 1101, 1102, 1103, 790, 792, 1104, 1106, 40, 1107, 791] (by decide +kernel)
set_option maxRecDepth 20000 in
theorem wl_32 : ∀ w ∈ wsL_law_r32, w ∈ lw_tbl := mem_r _ [1108, 1109, 1110, 1111, 1112, 1113, 636, 637, 638, 639, 1114, 1115, 1116, 1117, 640, 641, 642, 643, 644, 645, 646, 647, 200, 1118] (by decide +kernel)
set_option maxRecDepth 20000 in
theorem wl_33 : ∀ w ∈ wsL_law_r33, w ∈ lw_tbl := mem_r _ [1119, 1120, 1121, 648, 649, 650, 651, 1122, 1123, 1124, 1125, 652, 653, 654, 655, 656, 658, 6, 659, 660, 662, 7, 663, 664] (by decide +kernel)
set_option maxRecDepth 20000 in
theorem wl_34 : ∀ w ∈ wsL_law_r34, w ∈ lw_tbl := mem_r _ [665, 666, 667, 1126, 1127, 1128, 1129, 1130, 1132, 41, 1133, 668, 669, 670, 671, 1134, 1135, 1136, 1137, 672, 673, 674, 675, 676] (by decide +kernel)
set_option maxRecDepth 20000 in
theorem wl_35 : ∀ w ∈ wsL_law_r35, w ∈ lw_tbl := mem_r _ [678, 8, 679, 680, 682, 9, 683, 684, 1138, 1139, 1140, 1141, 685, 686, 687, 688, 689, 1142, 1143, 1144, 1145, 1146, 690, 691] (by decide +kernel)
set_option maxRecDepth 20000 in
theorem wl_36 : ∀ w ∈ wsL_law_r36, w ∈ lw_tbl := mem_r _ [692, 693, 221, 223, 694, 695, 696, 697, 698, 1147, 1148, 1149, 1150, 1151, 1153, 42, 1154, 699, 700, 701, 702, 1155, 1156, 1157] (by decide +kernel)
set_option maxRecDepth 20000 in
theorem wl_37 : ∀ w ∈ wsL_law_r37, w ∈ lw_tbl := mem_r _ [1158, 703, 704, 705, 706, 707, 708, 709, 710, 711, 712, 713, 714, 715, 716, 241, 1159, 1160, 1161, 1162, 1163, 1164, 1165, 717] (by decide +kernel)
set_option maxRecDepth 20000 in
theorem wl_38 : ∀ w ∈ wsL_law_r38, w ∈ lw_tbl := mem_r _ [718, 719, 720, 242, 240, 721, 722, 723, 724, 726, 727, 728, 729, 1166, 1167, 1168, 1169, 730, 731, 732, 733, 261, 734, 735] (by decide +kernel)
set_option maxRecDepth 20000 in
theorem wl_39 : ∀ w ∈ wsL_law_r39, w ∈ lw_tbl := mem_r _ [736, 737, 738, 739, 741, 10, 742, 1170, 1171, 1172, 1173, 798, 1174, 1175, 743, 744, 745, 746, 1176, 1177, 1178, 1179, 747, 748] (by decide +kernel)
set_option maxRecDepth 20000 in
theorem wl_40 : ∀ w ∈ wsL_law_r40, w ∈ lw_tbl := mem_r _ [749, 750, 244, 751, 752, 753, 754, 1180, 1181, 1182, 1183, 1184, 1186, 43, 1187] (by decide +kernel)
set_option maxRecDepth 20000 in
theorem wl_wsX50 : ∀ w ∈ wsX50, w ∈ lw_tbl := mem_r _ [262, 264, 266, 268, 270, 272, 274, 276, 278, 280] (by decide +kernel)
set_option maxRecDepth 20000 in
theorem wl_wsX60 : ∀ w ∈ wsX60, w ∈ lw_tbl := mem_r _ [800, 802, 804, 806, 808, 810, 812, 814, 816, 818, 820, 822, 824, 826, 828, 830, 832, 834, 836, 838, 840, 842, 844, 846, 848, 850, 852, 854, 856, 858, 860] (by decide +kernel)
set_option maxRecDepth 20000 in
theorem wl_wsX40 : ∀ w ∈ wsX40, w ∈ lw_tbl := mem_r _ [156, 158, 160, 162, 164, 166, 168, 170, 172, 174, 176, 178, 180, 182, 184, 186] (by decide +kernel)
set_option maxRecDepth 20000 in
theorem wl_wsX00 : ∀ w ∈ wsX00, w ∈ lw_tbl := mem_r _ [108, 110, 112, 114, 116, 118, 120, 122, 124, 126, 128, 130] (by decide +kernel)
set_option maxRecDepth 20000 in
theorem wl_wsX30 : ∀ w ∈ wsX30, w ∈ lw_tbl := mem_r _ [202, 204, 206] (by decide +kernel)
set_option maxRecDepth 20000 in
theorem wl_wsX10 : ∀ w ∈ wsX10, w ∈ lw_tbl := mem_r _ [225, 227, 229] (by decide +kernel)
set_option maxRecDepth 20000 in
theorem wl_wsX20 : ∀ w ∈ wsX20, w ∈ lw_tbl := mem_r _ [245, 247, 249] (by decide +kernel)
theorem mem_ap {a b c : List Cond} (h1 : ∀ w ∈ a, w ∈ c) (h2 : ∀ w ∈ b, w ∈ c) : ∀ w ∈ a ++ b, w ∈ c := fun w h => (List.mem_append.mp h).elim (h1 w) (h2 w)
theorem wsL_law_in : ∀ w ∈ wsL_law, w ∈ lw_tbl := mem_ap (mem_ap (mem_ap (mem_ap (mem_ap (mem_ap (mem_ap (mem_ap (mem_ap wl_1 (mem_ap wl_2 (mem_ap wl_3 (mem_ap wl_4 (mem_ap wl_5 (mem_ap wl_6 (mem_ap wl_7 (mem_ap wl_8 (mem_ap wl_9 (mem_ap wl_10 (mem_ap wl_11 (mem_ap wl_12 (mem_ap wl_13 (mem_ap wl_14 (mem_ap wl_15 (mem_ap wl_16 (mem_ap wl_17 (mem_ap wl_18 (mem_ap wl_19 (mem_ap wl_20 (mem_ap wl_21 (mem_ap wl_22 (mem_ap wl_23 (mem_ap wl_24 (mem_ap wl_25 (mem_ap wl_26 (mem_ap wl_27 (mem_ap wl_28 (mem_ap wl_29 (mem_ap wl_30 (mem_ap wl_31 (mem_ap wl_32 (mem_ap wl_33 (mem_ap wl_34 (mem_ap wl_35 (mem_ap wl_36 (mem_ap wl_37 (mem_ap wl_38 (mem_ap wl_39 wl_40))))))))))))))))))))))))))))))))))))))) wl_wsX50) wl_wsX60) wl_wsX40) wl_wsX00) wl_wsX30) wl_wsX10) wl_wsX20) (fun _ h => absurd h List.not_mem_nil)
