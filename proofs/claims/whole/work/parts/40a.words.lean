/-! the law's words among the tables' -/
theorem mem_r {big : List Cond} (ws : List Cond) (ps : List Nat) (hp : ws = ps.filterMap (fun i => big[i]?)) : ∀ w ∈ ws, w ∈ big := by
  intro w hw
  rw [hp] at hw
  obtain ⟨i, -, hi⟩ := List.mem_filterMap.mp hw
  exact List.mem_of_getElem? hi
set_option maxRecDepth 20000 in
theorem wl_1 : ∀ w ∈ wsL_law_r1, w ∈ lw_tbl := mem_r _ [58, 59, 45, 757, 758, 51, 60, 61, 62, 63, 64, 65, 66, 67, 46, 255, 193, 73, 47, 256, 257, 195, 196, 48] (by decide +kernel)
set_option maxRecDepth 20000 in
theorem wl_2 : ∀ w ∈ wsL_law_r2, w ∈ lw_tbl := mem_r _ [258, 212, 259, 214, 49, 235, 260, 237, 50, 134, 261, 262, 263, 69, 70, 71, 133, 135, 72, 138, 150, 151, 192, 152] (by decide +kernel)
set_option maxRecDepth 20000 in
theorem wl_3 : ∀ w ∈ wsL_law_r3, w ∈ lw_tbl := mem_r _ [75, 76, 77, 78, 80, 82, 100, 198, 199, 200, 201, 202, 216, 217, 218, 219, 223, 221, 225, 239, 240, 241, 242, 246] (by decide +kernel)
set_option maxRecDepth 20000 in
theorem wl_4 : ∀ w ∈ wsL_law_r4, w ∈ lw_tbl := mem_r _ [759, 760, 761, 762, 771, 772, 773, 774, 778, 780, 791, 795, 796, 797, 798, 799, 801, 763, 765, 11, 766, 775, 776, 777] (by decide +kernel)
set_option maxRecDepth 20000 in
theorem wl_5 : ∀ w ∈ wsL_law_r5, w ∈ lw_tbl := mem_r _ [779, 767, 769, 12, 770, 286, 287, 288, 289, 137, 290, 291, 292, 293, 294, 295, 296, 136, 865, 866, 867, 868, 869, 781] (by decide +kernel)
set_option maxRecDepth 20000 in
theorem wl_6 : ∀ w ∈ wsL_law_r6, w ∈ lw_tbl := mem_r _ [870, 871, 872, 297, 298, 299, 300, 873, 874, 875, 876, 301, 302, 303, 304, 143, 145, 139, 204, 227, 141, 305, 306, 307] (by decide +kernel)
set_option maxRecDepth 20000 in
theorem wl_7 : ∀ w ∈ wsL_law_r7, w ∈ lw_tbl := mem_r _ [308, 146, 140, 309, 310, 311, 312, 142, 144, 148, 153, 154, 155, 156, 313, 314, 315, 316, 85, 88, 91, 94, 96, 98] (by decide +kernel)
set_option maxRecDepth 20000 in
theorem wl_8 : ∀ w ∈ wsL_law_r8, w ∈ lw_tbl := mem_r _ [317, 318, 319, 320, 147, 321, 322, 323, 324, 325, 326, 327, 328, 329, 330, 149, 331, 332, 333, 334, 335, 336, 337, 338] (by decide +kernel)
set_option maxRecDepth 20000 in
theorem wl_9 : ∀ w ∈ wsL_law_r9, w ∈ lw_tbl := mem_r _ [339, 340, 341, 342, 344, 345, 346, 347, 348, 349, 350, 52, 351, 1190, 352, 353, 354, 355, 356, 1191, 358, 359, 360, 361] (by decide +kernel)
set_option maxRecDepth 20000 in
theorem wl_10 : ∀ w ∈ wsL_law_r10, w ∈ lw_tbl := mem_r _ [362, 363, 364, 365, 366, 367, 53, 368, 369, 370, 371, 372, 374, 375, 54, 376, 377, 378, 55, 379, 380, 381, 382, 383] (by decide +kernel)
set_option maxRecDepth 20000 in
theorem wl_11 : ∀ w ∈ wsL_law_r11, w ∈ lw_tbl := mem_r _ [384, 385, 386, 387, 388, 389, 390, 392, 394, 399, 400, 401, 402, 87, 407, 408, 409, 410, 412, 413, 414, 415, 416, 417] (by decide +kernel)
set_option maxRecDepth 20000 in
theorem wl_12 : ∀ w ∈ wsL_law_r12, w ∈ lw_tbl := mem_r _ [418, 419, 421, 422, 423, 424, 426, 427, 428, 429, 90, 431, 432, 433, 434, 93, 435, 436, 437, 438, 84, 439, 440, 441] (by decide +kernel)
set_option maxRecDepth 20000 in
theorem wl_13 : ∀ w ∈ wsL_law_r13, w ∈ lw_tbl := mem_r _ [442, 443, 445, 444, 56, 877, 878, 879, 880, 786, 782, 784, 787, 881, 883, 13, 884, 783, 889, 890, 891, 892, 785, 885] (by decide +kernel)
set_option maxRecDepth 20000 in
theorem wl_14 : ∀ w ∈ wsL_law_r14, w ∈ lw_tbl := mem_r _ [887, 14, 888, 893, 895, 15, 896, 897, 899, 16, 900, 901, 903, 17, 904, 905, 907, 18, 908, 909, 911, 19, 912, 913] (by decide +kernel)
set_option maxRecDepth 20000 in
theorem wl_15 : ∀ w ∈ wsL_law_r15, w ∈ lw_tbl := mem_r _ [915, 20, 916, 917, 919, 21, 920, 921, 923, 22, 924, 925, 927, 23, 928, 929, 931, 24, 932, 446, 447, 448, 449, 933] (by decide +kernel)
set_option maxRecDepth 20000 in
theorem wl_16 : ∀ w ∈ wsL_law_r16, w ∈ lw_tbl := mem_r _ [934, 935, 936, 450, 451, 452, 453, 86, 95, 92, 89, 97, 99, 937, 938, 939, 940, 454, 455, 456, 457, 81, 458, 460] (by decide +kernel)
set_option maxRecDepth 20000 in
theorem wl_17 : ∀ w ∈ wsL_law_r17, w ∈ lw_tbl := mem_r _ [0, 461, 462, 463, 464, 465, 466, 467, 57, 468, 469, 470, 471, 472, 941, 942, 943, 944, 949, 945, 947, 25, 948, 950] (by decide +kernel)
set_option maxRecDepth 20000 in
theorem wl_18 : ∀ w ∈ wsL_law_r18, w ∈ lw_tbl := mem_r _ [952, 26, 953, 954, 956, 27, 957, 958, 960, 28, 961, 962, 964, 29, 965, 473, 474, 475, 476, 83, 477, 479, 1, 480] (by decide +kernel)
set_option maxRecDepth 20000 in
theorem wl_19 : ∀ w ∈ wsL_law_r19, w ∈ lw_tbl := mem_r _ [966, 967, 968, 969, 481, 482, 483, 484, 485, 486, 487, 488, 491, 492, 493, 494, 970, 971, 972, 973, 974, 975, 976, 977] (by decide +kernel)
set_option maxRecDepth 20000 in
theorem wl_20 : ∀ w ∈ wsL_law_r20, w ∈ lw_tbl := mem_r _ [978, 979, 980, 982, 30, 983, 495, 496, 497, 498, 984, 985, 986, 987, 988, 499, 500, 501, 502, 989, 990, 991, 992, 993] (by decide +kernel)
set_option maxRecDepth 20000 in
theorem wl_21 : ∀ w ∈ wsL_law_r21, w ∈ lw_tbl := mem_r _ [503, 504, 505, 506, 507, 508, 509, 510, 994, 995, 996, 997, 511, 512, 513, 514, 515, 516, 998, 999, 1000, 1001, 517, 518] (by decide +kernel)
set_option maxRecDepth 20000 in
theorem wl_22 : ∀ w ∈ wsL_law_r22, w ∈ lw_tbl := mem_r _ [519, 520, 521, 523, 2, 524, 525, 526, 527, 528, 529, 530, 531, 532, 533, 534, 535, 536, 104, 102, 106, 542, 543, 544] (by decide +kernel)
set_option maxRecDepth 20000 in
theorem wl_23 : ∀ w ∈ wsL_law_r23, w ∈ lw_tbl := mem_r _ [537, 538, 539, 540, 541, 545, 546, 547, 548, 1002, 1003, 1004, 1005, 1006, 1008, 31, 1009, 1010, 1012, 32, 1013, 1014, 1016, 33] (by decide +kernel)
set_option maxRecDepth 20000 in
theorem wl_24 : ∀ w ∈ wsL_law_r24, w ∈ lw_tbl := mem_r _ [1017, 788, 790, 789, 1018, 1019, 1020, 1021, 1023, 34, 1024, 1025, 1027, 35, 1028, 1029, 1031, 36, 1032, 549, 550, 551, 552, 105] (by decide +kernel)
set_option maxRecDepth 20000 in
theorem wl_25 : ∀ w ∈ wsL_law_r25, w ∈ lw_tbl := mem_r _ [101, 553, 554, 555, 556, 1033, 1034, 1035, 1036, 1041, 1037, 1038, 1039, 1040, 557, 558, 559, 560, 103, 1042, 1043, 1044, 1045, 1046] (by decide +kernel)
set_option maxRecDepth 20000 in
theorem wl_26 : ∀ w ∈ wsL_law_r26, w ∈ lw_tbl := mem_r _ [561, 562, 563, 564, 565, 567, 3, 568, 1047, 1048, 1049, 1050, 1051, 1053, 37, 1054, 569, 570, 571, 572, 573, 574, 575, 576] (by decide +kernel)
set_option maxRecDepth 20000 in
theorem wl_27 : ∀ w ∈ wsL_law_r27, w ∈ lw_tbl := mem_r _ [1055, 1056, 1057, 1058, 1059, 1061, 38, 1062, 577, 578, 579, 580, 1063, 1064, 1065, 1066, 581, 582, 583, 584, 585, 1067, 1068, 1069] (by decide +kernel)
set_option maxRecDepth 20000 in
theorem wl_28 : ∀ w ∈ wsL_law_r28, w ∈ lw_tbl := mem_r _ [1070, 586, 587, 588, 589, 590, 591, 592, 593, 594, 595, 1071, 1072, 1073, 1074, 1075, 1076, 1077, 596, 597, 598, 599, 600, 601] (by decide +kernel)
set_option maxRecDepth 20000 in
theorem wl_29 : ∀ w ∈ wsL_law_r29, w ∈ lw_tbl := mem_r _ [602, 603, 1078, 1079, 1080, 1081, 604, 605, 606, 607, 1082, 1083, 1084, 1085, 1086, 1088, 39, 1089, 608, 609, 610, 611, 1090, 1091] (by decide +kernel)
set_option maxRecDepth 20000 in
theorem wl_30 : ∀ w ∈ wsL_law_r30, w ∈ lw_tbl := mem_r _ [1092, 1093, 612, 613, 614, 615, 616, 618, 4, 619, 107, 1094, 1095, 1096, 1097, 620, 621, 622, 623, 624, 625, 626, 627, 629] (by decide +kernel)
set_option maxRecDepth 20000 in
theorem wl_31 : ∀ w ∈ wsL_law_r31, w ∈ lw_tbl := mem_r _ [5, 630, 631, 632, 633, 634, 635, 636, 637, 1098, 1099, 1100, 1101, 1102, 1103, 1104, 1105, 792, 794, 1106, 1108, 40, 1109, 793] (by decide +kernel)
set_option maxRecDepth 20000 in
theorem wl_32 : ∀ w ∈ wsL_law_r32, w ∈ lw_tbl := mem_r _ [1110, 1111, 1112, 1113, 1114, 1115, 638, 639, 640, 641, 1116, 1117, 1118, 1119, 642, 643, 644, 645, 646, 647, 648, 649, 203, 1120] (by decide +kernel)
set_option maxRecDepth 20000 in
theorem wl_33 : ∀ w ∈ wsL_law_r33, w ∈ lw_tbl := mem_r _ [1121, 1122, 1123, 650, 651, 652, 653, 1124, 1125, 1126, 1127, 654, 655, 656, 657, 658, 660, 6, 661, 662, 664, 7, 665, 666] (by decide +kernel)
set_option maxRecDepth 20000 in
theorem wl_34 : ∀ w ∈ wsL_law_r34, w ∈ lw_tbl := mem_r _ [667, 668, 669, 1128, 1129, 1130, 1131, 1132, 1134, 41, 1135, 670, 671, 672, 673, 1136, 1137, 1138, 1139, 674, 675, 676, 677, 678] (by decide +kernel)
set_option maxRecDepth 20000 in
theorem wl_35 : ∀ w ∈ wsL_law_r35, w ∈ lw_tbl := mem_r _ [680, 8, 681, 682, 684, 9, 685, 686, 1140, 1141, 1142, 1143, 687, 688, 689, 690, 691, 1144, 1145, 1146, 1147, 1148, 692, 693] (by decide +kernel)
set_option maxRecDepth 20000 in
theorem wl_36 : ∀ w ∈ wsL_law_r36, w ∈ lw_tbl := mem_r _ [694, 695, 224, 226, 696, 697, 698, 699, 700, 1149, 1150, 1151, 1152, 1153, 1155, 42, 1156, 701, 702, 703, 704, 1157, 1158, 1159] (by decide +kernel)
set_option maxRecDepth 20000 in
theorem wl_37 : ∀ w ∈ wsL_law_r37, w ∈ lw_tbl := mem_r _ [1160, 705, 706, 707, 708, 709, 710, 711, 712, 713, 714, 715, 716, 717, 718, 244, 1161, 1162, 1163, 1164, 1165, 1166, 1167, 719] (by decide +kernel)
set_option maxRecDepth 20000 in
theorem wl_38 : ∀ w ∈ wsL_law_r38, w ∈ lw_tbl := mem_r _ [720, 721, 722, 245, 243, 723, 724, 725, 726, 728, 729, 730, 731, 1168, 1169, 1170, 1171, 732, 733, 734, 735, 264, 736, 737] (by decide +kernel)
set_option maxRecDepth 20000 in
theorem wl_39 : ∀ w ∈ wsL_law_r39, w ∈ lw_tbl := mem_r _ [738, 739, 740, 741, 743, 10, 744, 1172, 1173, 1174, 1175, 800, 1176, 1177, 745, 746, 747, 748, 1178, 1179, 1180, 1181, 749, 750] (by decide +kernel)
set_option maxRecDepth 20000 in
theorem wl_40 : ∀ w ∈ wsL_law_r40, w ∈ lw_tbl := mem_r _ [751, 752, 247, 753, 754, 755, 756, 1182, 1183, 1184, 1185, 1186, 1188, 43, 1189] (by decide +kernel)
set_option maxRecDepth 20000 in
theorem wl_wsX50 : ∀ w ∈ wsX50, w ∈ lw_tbl := mem_r _ [265, 267, 269, 271, 273, 275, 277, 279, 281, 283] (by decide +kernel)
set_option maxRecDepth 20000 in
theorem wl_wsX60 : ∀ w ∈ wsX60, w ∈ lw_tbl := mem_r _ [802, 804, 806, 808, 810, 812, 814, 816, 818, 820, 822, 824, 826, 828, 830, 832, 834, 836, 838, 840, 842, 844, 846, 848, 850, 852, 854, 856, 858, 860, 862] (by decide +kernel)
set_option maxRecDepth 20000 in
theorem wl_wsX40 : ∀ w ∈ wsX40, w ∈ lw_tbl := mem_r _ [157, 159, 161, 163, 165, 167, 169, 171, 173, 175, 177, 179, 181, 183, 185, 187, 189] (by decide +kernel)
set_option maxRecDepth 20000 in
theorem wl_wsX00 : ∀ w ∈ wsX00, w ∈ lw_tbl := mem_r _ [108, 110, 112, 114, 116, 118, 120, 122, 124, 126, 128, 130] (by decide +kernel)
set_option maxRecDepth 20000 in
theorem wl_wsX30 : ∀ w ∈ wsX30, w ∈ lw_tbl := mem_r _ [205, 207, 209] (by decide +kernel)
set_option maxRecDepth 20000 in
theorem wl_wsX10 : ∀ w ∈ wsX10, w ∈ lw_tbl := mem_r _ [228, 230, 232] (by decide +kernel)
set_option maxRecDepth 20000 in
theorem wl_wsX20 : ∀ w ∈ wsX20, w ∈ lw_tbl := mem_r _ [248, 250, 252] (by decide +kernel)
theorem mem_ap {a b c : List Cond} (h1 : ∀ w ∈ a, w ∈ c) (h2 : ∀ w ∈ b, w ∈ c) : ∀ w ∈ a ++ b, w ∈ c := fun w h => (List.mem_append.mp h).elim (h1 w) (h2 w)
theorem wsL_law_in : ∀ w ∈ wsL_law, w ∈ lw_tbl := mem_ap (mem_ap (mem_ap (mem_ap (mem_ap (mem_ap (mem_ap (mem_ap (mem_ap wl_1 (mem_ap wl_2 (mem_ap wl_3 (mem_ap wl_4 (mem_ap wl_5 (mem_ap wl_6 (mem_ap wl_7 (mem_ap wl_8 (mem_ap wl_9 (mem_ap wl_10 (mem_ap wl_11 (mem_ap wl_12 (mem_ap wl_13 (mem_ap wl_14 (mem_ap wl_15 (mem_ap wl_16 (mem_ap wl_17 (mem_ap wl_18 (mem_ap wl_19 (mem_ap wl_20 (mem_ap wl_21 (mem_ap wl_22 (mem_ap wl_23 (mem_ap wl_24 (mem_ap wl_25 (mem_ap wl_26 (mem_ap wl_27 (mem_ap wl_28 (mem_ap wl_29 (mem_ap wl_30 (mem_ap wl_31 (mem_ap wl_32 (mem_ap wl_33 (mem_ap wl_34 (mem_ap wl_35 (mem_ap wl_36 (mem_ap wl_37 (mem_ap wl_38 (mem_ap wl_39 wl_40))))))))))))))))))))))))))))))))))))))) wl_wsX50) wl_wsX60) wl_wsX40) wl_wsX00) wl_wsX30) wl_wsX10) wl_wsX20) (fun _ h => absurd h List.not_mem_nil)
