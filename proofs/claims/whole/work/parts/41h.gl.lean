set_option maxRecDepth 20000 in
theorem ggL_law_X5_sheet : GoodIn wsL_law wsX5_sheet := goodIn_r _ [867, 30, 868, 869, 2, 870, 105, 106, 107, 871, 872, 873, 874, 875, 876, 32, 877, 878, 70, 69, 950, 951, 952, 953, 954, 955, 956, 957, 958, 959, 1025, 1026, 1027] (by decide +kernel) (by decide +kernel)
set_option maxRecDepth 20000 in
theorem gL_law_X5_sheet : GoodIn wsL_law (wsV RL 155 RX5 yX5_sheet wsX5_sheet) := goodIn_app (goodIn_of _ (by decide +kernel)) ggL_law_X5_sheet
set_option maxRecDepth 20000 in
theorem ggL_law_X6_sheet : GoodIn wsL_law wsX6_sheet := goodIn_r _ [882, 84, 85, 86, 883, 884, 5, 885, 454, 598, 119, 120, 121, 960, 961, 962, 963, 964, 965, 966, 967, 968, 969, 970, 971, 972, 973, 974, 975, 976, 977, 978, 979, 980, 981, 982, 983, 984, 985, 986, 987, 988, 989, 990] (by decide +kernel) (by decide +kernel)
set_option maxRecDepth 20000 in
theorem gL_law_X6_sheet : GoodIn wsL_law (wsV RL 158 RX6 yX6_sheet wsX6_sheet) := goodIn_app (goodIn_of _ (by decide +kernel)) ggL_law_X6_sheet
set_option maxRecDepth 20000 in
theorem ggL_law_X5_lay : GoodIn wsL_law wsX5_lay := goodIn_r _ [889, 30, 890, 891, 868, 869, 2, 870, 105, 106, 107, 892, 893, 894, 32, 895, 70, 878, 896, 897, 898, 899, 950, 951, 952, 953, 954, 955, 956, 957, 958, 959, 1025, 1026, 1027] (by decide +kernel) (by decide +kernel)
set_option maxRecDepth 20000 in
theorem gL_law_X5_lay : GoodIn wsL_law (wsV RL 159 RX5 yX5_lay wsX5_lay) := goodIn_app (goodIn_of _ (by decide +kernel)) ggL_law_X5_lay
set_option maxRecDepth 20000 in
theorem ggL_law_X6_lay : GoodIn wsL_law wsX6_lay := goodIn_r _ [903, 84, 85, 86, 883, 884, 5, 885, 454, 598, 119, 120, 121, 960, 961, 962, 963, 964, 965, 966, 967, 968, 969, 970, 971, 972, 973, 974, 975, 976, 977, 978, 979, 980, 981, 982, 983, 984, 985, 986, 987, 988, 989, 990] (by decide +kernel) (by decide +kernel)
set_option maxRecDepth 20000 in
theorem gL_law_X6_lay : GoodIn wsL_law (wsV RL 162 RX6 yX6_lay wsX6_lay) := goodIn_app (goodIn_of _ (by decide +kernel)) ggL_law_X6_lay
set_option maxRecDepth 20000 in
theorem ggL_law_X5_read : GoodIn wsL_law wsX5_read := goodIn_r _ [907, 30, 20, 19, 891, 908, 868, 869, 2, 870, 105, 106, 107, 871, 872, 873, 284, 285, 286, 18, 287, 51, 288, 289, 290, 291, 52, 161, 162, 163, 164, 165, 166, 53, 909, 910, 911, 32, 912, 913, 893, 894, 895, 70, 878, 914, 915, 916, 917, 366, 367, 380, 439, 440, 441, 442, 443, 444, 445, 446, 579, 518, 519, 520, 521, 522, 523, 524, 525, 391, 526, 389, 390, 392, 527, 528, 529, 530, 531, 386, 387, 388, 532, 533, 534, 535, 950, 951, 952, 953, 954, 955, 956, 957, 958, 959, 1025, 1026, 1027, 1007, 1008, 1009, 1010, 1011, 1012, 1013, 1014, 1015, 1016, 1017, 1018] (by decide +kernel) (by decide +kernel)
set_option maxRecDepth 20000 in
theorem gL_law_X5_read : GoodIn wsL_law (wsV RL 163 RX5 yX5_read wsX5_read) := goodIn_app (goodIn_of _ (by decide +kernel)) ggL_law_X5_read
set_option maxRecDepth 20000 in
theorem ggL_law_X6_read : GoodIn wsL_law wsX6_read := goodIn_r _ [921, 455, 87, 75, 84, 85, 86, 922, 883, 884, 5, 885, 454, 598, 119, 120, 121, 923, 448, 449, 450, 402, 403, 404, 405, 451, 452, 453, 456, 457, 458, 459, 460, 924, 537, 538, 539, 540, 541, 542, 543, 406, 407, 408, 409, 76, 544, 545, 546, 547, 548, 549, 550, 551, 552, 553, 554, 410, 411, 412, 413, 414, 415, 416, 417, 555, 556, 557, 558, 559, 560, 561, 562, 563, 564, 565, 566, 567, 568, 569, 960, 961, 962, 963, 964, 965, 966, 967, 968, 969, 970, 971, 972, 973, 974, 975, 976, 977, 978, 979, 980, 981, 982, 983, 984, 985, 986, 987, 988, 989, 990] (by decide +kernel) (by decide +kernel)
set_option maxRecDepth 20000 in
theorem gL_law_X6_read : GoodIn wsL_law (wsV RL 167 RX6 yX6_read wsX6_read) := goodIn_app (goodIn_of _ (by decide +kernel)) ggL_law_X6_read
set_option maxRecDepth 20000 in
theorem ggL_law_X5_torn : GoodIn wsL_law wsX5_torn := goodIn_r _ [928, 908, 950, 951, 952, 953, 954, 955, 956, 957, 958, 959] (by decide +kernel) (by decide +kernel)
set_option maxRecDepth 20000 in
theorem gL_law_X5_torn : GoodIn wsL_law (wsV RL 168 RX5 yX5_torn wsX5_torn) := goodIn_app (goodIn_of _ (by decide +kernel)) ggL_law_X5_torn
set_option maxRecDepth 20000 in
theorem ggL_law_X6_torn : GoodIn wsL_law wsX6_torn := goodIn_r _ [932, 922, 960, 961, 962, 963, 964, 965, 966, 967, 968, 969, 970, 971, 972, 973, 974, 975, 976, 977, 978, 979, 980, 981, 982, 983, 984, 985, 986, 987, 988, 989, 990] (by decide +kernel) (by decide +kernel)
set_option maxRecDepth 20000 in
theorem gL_law_X6_torn : GoodIn wsL_law (wsV RL 171 RX6 yX6_torn wsX6_torn) := goodIn_app (goodIn_of _ (by decide +kernel)) ggL_law_X6_torn
set_option maxRecDepth 20000 in
theorem ggL_law_X5_count : GoodIn wsL_law wsX5_count := goodIn_r _ [936, 24, 137, 26, 138, 15, 104, 30, 937, 19, 938, 939, 940, 18, 941, 161, 51, 950, 951, 952, 953, 954, 955, 956, 957, 958, 959, 1019, 1020, 1021, 1022, 1023, 1024, 991, 992, 993, 994, 995, 996, 997, 998, 999, 1000, 1001, 1002, 1003, 1004, 1005, 1006, 1025, 1026, 1027, 1007, 1008, 1009, 1010, 1011, 1012, 1013, 1014, 1015, 1016, 1017, 1018] (by decide +kernel) (by decide +kernel)
set_option maxRecDepth 20000 in
theorem gL_law_X5_count : GoodIn wsL_law (wsV RL 172 RX5 yX5_count wsX5_count) := goodIn_app (goodIn_of _ (by decide +kernel)) ggL_law_X5_count
set_option maxRecDepth 20000 in
theorem ggL_law_X6_count : GoodIn wsL_law wsX6_count := goodIn_r _ [945, 75, 77, 118, 84, 85, 406, 407, 408, 5, 409, 76, 555, 556, 557, 946, 947, 948, 949, 410, 411, 412, 413, 960, 961, 962, 963, 964, 965, 966, 967, 968, 969, 970, 971, 972, 973, 974, 975, 976, 977, 978, 979, 980, 981, 982, 983, 984, 985, 986, 987, 988, 989, 990] (by decide +kernel) (by decide +kernel)
set_option maxRecDepth 20000 in
theorem gL_law_X6_count : GoodIn wsL_law (wsV RL 175 RX6 yX6_count wsX6_count) := goodIn_app (goodIn_of _ (by decide +kernel)) ggL_law_X6_count
