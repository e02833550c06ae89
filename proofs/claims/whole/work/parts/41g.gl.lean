set_option maxRecDepth 20000 in
theorem ggL_law_X5_springs : GoodIn wsL_law wsX5_springs := goodIn_r _ [806, 382, 383, 384, 2, 385, 19, 367, 106, 107, 108, 506, 507, 508, 509, 783, 784, 785, 786, 447, 787, 788, 789, 790, 20, 381, 34, 576, 24, 285, 286, 287, 18, 288, 52, 289, 290, 291, 292, 53, 162, 163, 164, 165, 166, 167, 54, 580, 519, 520, 521, 522, 523, 524, 525, 526, 392, 527, 390, 391, 393, 528, 529, 530, 531, 532, 387, 388, 389, 533, 534, 535, 536, 791, 792, 793, 23, 794, 766, 58, 59, 951, 952, 953, 954, 955, 956, 957, 958, 959, 960, 1009, 1010, 1011, 1012, 1013, 1014, 1015, 1016, 1017, 1018, 1019, 1020, 1021, 1022, 1023] (by decide +kernel) (by decide +kernel)
set_option maxRecDepth 20000 in
theorem gL_law_X5_springs : GoodIn wsL_law (wsV RL 135 RX5 yX5_springs wsX5_springs) := goodIn_app (goodIn_of _ (by decide +kernel)) ggL_law_X5_springs
set_option maxRecDepth 20000 in
theorem ggL_law_X6_springs : GoodIn wsL_law wsX6_springs := goodIn_r _ [810, 403, 404, 405, 5, 406, 76, 120, 121, 122, 541, 542, 543, 544, 799, 800, 801, 802, 83, 553, 407, 408, 409, 410, 77, 563, 564, 565, 566, 549, 550, 551, 552, 554, 555, 411, 412, 413, 414, 415, 416, 417, 418, 556, 557, 558, 559, 560, 561, 562, 961, 962, 963, 964, 965, 966, 967, 968, 969, 970, 971, 972, 973, 974, 975, 976, 977, 978, 979, 980, 981, 982, 983, 984, 985, 986, 987, 988, 989, 990, 991] (by decide +kernel) (by decide +kernel)
set_option maxRecDepth 20000 in
theorem gL_law_X6_springs : GoodIn wsL_law (wsV RL 138 RX6 yX6_springs wsX6_springs) := goodIn_app (goodIn_of _ (by decide +kernel)) ggL_law_X6_springs
set_option maxRecDepth 20000 in
theorem ggL_law_X5_ask : GoodIn wsL_law wsX5_ask := goodIn_r _ [814, 382, 383, 384, 2, 385, 19, 367, 106, 107, 108, 653, 654, 655, 506, 507, 508, 509, 815, 816, 817, 818, 36, 34, 787, 788, 789, 790, 20, 381, 576, 24, 285, 286, 287, 18, 288, 52, 289, 290, 291, 292, 53, 162, 163, 164, 165, 166, 167, 54, 580, 519, 520, 521, 522, 523, 524, 525, 526, 392, 527, 390, 391, 393, 528, 529, 530, 531, 532, 387, 388, 389, 533, 534, 535, 536, 791, 792, 793, 23, 794, 766, 58, 59, 819, 820, 821, 822, 823, 656, 657, 658, 951, 952, 953, 954, 955, 956, 957, 958, 959, 960, 1009, 1010, 1011, 1012, 1013, 1014, 1015, 1016, 1017, 1018, 1019, 1020, 1021, 1022, 1023] (by decide +kernel) (by decide +kernel)
set_option maxRecDepth 20000 in
theorem gL_law_X5_ask : GoodIn wsL_law (wsV RL 139 RX5 yX5_ask wsX5_ask) := goodIn_app (goodIn_of _ (by decide +kernel)) ggL_law_X5_ask
set_option maxRecDepth 20000 in
theorem ggL_law_X6_ask : GoodIn wsL_law wsX6_ask := goodIn_r _ [827, 84, 83, 403, 404, 405, 5, 406, 76, 120, 121, 122, 663, 664, 665, 541, 542, 543, 544, 799, 800, 801, 802, 553, 407, 408, 409, 410, 77, 563, 564, 565, 566, 549, 550, 551, 552, 554, 555, 411, 412, 413, 414, 415, 416, 417, 418, 556, 557, 558, 559, 560, 561, 562, 961, 962, 963, 964, 965, 966, 967, 968, 969, 970, 971, 972, 973, 974, 975, 976, 977, 978, 979, 980, 981, 982, 983, 984, 985, 986, 987, 988, 989, 990, 991] (by decide +kernel) (by decide +kernel)
set_option maxRecDepth 20000 in
theorem gL_law_X6_ask : GoodIn wsL_law (wsV RL 142 RX6 yX6_ask wsX6_ask) := goodIn_app (goodIn_of _ (by decide +kernel)) ggL_law_X6_ask
set_option maxRecDepth 20000 in
theorem ggL_law_X5_drift : GoodIn wsL_law wsX5_drift := goodIn_r _ [831, 20, 19, 832, 370, 369, 372, 106, 107, 2, 108, 653, 654, 655, 506, 507, 508, 509, 367, 285, 286, 287, 18, 288, 52, 289, 290, 291, 292, 53, 162, 163, 164, 165, 166, 167, 54, 580, 519, 520, 521, 522, 523, 524, 525, 526, 392, 527, 390, 391, 393, 528, 529, 530, 531, 532, 387, 388, 389, 533, 534, 535, 536, 951, 952, 953, 954, 955, 956, 957, 958, 959, 960, 1009, 1010, 1011, 1012, 1013, 1014, 1015, 1016, 1017, 1018, 1019, 1020] (by decide +kernel) (by decide +kernel)
set_option maxRecDepth 20000 in
theorem gL_law_X5_drift : GoodIn wsL_law (wsV RL 143 RX5 yX5_drift wsX5_drift) := goodIn_app (goodIn_of _ (by decide +kernel)) ggL_law_X5_drift
set_option maxRecDepth 20000 in
theorem ggL_law_X6_drift : GoodIn wsL_law wsX6_drift := goodIn_r _ [836, 589, 837, 77, 76, 120, 121, 5, 122, 663, 664, 665, 541, 542, 543, 544, 407, 408, 409, 410, 549, 550, 551, 552, 553, 554, 555, 411, 412, 413, 414, 415, 416, 417, 418, 556, 557, 558, 559, 560, 561, 562, 563, 564, 565, 566, 961, 962, 963, 964, 965, 966, 967, 968, 969, 970, 971, 972, 973, 974, 975, 976, 977, 978, 979, 980, 981, 982, 983, 984, 985, 986, 987, 988, 989, 990, 991] (by decide +kernel) (by decide +kernel)
set_option maxRecDepth 20000 in
theorem gL_law_X6_drift : GoodIn wsL_law (wsV RL 146 RX6 yX6_drift wsX6_drift) := goodIn_app (goodIn_of _ (by decide +kernel)) ggL_law_X6_drift
set_option maxRecDepth 20000 in
theorem ggL_law_X5_keep : GoodIn wsL_law wsX5_keep := goodIn_r _ [841, 26, 139, 842, 19, 843, 24, 106, 107, 2, 108, 285, 286, 287, 18, 288, 52, 289, 290, 291, 292, 53, 162, 163, 164, 165, 166, 167, 54, 844, 845, 846, 23, 847, 58, 848, 59, 766, 951, 952, 953, 954, 955, 956, 957, 958, 959, 960, 1024, 1025, 1026, 1009, 1010, 1011, 1012, 1013, 1014, 1015, 1016, 1017, 1018, 1019, 1020, 1021, 1022, 1023] (by decide +kernel) (by decide +kernel)
set_option maxRecDepth 20000 in
theorem gL_law_X5_keep : GoodIn wsL_law (wsV RL 147 RX5 yX5_keep wsX5_keep) := goodIn_app (goodIn_of _ (by decide +kernel)) ggL_law_X5_keep
set_option maxRecDepth 20000 in
theorem ggL_law_X6_keep : GoodIn wsL_law wsX6_keep := goodIn_r _ [852, 78, 120, 121, 5, 122, 556, 557, 558, 853, 854, 855, 856, 76, 961, 962, 963, 964, 965, 966, 967, 968, 969, 970, 971, 972, 973, 974, 975, 976, 977, 978, 979, 980, 981, 982, 983, 984, 985, 986, 987, 988, 989, 990, 991] (by decide +kernel) (by decide +kernel)
set_option maxRecDepth 20000 in
theorem gL_law_X6_keep : GoodIn wsL_law (wsV RL 150 RX6 yX6_keep wsX6_keep) := goodIn_app (goodIn_of _ (by decide +kernel)) ggL_law_X6_keep
set_option maxRecDepth 20000 in
theorem ggL_law_X5_back : GoodIn wsL_law wsX5_back := goodIn_r _ [860, 26, 139, 19, 842, 24, 843, 369, 106, 107, 2, 108, 285, 286, 287, 18, 288, 52, 289, 290, 291, 292, 53, 162, 163, 164, 165, 166, 167, 54, 844, 845, 846, 23, 847, 58, 848, 59, 766, 951, 952, 953, 954, 955, 956, 957, 958, 959, 960, 1024, 1025, 1026, 1009, 1010, 1011, 1012, 1013, 1014, 1015, 1016, 1017, 1018, 1019, 1020, 1021, 1022, 1023] (by decide +kernel) (by decide +kernel)
set_option maxRecDepth 20000 in
theorem gL_law_X5_back : GoodIn wsL_law (wsV RL 151 RX5 yX5_back wsX5_back) := goodIn_app (goodIn_of _ (by decide +kernel)) ggL_law_X5_back
set_option maxRecDepth 20000 in
theorem ggL_law_X6_back : GoodIn wsL_law wsX6_back := goodIn_r _ [864, 78, 76, 120, 121, 5, 122, 853, 854, 855, 856, 961, 962, 963, 964, 965, 966, 967, 968, 969, 970, 971, 972, 973, 974, 975, 976, 977, 978, 979, 980, 981, 982, 983, 984, 985, 986, 987, 988, 989, 990, 991] (by decide +kernel) (by decide +kernel)
set_option maxRecDepth 20000 in
theorem gL_law_X6_back : GoodIn wsL_law (wsV RL 154 RX6 yX6_back wsX6_back) := goodIn_app (goodIn_of _ (by decide +kernel)) ggL_law_X6_back
