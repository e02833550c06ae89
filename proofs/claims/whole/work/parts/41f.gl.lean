set_option maxRecDepth 20000 in
theorem ggL_law_X5_luck : GoodIn wsL_law wsX5_luck := goodIn_r _ [714, 20, 576, 715, 716, 2, 717, 106, 107, 108, 653, 654, 655, 382, 383, 384, 385, 19, 367, 506, 507, 508, 509, 718, 719, 720, 721, 285, 286, 287, 18, 288, 52, 289, 290, 291, 292, 53, 162, 163, 164, 165, 166, 167, 54, 580, 519, 520, 521, 522, 523, 524, 525, 526, 392, 527, 390, 391, 393, 528, 529, 530, 531, 532, 387, 388, 389, 533, 534, 535, 536, 722, 723, 724, 725, 726, 727, 728, 951, 952, 953, 954, 955, 956, 957, 958, 959, 960, 1009, 1010, 1011, 1012, 1013, 1014, 1015, 1016, 1017, 1018, 1019, 1020] (by decide +kernel) (by decide +kernel)
set_option maxRecDepth 20000 in
theorem gL_law_X5_luck : GoodIn wsL_law (wsV RL 113 RX5 yX5_luck wsX5_luck) := goodIn_app (goodIn_of _ (by decide +kernel)) ggL_law_X5_luck
set_option maxRecDepth 20000 in
theorem ggL_law_X6_luck : GoodIn wsL_law wsX6_luck := goodIn_r _ [732, 733, 734, 735, 736, 737, 738, 120, 121, 5, 122, 403, 404, 405, 406, 76, 663, 664, 665, 541, 542, 543, 544, 739, 740, 741, 742, 743, 553, 77, 407, 408, 409, 410, 549, 550, 551, 552, 554, 555, 411, 412, 413, 414, 415, 416, 417, 418, 556, 557, 558, 559, 560, 561, 562, 563, 564, 565, 566, 744, 745, 746, 747, 748, 749, 961, 962, 963, 964, 965, 966, 967, 968, 969, 970, 971, 972, 973, 974, 975, 976, 977, 978, 979, 980, 981, 982, 983, 984, 985, 986, 987, 988, 989, 990, 991] (by decide +kernel) (by decide +kernel)
set_option maxRecDepth 20000 in
theorem gL_law_X6_luck : GoodIn wsL_law (wsV RL 117 RX6 yX6_luck wsX6_luck) := goodIn_app (goodIn_of _ (by decide +kernel)) ggL_law_X6_luck
set_option maxRecDepth 20000 in
theorem ggL_law_X5_mean : GoodIn wsL_law wsX5_mean := goodIn_r _ [753, 20, 369, 715, 716, 2, 717, 106, 107, 108, 653, 654, 655, 506, 507, 508, 509, 19, 367, 718, 719, 720, 721, 285, 286, 287, 18, 288, 52, 289, 290, 291, 292, 53, 162, 163, 164, 165, 166, 167, 54, 580, 519, 520, 521, 522, 523, 524, 525, 526, 392, 527, 390, 391, 393, 528, 529, 530, 531, 532, 387, 388, 389, 533, 534, 535, 536, 722, 723, 724, 725, 726, 727, 728, 951, 952, 953, 954, 955, 956, 957, 958, 959, 960, 1009, 1010, 1011, 1012, 1013, 1014, 1015, 1016, 1017, 1018, 1019, 1020] (by decide +kernel) (by decide +kernel)
set_option maxRecDepth 20000 in
theorem gL_law_X5_mean : GoodIn wsL_law (wsV RL 118 RX5 yX5_mean wsX5_mean) := goodIn_app (goodIn_of _ (by decide +kernel)) ggL_law_X5_mean
set_option maxRecDepth 20000 in
theorem ggL_law_X6_mean : GoodIn wsL_law wsX6_mean := goodIn_r _ [757, 733, 734, 735, 736, 743, 738, 120, 121, 5, 122, 663, 664, 665, 541, 542, 543, 544, 76, 739, 740, 741, 742, 737, 553, 77, 407, 408, 409, 410, 549, 550, 551, 552, 554, 555, 411, 412, 413, 414, 415, 416, 417, 418, 556, 557, 558, 559, 560, 561, 562, 563, 564, 565, 566, 744, 745, 746, 747, 748, 749, 961, 962, 963, 964, 965, 966, 967, 968, 969, 970, 971, 972, 973, 974, 975, 976, 977, 978, 979, 980, 981, 982, 983, 984, 985, 986, 987, 988, 989, 990, 991] (by decide +kernel) (by decide +kernel)
set_option maxRecDepth 20000 in
theorem gL_law_X6_mean : GoodIn wsL_law (wsV RL 122 RX6 yX6_mean wsX6_mean) := goodIn_app (goodIn_of _ (by decide +kernel)) ggL_law_X6_mean
set_option maxRecDepth 20000 in
theorem ggL_law_X5_see : GoodIn wsL_law wsX5_see := goodIn_r _ [761, 24, 138, 106, 107, 2, 108, 382, 383, 384, 385, 19, 367, 762, 763, 764, 23, 765, 766, 58, 59, 951, 952, 953, 954, 955, 956, 957, 958, 959, 960, 1021, 1022, 1023, 1009, 1010, 1011, 1012, 1013, 1014, 1015, 1016, 1017, 1018, 1019, 1020] (by decide +kernel) (by decide +kernel)
set_option maxRecDepth 20000 in
theorem gL_law_X5_see : GoodIn wsL_law (wsV RL 123 RX5 yX5_see wsX5_see) := goodIn_app (goodIn_of _ (by decide +kernel)) ggL_law_X5_see
set_option maxRecDepth 20000 in
theorem ggL_law_X6_see : GoodIn wsL_law wsX6_see := goodIn_r _ [770, 456, 76, 120, 121, 5, 122, 403, 404, 405, 406, 961, 962, 963, 964, 965, 966, 967, 968, 969, 970, 971, 972, 973, 974, 975, 976, 977, 978, 979, 980, 981, 982, 983, 984, 985, 986, 987, 988, 989, 990, 991] (by decide +kernel) (by decide +kernel)
set_option maxRecDepth 20000 in
theorem gL_law_X6_see : GoodIn wsL_law (wsV RL 126 RX6 yX6_see wsX6_see) := goodIn_app (goodIn_of _ (by decide +kernel)) ggL_law_X6_see
set_option maxRecDepth 20000 in
theorem ggL_law_X5_forget : GoodIn wsL_law wsX5_forget := goodIn_r _ [774, 24, 138, 106, 107, 2, 108, 951, 952, 953, 954, 955, 956, 957, 958, 959, 960, 1021, 1022, 1023] (by decide +kernel) (by decide +kernel)
set_option maxRecDepth 20000 in
theorem gL_law_X5_forget : GoodIn wsL_law (wsV RL 127 RX5 yX5_forget wsX5_forget) := goodIn_app (goodIn_of _ (by decide +kernel)) ggL_law_X5_forget
set_option maxRecDepth 20000 in
theorem ggL_law_X6_forget : GoodIn wsL_law wsX6_forget := goodIn_r _ [778, 76, 120, 121, 5, 122, 458, 459, 460, 461, 961, 962, 963, 964, 965, 966, 967, 968, 969, 970, 971, 972, 973, 974, 975, 976, 977, 978, 979, 980, 981, 982, 983, 984, 985, 986, 987, 988, 989, 990, 991] (by decide +kernel) (by decide +kernel)
set_option maxRecDepth 20000 in
theorem gL_law_X6_forget : GoodIn wsL_law (wsV RL 130 RX6 yX6_forget wsX6_forget) := goodIn_app (goodIn_of _ (by decide +kernel)) ggL_law_X6_forget
set_option maxRecDepth 20000 in
theorem ggL_law_X5_kinds : GoodIn wsL_law wsX5_kinds := goodIn_r _ [782, 382, 383, 384, 2, 385, 19, 367, 106, 107, 108, 506, 507, 508, 509, 783, 784, 785, 786, 447, 787, 788, 789, 790, 20, 381, 34, 576, 24, 285, 286, 287, 18, 288, 52, 289, 290, 291, 292, 53, 162, 163, 164, 165, 166, 167, 54, 580, 519, 520, 521, 522, 523, 524, 525, 526, 392, 527, 390, 391, 393, 528, 529, 530, 531, 532, 387, 388, 389, 533, 534, 535, 536, 791, 792, 793, 23, 794, 766, 58, 59, 951, 952, 953, 954, 955, 956, 957, 958, 959, 960, 1009, 1010, 1011, 1012, 1013, 1014, 1015, 1016, 1017, 1018, 1019, 1020, 1021, 1022, 1023] (by decide +kernel) (by decide +kernel)
set_option maxRecDepth 20000 in
theorem gL_law_X5_kinds : GoodIn wsL_law (wsV RL 131 RX5 yX5_kinds wsX5_kinds) := goodIn_app (goodIn_of _ (by decide +kernel)) ggL_law_X5_kinds
set_option maxRecDepth 20000 in
theorem ggL_law_X6_kinds : GoodIn wsL_law wsX6_kinds := goodIn_r _ [798, 403, 404, 405, 5, 406, 76, 120, 121, 122, 541, 542, 543, 544, 799, 800, 801, 802, 83, 553, 407, 408, 409, 410, 77, 563, 564, 565, 566, 549, 550, 551, 552, 554, 555, 411, 412, 413, 414, 415, 416, 417, 418, 556, 557, 558, 559, 560, 561, 562, 961, 962, 963, 964, 965, 966, 967, 968, 969, 970, 971, 972, 973, 974, 975, 976, 977, 978, 979, 980, 981, 982, 983, 984, 985, 986, 987, 988, 989, 990, 991] (by decide +kernel) (by decide +kernel)
set_option maxRecDepth 20000 in
theorem gL_law_X6_kinds : GoodIn wsL_law (wsV RL 134 RX6 yX6_kinds wsX6_kinds) := goodIn_app (goodIn_of _ (by decide +kernel)) ggL_law_X6_kinds
