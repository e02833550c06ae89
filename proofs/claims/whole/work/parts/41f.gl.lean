set_option maxRecDepth 20000 in
theorem ggL_law_X5_luck : GoodIn wsL_law wsX5_luck := goodIn_r _ [713, 20, 575, 714, 715, 2, 716, 105, 106, 107, 652, 653, 654, 381, 382, 383, 384, 19, 366, 505, 506, 507, 508, 717, 718, 719, 720, 284, 285, 286, 18, 287, 51, 288, 289, 290, 291, 52, 161, 162, 163, 164, 165, 166, 53, 579, 518, 519, 520, 521, 522, 523, 524, 525, 391, 526, 389, 390, 392, 527, 528, 529, 530, 531, 386, 387, 388, 532, 533, 534, 535, 721, 722, 723, 724, 725, 726, 727, 950, 951, 952, 953, 954, 955, 956, 957, 958, 959, 1007, 1008, 1009, 1010, 1011, 1012, 1013, 1014, 1015, 1016, 1017, 1018] (by decide +kernel) (by decide +kernel)
set_option maxRecDepth 20000 in
theorem gL_law_X5_luck : GoodIn wsL_law (wsV RL 113 RX5 yX5_luck wsX5_luck) := goodIn_app (goodIn_of _ (by decide +kernel)) ggL_law_X5_luck
set_option maxRecDepth 20000 in
theorem ggL_law_X6_luck : GoodIn wsL_law wsX6_luck := goodIn_r _ [731, 732, 733, 734, 735, 736, 737, 119, 120, 5, 121, 402, 403, 404, 405, 75, 662, 663, 664, 540, 541, 542, 543, 738, 739, 740, 741, 742, 552, 76, 406, 407, 408, 409, 548, 549, 550, 551, 553, 554, 410, 411, 412, 413, 414, 415, 416, 417, 555, 556, 557, 558, 559, 560, 561, 562, 563, 564, 565, 743, 744, 745, 746, 747, 748, 960, 961, 962, 963, 964, 965, 966, 967, 968, 969, 970, 971, 972, 973, 974, 975, 976, 977, 978, 979, 980, 981, 982, 983, 984, 985, 986, 987, 988, 989, 990] (by decide +kernel) (by decide +kernel)
set_option maxRecDepth 20000 in
theorem gL_law_X6_luck : GoodIn wsL_law (wsV RL 117 RX6 yX6_luck wsX6_luck) := goodIn_app (goodIn_of _ (by decide +kernel)) ggL_law_X6_luck
set_option maxRecDepth 20000 in
theorem ggL_law_X5_mean : GoodIn wsL_law wsX5_mean := goodIn_r _ [752, 20, 368, 714, 715, 2, 716, 105, 106, 107, 652, 653, 654, 505, 506, 507, 508, 19, 366, 717, 718, 719, 720, 284, 285, 286, 18, 287, 51, 288, 289, 290, 291, 52, 161, 162, 163, 164, 165, 166, 53, 579, 518, 519, 520, 521, 522, 523, 524, 525, 391, 526, 389, 390, 392, 527, 528, 529, 530, 531, 386, 387, 388, 532, 533, 534, 535, 721, 722, 723, 724, 725, 726, 727, 950, 951, 952, 953, 954, 955, 956, 957, 958, 959, 1007, 1008, 1009, 1010, 1011, 1012, 1013, 1014, 1015, 1016, 1017, 1018] (by decide +kernel) (by decide +kernel)
set_option maxRecDepth 20000 in
theorem gL_law_X5_mean : GoodIn wsL_law (wsV RL 118 RX5 yX5_mean wsX5_mean) := goodIn_app (goodIn_of _ (by decide +kernel)) ggL_law_X5_mean
set_option maxRecDepth 20000 in
theorem ggL_law_X6_mean : GoodIn wsL_law wsX6_mean := goodIn_r _ [756, 732, 733, 734, 735, 742, 737, 119, 120, 5, 121, 662, 663, 664, 540, 541, 542, 543, 75, 738, 739, 740, 741, 736, 552, 76, 406, 407, 408, 409, 548, 549, 550, 551, 553, 554, 410, 411, 412, 413, 414, 415, 416, 417, 555, 556, 557, 558, 559, 560, 561, 562, 563, 564, 565, 743, 744, 745, 746, 747, 748, 960, 961, 962, 963, 964, 965, 966, 967, 968, 969, 970, 971, 972, 973, 974, 975, 976, 977, 978, 979, 980, 981, 982, 983, 984, 985, 986, 987, 988, 989, 990] (by decide +kernel) (by decide +kernel)
set_option maxRecDepth 20000 in
theorem gL_law_X6_mean : GoodIn wsL_law (wsV RL 122 RX6 yX6_mean wsX6_mean) := goodIn_app (goodIn_of _ (by decide +kernel)) ggL_law_X6_mean
set_option maxRecDepth 20000 in
theorem ggL_law_X5_see : GoodIn wsL_law wsX5_see := goodIn_r _ [760, 24, 137, 105, 106, 2, 107, 381, 382, 383, 384, 19, 366, 761, 762, 763, 23, 764, 765, 57, 58, 950, 951, 952, 953, 954, 955, 956, 957, 958, 959, 1019, 1020, 1021, 1007, 1008, 1009, 1010, 1011, 1012, 1013, 1014, 1015, 1016, 1017, 1018] (by decide +kernel) (by decide +kernel)
set_option maxRecDepth 20000 in
theorem gL_law_X5_see : GoodIn wsL_law (wsV RL 123 RX5 yX5_see wsX5_see) := goodIn_app (goodIn_of _ (by decide +kernel)) ggL_law_X5_see
set_option maxRecDepth 20000 in
theorem ggL_law_X6_see : GoodIn wsL_law wsX6_see := goodIn_r _ [769, 455, 75, 119, 120, 5, 121, 402, 403, 404, 405, 960, 961, 962, 963, 964, 965, 966, 967, 968, 969, 970, 971, 972, 973, 974, 975, 976, 977, 978, 979, 980, 981, 982, 983, 984, 985, 986, 987, 988, 989, 990] (by decide +kernel) (by decide +kernel)
set_option maxRecDepth 20000 in
theorem gL_law_X6_see : GoodIn wsL_law (wsV RL 126 RX6 yX6_see wsX6_see) := goodIn_app (goodIn_of _ (by decide +kernel)) ggL_law_X6_see
set_option maxRecDepth 20000 in
theorem ggL_law_X5_forget : GoodIn wsL_law wsX5_forget := goodIn_r _ [773, 24, 137, 105, 106, 2, 107, 950, 951, 952, 953, 954, 955, 956, 957, 958, 959, 1019, 1020, 1021] (by decide +kernel) (by decide +kernel)
set_option maxRecDepth 20000 in
theorem gL_law_X5_forget : GoodIn wsL_law (wsV RL 127 RX5 yX5_forget wsX5_forget) := goodIn_app (goodIn_of _ (by decide +kernel)) ggL_law_X5_forget
set_option maxRecDepth 20000 in
theorem ggL_law_X6_forget : GoodIn wsL_law wsX6_forget := goodIn_r _ [777, 75, 119, 120, 5, 121, 457, 458, 459, 460, 960, 961, 962, 963, 964, 965, 966, 967, 968, 969, 970, 971, 972, 973, 974, 975, 976, 977, 978, 979, 980, 981, 982, 983, 984, 985, 986, 987, 988, 989, 990] (by decide +kernel) (by decide +kernel)
set_option maxRecDepth 20000 in
theorem gL_law_X6_forget : GoodIn wsL_law (wsV RL 130 RX6 yX6_forget wsX6_forget) := goodIn_app (goodIn_of _ (by decide +kernel)) ggL_law_X6_forget
set_option maxRecDepth 20000 in
theorem ggL_law_X5_kinds : GoodIn wsL_law wsX5_kinds := goodIn_r _ [781, 381, 382, 383, 2, 384, 19, 366, 105, 106, 107, 505, 506, 507, 508, 782, 783, 784, 785, 446, 786, 787, 788, 789, 20, 380, 34, 575, 24, 284, 285, 286, 18, 287, 51, 288, 289, 290, 291, 52, 161, 162, 163, 164, 165, 166, 53, 579, 518, 519, 520, 521, 522, 523, 524, 525, 391, 526, 389, 390, 392, 527, 528, 529, 530, 531, 386, 387, 388, 532, 533, 534, 535, 790, 791, 792, 23, 793, 765, 57, 58, 950, 951, 952, 953, 954, 955, 956, 957, 958, 959, 1007, 1008, 1009, 1010, 1011, 1012, 1013, 1014, 1015, 1016, 1017, 1018, 1019, 1020, 1021] (by decide +kernel) (by decide +kernel)
set_option maxRecDepth 20000 in
theorem gL_law_X5_kinds : GoodIn wsL_law (wsV RL 131 RX5 yX5_kinds wsX5_kinds) := goodIn_app (goodIn_of _ (by decide +kernel)) ggL_law_X5_kinds
set_option maxRecDepth 20000 in
theorem ggL_law_X6_kinds : GoodIn wsL_law wsX6_kinds := goodIn_r _ [797, 402, 403, 404, 5, 405, 75, 119, 120, 121, 540, 541, 542, 543, 798, 799, 800, 801, 82, 552, 406, 407, 408, 409, 76, 562, 563, 564, 565, 548, 549, 550, 551, 553, 554, 410, 411, 412, 413, 414, 415, 416, 417, 555, 556, 557, 558, 559, 560, 561, 960, 961, 962, 963, 964, 965, 966, 967, 968, 969, 970, 971, 972, 973, 974, 975, 976, 977, 978, 979, 980, 981, 982, 983, 984, 985, 986, 987, 988, 989, 990] (by decide +kernel) (by decide +kernel)
set_option maxRecDepth 20000 in
theorem gL_law_X6_kinds : GoodIn wsL_law (wsV RL 134 RX6 yX6_kinds wsX6_kinds) := goodIn_app (goodIn_of _ (by decide +kernel)) ggL_law_X6_kinds
