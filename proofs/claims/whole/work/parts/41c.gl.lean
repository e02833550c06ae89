set_option maxRecDepth 20000 in
theorem ggL_law_X5_works : GoodIn wsL_law wsX5_works := goodIn_r _ [474, 19, 369, 106, 107, 2, 108, 951, 952, 953, 954, 955, 956, 957, 958, 959, 960, 1009, 1010, 1011, 1012, 1013, 1014, 1015, 1016, 1017, 1018, 1019, 1020] (by decide +kernel) (by decide +kernel)
set_option maxRecDepth 20000 in
theorem gL_law_X5_works : GoodIn wsL_law (wsV RL 53 RX5 yX5_works wsX5_works) := goodIn_app (goodIn_of _ (by decide +kernel)) ggL_law_X5_works
set_option maxRecDepth 20000 in
theorem ggL_law_X6_works : GoodIn wsL_law wsX6_works := goodIn_r _ [478, 479, 120, 121, 5, 122, 458, 459, 460, 461, 76, 961, 962, 963, 964, 965, 966, 967, 968, 969, 970, 971, 972, 973, 974, 975, 976, 977, 978, 979, 980, 981, 982, 983, 984, 985, 986, 987, 988, 989, 990, 991] (by decide +kernel) (by decide +kernel)
set_option maxRecDepth 20000 in
theorem gL_law_X6_works : GoodIn wsL_law (wsV RL 56 RX6 yX6_works wsX6_works) := goodIn_app (goodIn_of _ (by decide +kernel)) ggL_law_X6_works
set_option maxRecDepth 20000 in
theorem ggL_law_X5_change : GoodIn wsL_law wsX5_change := goodIn_r _ [483, 19, 427, 428, 429, 430, 2, 431, 367, 106, 107, 108, 484, 485, 486, 18, 487, 53, 951, 952, 953, 954, 955, 956, 957, 958, 959, 960, 1009, 1010, 1011, 1012, 1013, 1014, 1015, 1016, 1017, 1018, 1019, 1020] (by decide +kernel) (by decide +kernel)
set_option maxRecDepth 20000 in
theorem gL_law_X5_change : GoodIn wsL_law (wsV RL 57 RX5 yX5_change wsX5_change) := goodIn_app (goodIn_of _ (by decide +kernel)) ggL_law_X5_change
set_option maxRecDepth 20000 in
theorem ggL_law_X6_change : GoodIn wsL_law wsX6_change := goodIn_r _ [491, 76, 403, 404, 405, 5, 406, 120, 121, 122, 961, 962, 963, 964, 965, 966, 967, 968, 969, 970, 971, 972, 973, 974, 975, 976, 977, 978, 979, 980, 981, 982, 983, 984, 985, 986, 987, 988, 989, 990, 991] (by decide +kernel) (by decide +kernel)
set_option maxRecDepth 20000 in
theorem gL_law_X6_change : GoodIn wsL_law (wsV RL 60 RX6 yX6_change wsX6_change) := goodIn_app (goodIn_of _ (by decide +kernel)) ggL_law_X6_change
set_option maxRecDepth 20000 in
theorem ggL_law_X5_bear : GoodIn wsL_law wsX5_bear := goodIn_r _ [495, 19, 367, 496, 444, 2, 445, 446, 447, 106, 107, 108, 497, 259, 260, 18, 261, 162, 52, 53, 951, 952, 953, 954, 955, 956, 957, 958, 959, 960, 1009, 1010, 1011, 1012, 1013, 1014, 1015, 1016, 1017, 1018, 1019, 1020] (by decide +kernel) (by decide +kernel)
set_option maxRecDepth 20000 in
theorem gL_law_X5_bear : GoodIn wsL_law (wsV RL 61 RX5 yX5_bear wsX5_bear) := goodIn_app (goodIn_of _ (by decide +kernel)) ggL_law_X5_bear
set_option maxRecDepth 20000 in
theorem ggL_law_X6_bear : GoodIn wsL_law wsX6_bear := goodIn_r _ [501, 76, 452, 453, 5, 454, 455, 456, 457, 120, 121, 122, 961, 962, 963, 964, 965, 966, 967, 968, 969, 970, 971, 972, 973, 974, 975, 976, 977, 978, 979, 980, 981, 982, 983, 984, 985, 986, 987, 988, 989, 990, 991] (by decide +kernel) (by decide +kernel)
set_option maxRecDepth 20000 in
theorem gL_law_X6_bear : GoodIn wsL_law (wsV RL 64 RX6 yX6_bear wsX6_bear) := goodIn_app (goodIn_of _ (by decide +kernel)) ggL_law_X6_bear
set_option maxRecDepth 20000 in
theorem ggL_law_X5_reigns : GoodIn wsL_law wsX5_reigns := goodIn_r _ [505, 19, 368, 106, 107, 2, 108, 506, 507, 508, 509, 367, 510, 511, 512, 18, 513, 164, 514, 515, 516, 517, 518, 519, 520, 521, 53, 54, 522, 52, 523, 165, 166, 524, 525, 526, 392, 527, 390, 391, 393, 167, 528, 529, 530, 531, 163, 532, 387, 388, 389, 533, 534, 535, 536, 162, 951, 952, 953, 954, 955, 956, 957, 958, 959, 960, 1009, 1010, 1011, 1012, 1013, 1014, 1015, 1016, 1017, 1018, 1019, 1020] (by decide +kernel) (by decide +kernel)
set_option maxRecDepth 20000 in
theorem gL_law_X5_reigns : GoodIn wsL_law (wsV RL 65 RX5 yX5_reigns wsX5_reigns) := goodIn_app (goodIn_of _ (by decide +kernel)) ggL_law_X5_reigns
set_option maxRecDepth 20000 in
theorem ggL_law_X6_reigns : GoodIn wsL_law wsX6_reigns := goodIn_r _ [540, 457, 76, 120, 121, 5, 122, 541, 542, 543, 544, 407, 408, 409, 410, 77, 545, 546, 547, 548, 549, 550, 551, 552, 553, 554, 555, 411, 412, 413, 414, 415, 416, 417, 418, 556, 557, 558, 559, 560, 561, 562, 563, 564, 565, 566, 567, 568, 569, 570, 961, 962, 963, 964, 965, 966, 967, 968, 969, 970, 971, 972, 973, 974, 975, 976, 977, 978, 979, 980, 981, 982, 983, 984, 985, 986, 987, 988, 989, 990, 991] (by decide +kernel) (by decide +kernel)
set_option maxRecDepth 20000 in
theorem gL_law_X6_reigns : GoodIn wsL_law (wsV RL 68 RX6 yX6_reigns wsX6_reigns) := goodIn_app (goodIn_of _ (by decide +kernel)) ggL_law_X6_reigns
set_option maxRecDepth 20000 in
theorem ggL_law_X5_runs : GoodIn wsL_law wsX5_runs := goodIn_r _ [574, 20, 19, 575, 369, 371, 372, 576, 577, 578, 2, 579, 106, 107, 108, 506, 507, 508, 509, 367, 285, 286, 287, 18, 288, 52, 289, 290, 291, 292, 53, 162, 163, 164, 165, 166, 167, 54, 580, 519, 520, 521, 522, 523, 524, 525, 526, 392, 527, 390, 391, 393, 528, 529, 530, 531, 532, 387, 388, 389, 533, 534, 535, 536, 951, 952, 953, 954, 955, 956, 957, 958, 959, 960, 1009, 1010, 1011, 1012, 1013, 1014, 1015, 1016, 1017, 1018, 1019, 1020] (by decide +kernel) (by decide +kernel)
set_option maxRecDepth 20000 in
theorem gL_law_X5_runs : GoodIn wsL_law (wsV RL 69 RX5 yX5_runs wsX5_runs) := goodIn_app (goodIn_of _ (by decide +kernel)) ggL_law_X5_runs
set_option maxRecDepth 20000 in
theorem ggL_law_X6_runs : GoodIn wsL_law wsX6_runs := goodIn_r _ [584, 585, 553, 554, 77, 76, 586, 587, 5, 588, 589, 120, 121, 122, 541, 542, 543, 544, 407, 408, 409, 410, 549, 550, 551, 552, 555, 411, 412, 413, 414, 415, 416, 417, 418, 556, 557, 558, 559, 560, 561, 562, 563, 564, 565, 566, 961, 962, 963, 964, 965, 966, 967, 968, 969, 970, 971, 972, 973, 974, 975, 976, 977, 978, 979, 980, 981, 982, 983, 984, 985, 986, 987, 988, 989, 990, 991] (by decide +kernel) (by decide +kernel)
set_option maxRecDepth 20000 in
theorem gL_law_X6_runs : GoodIn wsL_law (wsV RL 72 RX6 yX6_runs wsX6_runs) := goodIn_app (goodIn_of _ (by decide +kernel)) ggL_law_X6_runs
