set_option maxRecDepth 20000 in
theorem ggL_law_X5_works : GoodIn wsL_law wsX5_works := goodIn_r _ [473, 19, 368, 105, 106, 2, 107, 950, 951, 952, 953, 954, 955, 956, 957, 958, 959, 1007, 1008, 1009, 1010, 1011, 1012, 1013, 1014, 1015, 1016, 1017, 1018] (by decide +kernel) (by decide +kernel)
set_option maxRecDepth 20000 in
theorem gL_law_X5_works : GoodIn wsL_law (wsV RL 53 RX5 yX5_works wsX5_works) := goodIn_app (goodIn_of _ (by decide +kernel)) ggL_law_X5_works
set_option maxRecDepth 20000 in
theorem ggL_law_X6_works : GoodIn wsL_law wsX6_works := goodIn_r _ [477, 478, 119, 120, 5, 121, 457, 458, 459, 460, 75, 960, 961, 962, 963, 964, 965, 966, 967, 968, 969, 970, 971, 972, 973, 974, 975, 976, 977, 978, 979, 980, 981, 982, 983, 984, 985, 986, 987, 988, 989, 990] (by decide +kernel) (by decide +kernel)
set_option maxRecDepth 20000 in
theorem gL_law_X6_works : GoodIn wsL_law (wsV RL 56 RX6 yX6_works wsX6_works) := goodIn_app (goodIn_of _ (by decide +kernel)) ggL_law_X6_works
set_option maxRecDepth 20000 in
theorem ggL_law_X5_change : GoodIn wsL_law wsX5_change := goodIn_r _ [482, 19, 426, 427, 428, 429, 2, 430, 366, 105, 106, 107, 483, 484, 485, 18, 486, 52, 950, 951, 952, 953, 954, 955, 956, 957, 958, 959, 1007, 1008, 1009, 1010, 1011, 1012, 1013, 1014, 1015, 1016, 1017, 1018] (by decide +kernel) (by decide +kernel)
set_option maxRecDepth 20000 in
theorem gL_law_X5_change : GoodIn wsL_law (wsV RL 57 RX5 yX5_change wsX5_change) := goodIn_app (goodIn_of _ (by decide +kernel)) ggL_law_X5_change
set_option maxRecDepth 20000 in
theorem ggL_law_X6_change : GoodIn wsL_law wsX6_change := goodIn_r _ [490, 75, 402, 403, 404, 5, 405, 119, 120, 121, 960, 961, 962, 963, 964, 965, 966, 967, 968, 969, 970, 971, 972, 973, 974, 975, 976, 977, 978, 979, 980, 981, 982, 983, 984, 985, 986, 987, 988, 989, 990] (by decide +kernel) (by decide +kernel)
set_option maxRecDepth 20000 in
theorem gL_law_X6_change : GoodIn wsL_law (wsV RL 60 RX6 yX6_change wsX6_change) := goodIn_app (goodIn_of _ (by decide +kernel)) ggL_law_X6_change
set_option maxRecDepth 20000 in
theorem ggL_law_X5_bear : GoodIn wsL_law wsX5_bear := goodIn_r _ [494, 19, 366, 495, 443, 2, 444, 445, 446, 105, 106, 107, 496, 258, 259, 18, 260, 161, 51, 52, 950, 951, 952, 953, 954, 955, 956, 957, 958, 959, 1007, 1008, 1009, 1010, 1011, 1012, 1013, 1014, 1015, 1016, 1017, 1018] (by decide +kernel) (by decide +kernel)
set_option maxRecDepth 20000 in
theorem gL_law_X5_bear : GoodIn wsL_law (wsV RL 61 RX5 yX5_bear wsX5_bear) := goodIn_app (goodIn_of _ (by decide +kernel)) ggL_law_X5_bear
set_option maxRecDepth 20000 in
theorem ggL_law_X6_bear : GoodIn wsL_law wsX6_bear := goodIn_r _ [500, 75, 451, 452, 5, 453, 454, 455, 456, 119, 120, 121, 960, 961, 962, 963, 964, 965, 966, 967, 968, 969, 970, 971, 972, 973, 974, 975, 976, 977, 978, 979, 980, 981, 982, 983, 984, 985, 986, 987, 988, 989, 990] (by decide +kernel) (by decide +kernel)
set_option maxRecDepth 20000 in
theorem gL_law_X6_bear : GoodIn wsL_law (wsV RL 64 RX6 yX6_bear wsX6_bear) := goodIn_app (goodIn_of _ (by decide +kernel)) ggL_law_X6_bear
set_option maxRecDepth 20000 in
theorem ggL_law_X5_reigns : GoodIn wsL_law wsX5_reigns := goodIn_r _ [504, 19, 367, 105, 106, 2, 107, 505, 506, 507, 508, 366, 509, 510, 511, 18, 512, 163, 513, 514, 515, 516, 517, 518, 519, 520, 52, 53, 521, 51, 522, 164, 165, 523, 524, 525, 391, 526, 389, 390, 392, 166, 527, 528, 529, 530, 162, 531, 386, 387, 388, 532, 533, 534, 535, 161, 950, 951, 952, 953, 954, 955, 956, 957, 958, 959, 1007, 1008, 1009, 1010, 1011, 1012, 1013, 1014, 1015, 1016, 1017, 1018] (by decide +kernel) (by decide +kernel)
set_option maxRecDepth 20000 in
theorem gL_law_X5_reigns : GoodIn wsL_law (wsV RL 65 RX5 yX5_reigns wsX5_reigns) := goodIn_app (goodIn_of _ (by decide +kernel)) ggL_law_X5_reigns
set_option maxRecDepth 20000 in
theorem ggL_law_X6_reigns : GoodIn wsL_law wsX6_reigns := goodIn_r _ [539, 456, 75, 119, 120, 5, 121, 540, 541, 542, 543, 406, 407, 408, 409, 76, 544, 545, 546, 547, 548, 549, 550, 551, 552, 553, 554, 410, 411, 412, 413, 414, 415, 416, 417, 555, 556, 557, 558, 559, 560, 561, 562, 563, 564, 565, 566, 567, 568, 569, 960, 961, 962, 963, 964, 965, 966, 967, 968, 969, 970, 971, 972, 973, 974, 975, 976, 977, 978, 979, 980, 981, 982, 983, 984, 985, 986, 987, 988, 989, 990] (by decide +kernel) (by decide +kernel)
set_option maxRecDepth 20000 in
theorem gL_law_X6_reigns : GoodIn wsL_law (wsV RL 68 RX6 yX6_reigns wsX6_reigns) := goodIn_app (goodIn_of _ (by decide +kernel)) ggL_law_X6_reigns
set_option maxRecDepth 20000 in
theorem ggL_law_X5_runs : GoodIn wsL_law wsX5_runs := goodIn_r _ [573, 20, 19, 574, 368, 370, 371, 575, 576, 577, 2, 578, 105, 106, 107, 505, 506, 507, 508, 366, 284, 285, 286, 18, 287, 51, 288, 289, 290, 291, 52, 161, 162, 163, 164, 165, 166, 53, 579, 518, 519, 520, 521, 522, 523, 524, 525, 391, 526, 389, 390, 392, 527, 528, 529, 530, 531, 386, 387, 388, 532, 533, 534, 535, 950, 951, 952, 953, 954, 955, 956, 957, 958, 959, 1007, 1008, 1009, 1010, 1011, 1012, 1013, 1014, 1015, 1016, 1017, 1018] (by decide +kernel) (by decide +kernel)
set_option maxRecDepth 20000 in
theorem gL_law_X5_runs : GoodIn wsL_law (wsV RL 69 RX5 yX5_runs wsX5_runs) := goodIn_app (goodIn_of _ (by decide +kernel)) ggL_law_X5_runs
set_option maxRecDepth 20000 in
theorem ggL_law_X6_runs : GoodIn wsL_law wsX6_runs := goodIn_r _ [583, 584, 552, 553, 76, 75, 585, 586, 5, 587, 588, 119, 120, 121, 540, 541, 542, 543, 406, 407, 408, 409, 548, 549, 550, 551, 554, 410, 411, 412, 413, 414, 415, 416, 417, 555, 556, 557, 558, 559, 560, 561, 562, 563, 564, 565, 960, 961, 962, 963, 964, 965, 966, 967, 968, 969, 970, 971, 972, 973, 974, 975, 976, 977, 978, 979, 980, 981, 982, 983, 984, 985, 986, 987, 988, 989, 990] (by decide +kernel) (by decide +kernel)
set_option maxRecDepth 20000 in
theorem gL_law_X6_runs : GoodIn wsL_law (wsV RL 72 RX6 yX6_runs wsX6_runs) := goodIn_app (goodIn_of _ (by decide +kernel)) ggL_law_X6_runs
