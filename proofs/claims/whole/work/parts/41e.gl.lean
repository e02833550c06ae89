set_option maxRecDepth 20000 in
theorem ggL_law_X5_order : GoodIn wsL_law wsX5_order := goodIn_r _ [651, 20, 19, 366, 576, 577, 2, 578, 105, 106, 107, 652, 653, 654, 505, 506, 507, 508, 284, 285, 286, 18, 287, 51, 288, 289, 290, 291, 52, 161, 162, 163, 164, 165, 166, 53, 509, 510, 511, 512, 513, 514, 515, 516, 517, 518, 519, 520, 521, 522, 523, 524, 525, 391, 526, 389, 390, 392, 527, 528, 529, 530, 531, 386, 387, 388, 532, 533, 534, 535, 483, 484, 485, 486, 655, 656, 657, 950, 951, 952, 953, 954, 955, 956, 957, 958, 959, 1007, 1008, 1009, 1010, 1011, 1012, 1013, 1014, 1015, 1016, 1017, 1018] (by decide +kernel) (by decide +kernel)
set_option maxRecDepth 20000 in
theorem gL_law_X5_order : GoodIn wsL_law (wsV RL 93 RX5 yX5_order wsX5_order) := goodIn_app (goodIn_of _ (by decide +kernel)) ggL_law_X5_order
set_option maxRecDepth 20000 in
theorem ggL_law_X6_order : GoodIn wsL_law wsX6_order := goodIn_r _ [661, 76, 75, 585, 586, 5, 587, 588, 119, 120, 121, 662, 663, 664, 540, 541, 542, 543, 406, 407, 408, 409, 544, 545, 546, 547, 548, 549, 550, 551, 552, 553, 554, 410, 411, 412, 413, 414, 415, 416, 417, 555, 556, 557, 558, 559, 560, 561, 562, 563, 564, 565, 960, 961, 962, 963, 964, 965, 966, 967, 968, 969, 970, 971, 972, 973, 974, 975, 976, 977, 978, 979, 980, 981, 982, 983, 984, 985, 986, 987, 988, 989, 990] (by decide +kernel) (by decide +kernel)
set_option maxRecDepth 20000 in
theorem gL_law_X6_order : GoodIn wsL_law (wsV RL 96 RX6 yX6_order wsX6_order) := goodIn_app (goodIn_of _ (by decide +kernel)) ggL_law_X6_order
set_option maxRecDepth 20000 in
theorem ggL_law_X5_stool : GoodIn wsL_law wsX5_stool := goodIn_r _ [668, 20, 19, 366, 380, 576, 577, 2, 578, 105, 106, 107, 652, 653, 654, 505, 506, 507, 508, 284, 285, 286, 18, 287, 51, 288, 289, 290, 291, 52, 161, 162, 163, 164, 165, 166, 53, 669, 670, 671, 672, 513, 514, 515, 516, 517, 518, 519, 520, 521, 522, 523, 524, 525, 391, 526, 389, 390, 392, 527, 528, 529, 530, 531, 386, 387, 388, 532, 533, 534, 535, 655, 656, 657, 950, 951, 952, 953, 954, 955, 956, 957, 958, 959, 1007, 1008, 1009, 1010, 1011, 1012, 1013, 1014, 1015, 1016, 1017, 1018] (by decide +kernel) (by decide +kernel)
set_option maxRecDepth 20000 in
theorem gL_law_X5_stool : GoodIn wsL_law (wsV RL 97 RX5 yX5_stool wsX5_stool) := goodIn_app (goodIn_of _ (by decide +kernel)) ggL_law_X5_stool
set_option maxRecDepth 20000 in
theorem ggL_law_X6_stool : GoodIn wsL_law wsX6_stool := goodIn_r _ [676, 76, 75, 585, 586, 5, 587, 588, 119, 120, 121, 662, 663, 664, 540, 541, 542, 543, 406, 407, 408, 409, 544, 545, 546, 547, 548, 549, 550, 551, 552, 553, 554, 410, 411, 412, 413, 414, 415, 416, 417, 555, 556, 557, 558, 559, 560, 561, 562, 563, 564, 565, 960, 961, 962, 963, 964, 965, 966, 967, 968, 969, 970, 971, 972, 973, 974, 975, 976, 977, 978, 979, 980, 981, 982, 983, 984, 985, 986, 987, 988, 989, 990] (by decide +kernel) (by decide +kernel)
set_option maxRecDepth 20000 in
theorem gL_law_X6_stool : GoodIn wsL_law (wsV RL 100 RX6 yX6_stool wsX6_stool) := goodIn_app (goodIn_of _ (by decide +kernel)) ggL_law_X6_stool
set_option maxRecDepth 20000 in
theorem ggL_law_X5_term : GoodIn wsL_law wsX5_term := goodIn_r _ [680, 20, 19, 380, 381, 382, 383, 2, 384, 366, 105, 106, 107, 576, 577, 578, 652, 653, 654, 505, 506, 507, 508, 284, 285, 286, 18, 287, 51, 288, 289, 290, 291, 52, 161, 162, 163, 164, 165, 166, 53, 509, 510, 511, 512, 513, 514, 515, 516, 517, 518, 519, 520, 521, 522, 523, 524, 525, 391, 526, 389, 390, 392, 527, 528, 529, 530, 531, 386, 387, 388, 532, 533, 534, 535, 655, 656, 657, 950, 951, 952, 953, 954, 955, 956, 957, 958, 959, 1007, 1008, 1009, 1010, 1011, 1012, 1013, 1014, 1015, 1016, 1017, 1018] (by decide +kernel) (by decide +kernel)
set_option maxRecDepth 20000 in
theorem gL_law_X5_term : GoodIn wsL_law (wsV RL 101 RX5 yX5_term wsX5_term) := goodIn_app (goodIn_of _ (by decide +kernel)) ggL_law_X5_term
set_option maxRecDepth 20000 in
theorem ggL_law_X6_term : GoodIn wsL_law wsX6_term := goodIn_r _ [684, 402, 403, 404, 5, 405, 75, 119, 120, 121, 585, 586, 587, 588, 662, 663, 664, 540, 541, 542, 543, 685, 686, 687, 688, 76, 406, 407, 408, 409, 544, 545, 546, 547, 548, 549, 550, 551, 552, 553, 554, 410, 411, 412, 413, 414, 415, 416, 417, 555, 556, 557, 558, 559, 560, 561, 562, 563, 564, 565, 960, 961, 962, 963, 964, 965, 966, 967, 968, 969, 970, 971, 972, 973, 974, 975, 976, 977, 978, 979, 980, 981, 982, 983, 984, 985, 986, 987, 988, 989, 990] (by decide +kernel) (by decide +kernel)
set_option maxRecDepth 20000 in
theorem gL_law_X6_term : GoodIn wsL_law (wsV RL 104 RX6 yX6_term wsX6_term) := goodIn_app (goodIn_of _ (by decide +kernel)) ggL_law_X6_term
set_option maxRecDepth 20000 in
theorem ggL_law_X5_ache : GoodIn wsL_law wsX5_ache := goodIn_r _ [692, 20, 19, 369, 576, 577, 2, 578, 105, 106, 107, 652, 653, 654, 505, 506, 507, 508, 366, 284, 285, 286, 18, 287, 51, 288, 289, 290, 291, 52, 161, 162, 163, 164, 165, 166, 53, 509, 510, 511, 512, 513, 514, 515, 516, 517, 518, 519, 520, 521, 522, 523, 524, 525, 391, 526, 389, 390, 392, 527, 528, 529, 530, 531, 386, 387, 388, 532, 533, 534, 535, 655, 656, 657, 950, 951, 952, 953, 954, 955, 956, 957, 958, 959, 1007, 1008, 1009, 1010, 1011, 1012, 1013, 1014, 1015, 1016, 1017, 1018] (by decide +kernel) (by decide +kernel)
set_option maxRecDepth 20000 in
theorem gL_law_X5_ache : GoodIn wsL_law (wsV RL 105 RX5 yX5_ache wsX5_ache) := goodIn_app (goodIn_of _ (by decide +kernel)) ggL_law_X5_ache
set_option maxRecDepth 20000 in
theorem ggL_law_X6_ache : GoodIn wsL_law wsX6_ache := goodIn_r _ [696, 585, 586, 5, 587, 588, 119, 120, 121, 662, 663, 664, 540, 541, 542, 543, 75, 685, 686, 687, 688, 76, 406, 407, 408, 409, 544, 545, 546, 547, 548, 549, 550, 551, 552, 553, 554, 410, 411, 412, 413, 414, 415, 416, 417, 555, 556, 557, 558, 559, 560, 561, 562, 563, 564, 565, 960, 961, 962, 963, 964, 965, 966, 967, 968, 969, 970, 971, 972, 973, 974, 975, 976, 977, 978, 979, 980, 981, 982, 983, 984, 985, 986, 987, 988, 989, 990] (by decide +kernel) (by decide +kernel)
set_option maxRecDepth 20000 in
theorem gL_law_X6_ache : GoodIn wsL_law (wsV RL 108 RX6 yX6_ache wsX6_ache) := goodIn_app (goodIn_of _ (by decide +kernel)) ggL_law_X6_ache
set_option maxRecDepth 20000 in
theorem ggL_law_X5_builder : GoodIn wsL_law wsX5_builder := goodIn_r _ [700, 19, 366, 35, 105, 106, 2, 107, 652, 653, 654, 505, 506, 507, 508, 701, 702, 703, 704, 20, 705, 575, 593, 284, 285, 286, 18, 287, 51, 288, 289, 290, 291, 52, 161, 162, 163, 164, 165, 166, 53, 579, 518, 519, 520, 521, 522, 523, 524, 525, 391, 526, 389, 390, 392, 527, 528, 529, 530, 531, 386, 387, 388, 532, 533, 534, 535, 655, 656, 657, 950, 951, 952, 953, 954, 955, 956, 957, 958, 959, 1007, 1008, 1009, 1010, 1011, 1012, 1013, 1014, 1015, 1016, 1017, 1018] (by decide +kernel) (by decide +kernel)
set_option maxRecDepth 20000 in
theorem gL_law_X5_builder : GoodIn wsL_law (wsV RL 109 RX5 yX5_builder wsX5_builder) := goodIn_app (goodIn_of _ (by decide +kernel)) ggL_law_X5_builder
set_option maxRecDepth 20000 in
theorem ggL_law_X6_builder : GoodIn wsL_law wsX6_builder := goodIn_r _ [709, 588, 81, 552, 76, 554, 119, 120, 5, 121, 662, 663, 664, 540, 541, 542, 543, 75, 406, 407, 408, 409, 548, 549, 550, 551, 553, 410, 411, 412, 413, 414, 415, 416, 417, 555, 556, 557, 558, 559, 560, 561, 562, 563, 564, 565, 960, 961, 962, 963, 964, 965, 966, 967, 968, 969, 970, 971, 972, 973, 974, 975, 976, 977, 978, 979, 980, 981, 982, 983, 984, 985, 986, 987, 988, 989, 990] (by decide +kernel) (by decide +kernel)
set_option maxRecDepth 20000 in
theorem gL_law_X6_builder : GoodIn wsL_law (wsV RL 112 RX6 yX6_builder wsX6_builder) := goodIn_app (goodIn_of _ (by decide +kernel)) ggL_law_X6_builder
