set_option maxRecDepth 20000 in
theorem ggL_law_X5_order : GoodIn wsL_law wsX5_order := goodIn_r _ [652, 20, 19, 367, 577, 578, 2, 579, 106, 107, 108, 653, 654, 655, 506, 507, 508, 509, 285, 286, 287, 18, 288, 52, 289, 290, 291, 292, 53, 162, 163, 164, 165, 166, 167, 54, 510, 511, 512, 513, 514, 515, 516, 517, 518, 519, 520, 521, 522, 523, 524, 525, 526, 392, 527, 390, 391, 393, 528, 529, 530, 531, 532, 387, 388, 389, 533, 534, 535, 536, 484, 485, 486, 487, 656, 657, 658, 951, 952, 953, 954, 955, 956, 957, 958, 959, 960, 1009, 1010, 1011, 1012, 1013, 1014, 1015, 1016, 1017, 1018, 1019, 1020] (by decide +kernel) (by decide +kernel)
set_option maxRecDepth 20000 in
theorem gL_law_X5_order : GoodIn wsL_law (wsV RL 93 RX5 yX5_order wsX5_order) := goodIn_app (goodIn_of _ (by decide +kernel)) ggL_law_X5_order
set_option maxRecDepth 20000 in
theorem ggL_law_X6_order : GoodIn wsL_law wsX6_order := goodIn_r _ [662, 77, 76, 586, 587, 5, 588, 589, 120, 121, 122, 663, 664, 665, 541, 542, 543, 544, 407, 408, 409, 410, 545, 546, 547, 548, 549, 550, 551, 552, 553, 554, 555, 411, 412, 413, 414, 415, 416, 417, 418, 556, 557, 558, 559, 560, 561, 562, 563, 564, 565, 566, 961, 962, 963, 964, 965, 966, 967, 968, 969, 970, 971, 972, 973, 974, 975, 976, 977, 978, 979, 980, 981, 982, 983, 984, 985, 986, 987, 988, 989, 990, 991] (by decide +kernel) (by decide +kernel)
set_option maxRecDepth 20000 in
theorem gL_law_X6_order : GoodIn wsL_law (wsV RL 96 RX6 yX6_order wsX6_order) := goodIn_app (goodIn_of _ (by decide +kernel)) ggL_law_X6_order
set_option maxRecDepth 20000 in
theorem ggL_law_X5_stool : GoodIn wsL_law wsX5_stool := goodIn_r _ [669, 20, 19, 367, 381, 577, 578, 2, 579, 106, 107, 108, 653, 654, 655, 506, 507, 508, 509, 285, 286, 287, 18, 288, 52, 289, 290, 291, 292, 53, 162, 163, 164, 165, 166, 167, 54, 670, 671, 672, 673, 514, 515, 516, 517, 518, 519, 520, 521, 522, 523, 524, 525, 526, 392, 527, 390, 391, 393, 528, 529, 530, 531, 532, 387, 388, 389, 533, 534, 535, 536, 656, 657, 658, 951, 952, 953, 954, 955, 956, 957, 958, 959, 960, 1009, 1010, 1011, 1012, 1013, 1014, 1015, 1016, 1017, 1018, 1019, 1020] (by decide +kernel) (by decide +kernel)
set_option maxRecDepth 20000 in
theorem gL_law_X5_stool : GoodIn wsL_law (wsV RL 97 RX5 yX5_stool wsX5_stool) := goodIn_app (goodIn_of _ (by decide +kernel)) ggL_law_X5_stool
set_option maxRecDepth 20000 in
theorem ggL_law_X6_stool : GoodIn wsL_law wsX6_stool := goodIn_r _ [677, 77, 76, 586, 587, 5, 588, 589, 120, 121, 122, 663, 664, 665, 541, 542, 543, 544, 407, 408, 409, 410, 545, 546, 547, 548, 549, 550, 551, 552, 553, 554, 555, 411, 412, 413, 414, 415, 416, 417, 418, 556, 557, 558, 559, 560, 561, 562, 563, 564, 565, 566, 961, 962, 963, 964, 965, 966, 967, 968, 969, 970, 971, 972, 973, 974, 975, 976, 977, 978, 979, 980, 981, 982, 983, 984, 985, 986, 987, 988, 989, 990, 991] (by decide +kernel) (by decide +kernel)
set_option maxRecDepth 20000 in
theorem gL_law_X6_stool : GoodIn wsL_law (wsV RL 100 RX6 yX6_stool wsX6_stool) := goodIn_app (goodIn_of _ (by decide +kernel)) ggL_law_X6_stool
set_option maxRecDepth 20000 in
theorem ggL_law_X5_term : GoodIn wsL_law wsX5_term := goodIn_r _ [681, 20, 19, 381, 382, 383, 384, 2, 385, 367, 106, 107, 108, 577, 578, 579, 653, 654, 655, 506, 507, 508, 509, 285, 286, 287, 18, 288, 52, 289, 290, 291, 292, 53, 162, 163, 164, 165, 166, 167, 54, 510, 511, 512, 513, 514, 515, 516, 517, 518, 519, 520, 521, 522, 523, 524, 525, 526, 392, 527, 390, 391, 393, 528, 529, 530, 531, 532, 387, 388, 389, 533, 534, 535, 536, 656, 657, 658, 951, 952, 953, 954, 955, 956, 957, 958, 959, 960, 1009, 1010, 1011, 1012, 1013, 1014, 1015, 1016, 1017, 1018, 1019, 1020] (by decide +kernel) (by decide +kernel)
set_option maxRecDepth 20000 in
theorem gL_law_X5_term : GoodIn wsL_law (wsV RL 101 RX5 yX5_term wsX5_term) := goodIn_app (goodIn_of _ (by decide +kernel)) ggL_law_X5_term
set_option maxRecDepth 20000 in
theorem ggL_law_X6_term : GoodIn wsL_law wsX6_term := goodIn_r _ [685, 403, 404, 405, 5, 406, 76, 120, 121, 122, 586, 587, 588, 589, 663, 664, 665, 541, 542, 543, 544, 686, 687, 688, 689, 77, 407, 408, 409, 410, 545, 546, 547, 548, 549, 550, 551, 552, 553, 554, 555, 411, 412, 413, 414, 415, 416, 417, 418, 556, 557, 558, 559, 560, 561, 562, 563, 564, 565, 566, 961, 962, 963, 964, 965, 966, 967, 968, 969, 970, 971, 972, 973, 974, 975, 976, 977, 978, 979, 980, 981, 982, 983, 984, 985, 986, 987, 988, 989, 990, 991] (by decide +kernel) (by decide +kernel)
set_option maxRecDepth 20000 in
theorem gL_law_X6_term : GoodIn wsL_law (wsV RL 104 RX6 yX6_term wsX6_term) := goodIn_app (goodIn_of _ (by decide +kernel)) ggL_law_X6_term
set_option maxRecDepth 20000 in
theorem ggL_law_X5_ache : GoodIn wsL_law wsX5_ache := goodIn_r _ [693, 20, 19, 370, 577, 578, 2, 579, 106, 107, 108, 653, 654, 655, 506, 507, 508, 509, 367, 285, 286, 287, 18, 288, 52, 289, 290, 291, 292, 53, 162, 163, 164, 165, 166, 167, 54, 510, 511, 512, 513, 514, 515, 516, 517, 518, 519, 520, 521, 522, 523, 524, 525, 526, 392, 527, 390, 391, 393, 528, 529, 530, 531, 532, 387, 388, 389, 533, 534, 535, 536, 656, 657, 658, 951, 952, 953, 954, 955, 956, 957, 958, 959, 960, 1009, 1010, 1011, 1012, 1013, 1014, 1015, 1016, 1017, 1018, 1019, 1020] (by decide +kernel) (by decide +kernel)
set_option maxRecDepth 20000 in
theorem gL_law_X5_ache : GoodIn wsL_law (wsV RL 105 RX5 yX5_ache wsX5_ache) := goodIn_app (goodIn_of _ (by decide +kernel)) ggL_law_X5_ache
set_option maxRecDepth 20000 in
theorem ggL_law_X6_ache : GoodIn wsL_law wsX6_ache := goodIn_r _ [697, 586, 587, 5, 588, 589, 120, 121, 122, 663, 664, 665, 541, 542, 543, 544, 76, 686, 687, 688, 689, 77, 407, 408, 409, 410, 545, 546, 547, 548, 549, 550, 551, 552, 553, 554, 555, 411, 412, 413, 414, 415, 416, 417, 418, 556, 557, 558, 559, 560, 561, 562, 563, 564, 565, 566, 961, 962, 963, 964, 965, 966, 967, 968, 969, 970, 971, 972, 973, 974, 975, 976, 977, 978, 979, 980, 981, 982, 983, 984, 985, 986, 987, 988, 989, 990, 991] (by decide +kernel) (by decide +kernel)
set_option maxRecDepth 20000 in
theorem gL_law_X6_ache : GoodIn wsL_law (wsV RL 108 RX6 yX6_ache wsX6_ache) := goodIn_app (goodIn_of _ (by decide +kernel)) ggL_law_X6_ache
set_option maxRecDepth 20000 in
theorem ggL_law_X5_builder : GoodIn wsL_law wsX5_builder := goodIn_r _ [701, 19, 367, 35, 106, 107, 2, 108, 653, 654, 655, 506, 507, 508, 509, 702, 703, 704, 705, 20, 706, 576, 594, 285, 286, 287, 18, 288, 52, 289, 290, 291, 292, 53, 162, 163, 164, 165, 166, 167, 54, 580, 519, 520, 521, 522, 523, 524, 525, 526, 392, 527, 390, 391, 393, 528, 529, 530, 531, 532, 387, 388, 389, 533, 534, 535, 536, 656, 657, 658, 951, 952, 953, 954, 955, 956, 957, 958, 959, 960, 1009, 1010, 1011, 1012, 1013, 1014, 1015, 1016, 1017, 1018, 1019, 1020] (by decide +kernel) (by decide +kernel)
set_option maxRecDepth 20000 in
theorem gL_law_X5_builder : GoodIn wsL_law (wsV RL 109 RX5 yX5_builder wsX5_builder) := goodIn_app (goodIn_of _ (by decide +kernel)) ggL_law_X5_builder
set_option maxRecDepth 20000 in
theorem ggL_law_X6_builder : GoodIn wsL_law wsX6_builder := goodIn_r _ [710, 589, 82, 553, 77, 555, 120, 121, 5, 122, 663, 664, 665, 541, 542, 543, 544, 76, 407, 408, 409, 410, 549, 550, 551, 552, 554, 411, 412, 413, 414, 415, 416, 417, 418, 556, 557, 558, 559, 560, 561, 562, 563, 564, 565, 566, 961, 962, 963, 964, 965, 966, 967, 968, 969, 970, 971, 972, 973, 974, 975, 976, 977, 978, 979, 980, 981, 982, 983, 984, 985, 986, 987, 988, 989, 990, 991] (by decide +kernel) (by decide +kernel)
set_option maxRecDepth 20000 in
theorem gL_law_X6_builder : GoodIn wsL_law (wsV RL 112 RX6 yX6_builder wsX6_builder) := goodIn_app (goodIn_of _ (by decide +kernel)) ggL_law_X6_builder
