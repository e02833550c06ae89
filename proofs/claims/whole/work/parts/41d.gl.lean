set_option maxRecDepth 20000 in
theorem ggL_law_X5_ahead : GoodIn wsL_law wsX5_ahead := goodIn_r _ [592, 20, 19, 575, 593, 380, 381, 382, 383, 2, 384, 366, 105, 106, 107, 576, 577, 578, 505, 506, 507, 508, 284, 285, 286, 18, 287, 51, 288, 289, 290, 291, 52, 161, 162, 163, 164, 165, 166, 53, 579, 518, 519, 520, 521, 522, 523, 524, 525, 391, 526, 389, 390, 392, 527, 528, 529, 530, 531, 386, 387, 388, 532, 533, 534, 535, 393, 394, 395, 396, 950, 951, 952, 953, 954, 955, 956, 957, 958, 959, 1007, 1008, 1009, 1010, 1011, 1012, 1013, 1014, 1015, 1016, 1017, 1018] (by decide +kernel) (by decide +kernel)
set_option maxRecDepth 20000 in
theorem gL_law_X5_ahead : GoodIn wsL_law (wsV RL 73 RX5 yX5_ahead wsX5_ahead) := goodIn_app (goodIn_of _ (by decide +kernel)) ggL_law_X5_ahead
set_option maxRecDepth 20000 in
theorem ggL_law_X6_ahead : GoodIn wsL_law wsX6_ahead := goodIn_r _ [597, 598, 552, 554, 402, 403, 404, 5, 405, 75, 119, 120, 121, 585, 586, 587, 588, 540, 541, 542, 543, 406, 407, 408, 409, 76, 548, 549, 550, 551, 553, 410, 411, 412, 413, 414, 415, 416, 417, 555, 556, 557, 558, 559, 560, 561, 562, 563, 564, 565, 418, 419, 420, 421, 960, 961, 962, 963, 964, 965, 966, 967, 968, 969, 970, 971, 972, 973, 974, 975, 976, 977, 978, 979, 980, 981, 982, 983, 984, 985, 986, 987, 988, 989, 990] (by decide +kernel) (by decide +kernel)
set_option maxRecDepth 20000 in
theorem gL_law_X6_ahead : GoodIn wsL_law (wsV RL 76 RX6 yX6_ahead wsX6_ahead) := goodIn_app (goodIn_of _ (by decide +kernel)) ggL_law_X6_ahead
set_option maxRecDepth 20000 in
theorem ggL_law_X5_soonest : GoodIn wsL_law wsX5_soonest := goodIn_r _ [602, 381, 382, 383, 2, 384, 19, 366, 105, 106, 107, 505, 506, 507, 508, 603, 604, 605, 606, 20, 575, 284, 285, 286, 18, 287, 51, 288, 289, 290, 291, 52, 161, 162, 163, 164, 165, 166, 53, 579, 518, 519, 520, 521, 522, 523, 524, 525, 391, 526, 389, 390, 392, 527, 528, 529, 530, 531, 386, 387, 388, 532, 533, 534, 535, 950, 951, 952, 953, 954, 955, 956, 957, 958, 959, 1007, 1008, 1009, 1010, 1011, 1012, 1013, 1014, 1015, 1016, 1017, 1018] (by decide +kernel) (by decide +kernel)
set_option maxRecDepth 20000 in
theorem gL_law_X5_soonest : GoodIn wsL_law (wsV RL 77 RX5 yX5_soonest wsX5_soonest) := goodIn_app (goodIn_of _ (by decide +kernel)) ggL_law_X5_soonest
set_option maxRecDepth 20000 in
theorem ggL_law_X6_soonest : GoodIn wsL_law wsX6_soonest := goodIn_r _ [610, 402, 403, 404, 5, 405, 75, 119, 120, 121, 540, 541, 542, 543, 406, 407, 408, 409, 76, 611, 612, 613, 614, 552, 548, 549, 550, 551, 553, 554, 410, 411, 412, 413, 414, 415, 416, 417, 555, 556, 557, 558, 559, 560, 561, 562, 563, 564, 565, 960, 961, 962, 963, 964, 965, 966, 967, 968, 969, 970, 971, 972, 973, 974, 975, 976, 977, 978, 979, 980, 981, 982, 983, 984, 985, 986, 987, 988, 989, 990] (by decide +kernel) (by decide +kernel)
set_option maxRecDepth 20000 in
theorem gL_law_X6_soonest : GoodIn wsL_law (wsV RL 80 RX6 yX6_soonest wsX6_soonest) := goodIn_app (goodIn_of _ (by decide +kernel)) ggL_law_X6_soonest
set_option maxRecDepth 20000 in
theorem ggL_law_X5_again : GoodIn wsL_law wsX5_again := goodIn_r _ [618, 20, 19, 505, 506, 507, 2, 508, 366, 284, 285, 286, 18, 287, 51, 288, 289, 290, 291, 52, 161, 162, 163, 164, 165, 166, 53, 579, 518, 519, 520, 521, 522, 523, 524, 525, 391, 526, 389, 390, 392, 527, 528, 529, 530, 531, 386, 387, 388, 532, 533, 534, 535, 619, 620, 621, 622, 950, 951, 952, 953, 954, 955, 956, 957, 958, 959, 1007, 1008, 1009, 1010, 1011, 1012, 1013, 1014, 1015, 1016, 1017, 1018] (by decide +kernel) (by decide +kernel)
set_option maxRecDepth 20000 in
theorem gL_law_X5_again : GoodIn wsL_law (wsV RL 81 RX5 yX5_again wsX5_again) := goodIn_app (goodIn_of _ (by decide +kernel)) ggL_law_X5_again
set_option maxRecDepth 20000 in
theorem ggL_law_X6_again : GoodIn wsL_law wsX6_again := goodIn_r _ [626, 540, 541, 542, 5, 543, 75, 406, 407, 408, 409, 76, 548, 549, 550, 551, 552, 553, 554, 410, 411, 412, 413, 414, 415, 416, 417, 555, 556, 557, 558, 559, 560, 561, 562, 563, 564, 565, 627, 628, 629, 630, 960, 961, 962, 963, 964, 965, 966, 967, 968, 969, 970, 971, 972, 973, 974, 975, 976, 977, 978, 979, 980, 981, 982, 983, 984, 985, 986, 987, 988, 989, 990] (by decide +kernel) (by decide +kernel)
set_option maxRecDepth 20000 in
theorem gL_law_X6_again : GoodIn wsL_law (wsV RL 84 RX6 yX6_again wsX6_again) := goodIn_app (goodIn_of _ (by decide +kernel)) ggL_law_X6_again
set_option maxRecDepth 20000 in
theorem ggL_law_X5_ruins : GoodIn wsL_law wsX5_ruins := goodIn_r _ [634, 20, 19, 368, 505, 506, 507, 2, 508, 366, 284, 285, 286, 18, 287, 51, 288, 289, 290, 291, 52, 161, 162, 163, 164, 165, 166, 53, 579, 518, 519, 520, 521, 522, 523, 524, 525, 391, 526, 389, 390, 392, 527, 528, 529, 530, 531, 386, 387, 388, 532, 533, 534, 535, 950, 951, 952, 953, 954, 955, 956, 957, 958, 959, 1007, 1008, 1009, 1010, 1011, 1012, 1013, 1014, 1015, 1016, 1017, 1018] (by decide +kernel) (by decide +kernel)
set_option maxRecDepth 20000 in
theorem gL_law_X5_ruins : GoodIn wsL_law (wsV RL 85 RX5 yX5_ruins wsX5_ruins) := goodIn_app (goodIn_of _ (by decide +kernel)) ggL_law_X5_ruins
set_option maxRecDepth 20000 in
theorem ggL_law_X6_ruins : GoodIn wsL_law wsX6_ruins := goodIn_r _ [638, 76, 540, 541, 542, 5, 543, 75, 406, 407, 408, 409, 548, 549, 550, 551, 552, 553, 554, 410, 411, 412, 413, 414, 415, 416, 417, 555, 556, 557, 558, 559, 560, 561, 562, 563, 564, 565, 960, 961, 962, 963, 964, 965, 966, 967, 968, 969, 970, 971, 972, 973, 974, 975, 976, 977, 978, 979, 980, 981, 982, 983, 984, 985, 986, 987, 988, 989, 990] (by decide +kernel) (by decide +kernel)
set_option maxRecDepth 20000 in
theorem gL_law_X6_ruins : GoodIn wsL_law (wsV RL 88 RX6 yX6_ruins wsX6_ruins) := goodIn_app (goodIn_of _ (by decide +kernel)) ggL_law_X6_ruins
set_option maxRecDepth 20000 in
theorem ggL_law_X5_need : GoodIn wsL_law wsX5_need := goodIn_r _ [642, 20, 19, 426, 369, 381, 382, 383, 2, 384, 366, 105, 106, 107, 505, 506, 507, 508, 603, 604, 605, 606, 575, 284, 285, 286, 18, 287, 51, 288, 289, 290, 291, 52, 161, 162, 163, 164, 165, 166, 53, 579, 518, 519, 520, 521, 522, 523, 524, 525, 391, 526, 389, 390, 392, 527, 528, 529, 530, 531, 386, 387, 388, 532, 533, 534, 535, 643, 514, 515, 516, 517, 385, 950, 951, 952, 953, 954, 955, 956, 957, 958, 959, 1007, 1008, 1009, 1010, 1011, 1012, 1013, 1014, 1015, 1016, 1017, 1018] (by decide +kernel) (by decide +kernel)
set_option maxRecDepth 20000 in
theorem gL_law_X5_need : GoodIn wsL_law (wsV RL 89 RX5 yX5_need wsX5_need) := goodIn_app (goodIn_of _ (by decide +kernel)) ggL_law_X5_need
set_option maxRecDepth 20000 in
theorem ggL_law_X6_need : GoodIn wsL_law wsX6_need := goodIn_r _ [647, 553, 402, 403, 404, 5, 405, 75, 119, 120, 121, 540, 541, 542, 543, 406, 407, 408, 409, 76, 562, 563, 564, 565, 611, 612, 613, 614, 552, 548, 549, 550, 551, 554, 410, 411, 412, 413, 414, 415, 416, 417, 555, 556, 557, 558, 559, 560, 561, 960, 961, 962, 963, 964, 965, 966, 967, 968, 969, 970, 971, 972, 973, 974, 975, 976, 977, 978, 979, 980, 981, 982, 983, 984, 985, 986, 987, 988, 989, 990] (by decide +kernel) (by decide +kernel)
set_option maxRecDepth 20000 in
theorem gL_law_X6_need : GoodIn wsL_law (wsV RL 92 RX6 yX6_need wsX6_need) := goodIn_app (goodIn_of _ (by decide +kernel)) ggL_law_X6_need
