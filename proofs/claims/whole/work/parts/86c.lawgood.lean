set_option maxRecDepth 20000 in
theorem ggL_law_X7_note : GoodIn wsL_law wsX7_note := goodIn_r _ [609, 90, 164, 165, 5, 166, 285, 286, 287, 288, 957, 958, 959, 960, 961, 962, 963, 964, 965, 966, 967, 968, 969, 970, 971, 972] (by decide +kernel) (by decide +kernel)
set_option maxRecDepth 20000 in
theorem gL_law_X7_note : GoodIn wsL_law (wsV RL 70 RX7 yX7_note wsX7_note) := goodIn_app (goodIn_of _ (by decide +kernel)) ggL_law_X7_note
set_option maxRecDepth 20000 in
theorem ggL_law_X6_count : GoodIn wsL_law wsX6_count := goodIn_r _ [613, 16, 514, 614, 502, 615, 616, 617, 618, 619, 620, 621, 622, 24, 623, 28, 624, 516, 194, 195, 15, 196, 48, 197, 198, 199, 200, 150, 2, 151, 201, 202, 203, 204, 205, 206, 35, 207, 208, 209, 210, 211, 47, 212, 129, 189, 190, 525, 526, 527, 528, 529, 530, 531, 952, 953, 954, 955, 956, 973, 974, 975, 976, 977, 978, 979, 980, 981, 982, 993, 994, 995, 996, 997, 998, 999, 1000, 1001, 1002, 1003, 1004, 1005, 1006, 1007, 985, 986, 987, 988, 989, 990, 991, 992] (by decide +kernel) (by decide +kernel)
set_option maxRecDepth 20000 in
theorem gL_law_X6_count : GoodIn wsL_law (wsV RL 71 RX6 yX6_count wsX6_count) := goodIn_app (goodIn_of _ (by decide +kernel)) ggL_law_X6_count
set_option maxRecDepth 20000 in
theorem ggL_law_X7_count : GoodIn wsL_law wsX7_count := goodIn_r _ [628, 90, 629, 171, 630, 631, 632, 5, 633, 265, 266, 267, 268, 95, 269, 270, 271, 272, 273, 274, 275, 276, 540, 541, 542, 543, 957, 958, 959, 960, 961, 962, 963, 964, 965, 966, 967, 968, 969, 970, 971, 972] (by decide +kernel) (by decide +kernel)
set_option maxRecDepth 20000 in
theorem gL_law_X7_count : GoodIn wsL_law (wsV RL 74 RX7 yX7_count wsX7_count) := goodIn_app (goodIn_of _ (by decide +kernel)) ggL_law_X7_count
set_option maxRecDepth 20000 in
theorem ggL_law_X6_ended : GoodIn wsL_law wsX6_ended := goodIn_r _ [637, 16, 638, 952, 953, 954, 955, 956, 973, 974, 975, 976, 977, 978, 979, 980, 981, 982] (by decide +kernel) (by decide +kernel)
set_option maxRecDepth 20000 in
theorem gL_law_X6_ended : GoodIn wsL_law (wsV RL 75 RX6 yX6_ended wsX6_ended) := goodIn_app (goodIn_of _ (by decide +kernel)) ggL_law_X6_ended
set_option maxRecDepth 20000 in
theorem ggL_law_X7_ended : GoodIn wsL_law wsX7_ended := goodIn_r _ [642, 90, 164, 165, 5, 166, 957, 958, 959, 960, 961, 962, 963, 964, 965, 966, 967, 968, 969, 970, 971, 972] (by decide +kernel) (by decide +kernel)
set_option maxRecDepth 20000 in
theorem gL_law_X7_ended : GoodIn wsL_law (wsV RL 78 RX7 yX7_ended wsX7_ended) := goodIn_app (goodIn_of _ (by decide +kernel)) ggL_law_X7_ended
set_option maxRecDepth 20000 in
theorem ggL_law_X6_walk : GoodIn wsL_law wsX6_walk := goodIn_r _ [646, 20, 16, 647, 648, 591, 241, 2, 242, 649, 412, 413, 650, 439, 440, 19, 441, 442, 443, 444, 445, 446, 238, 239, 15, 240, 36, 447, 210, 211, 47, 212, 129, 448, 449, 450, 451, 452, 453, 454, 150, 151, 455, 202, 203, 204, 48, 198, 205, 206, 35, 207, 208, 209, 189, 190, 952, 953, 954, 955, 956, 983, 984, 973, 974, 975, 976, 977, 978, 979, 980, 981, 982, 993, 994, 995, 996, 997, 998, 999, 1000] (by decide +kernel) (by decide +kernel)
set_option maxRecDepth 20000 in
theorem gL_law_X6_walk : GoodIn wsL_law (wsV RL 79 RX6 yX6_walk wsX6_walk) := goodIn_app (goodIn_of _ (by decide +kernel)) ggL_law_X6_walk
set_option maxRecDepth 20000 in
theorem ggL_law_X7_walk : GoodIn wsL_law wsX7_walk := goodIn_r _ [654, 469, 395, 396, 5, 397, 254, 255, 256, 164, 165, 166, 490, 491, 492, 493, 289, 290, 291, 292, 90, 494, 495, 496, 497, 269, 270, 271, 272, 273, 274, 275, 276, 957, 958, 959, 960, 961, 962, 963, 964, 965, 966, 967, 968, 969, 970, 971, 972] (by decide +kernel) (by decide +kernel)
set_option maxRecDepth 20000 in
theorem gL_law_X7_walk : GoodIn wsL_law (wsV RL 82 RX7 yX7_walk wsX7_walk) := goodIn_app (goodIn_of _ (by decide +kernel)) ggL_law_X7_walk
set_option maxRecDepth 20000 in
theorem ggL_law_X6_hides : GoodIn wsL_law wsX6_hides := goodIn_r _ [658, 16, 514, 555, 210, 211, 47, 212, 129, 516, 194, 195, 15, 196, 48, 197, 198, 199, 200, 150, 2, 151, 201, 202, 203, 204, 205, 206, 35, 207, 208, 209, 189, 190, 659, 660, 661, 662, 663, 518, 519, 520, 191, 192, 193, 952, 953, 954, 955, 956, 973, 974, 975, 976, 977, 978, 979, 980, 981, 982, 993, 994, 995, 996, 997, 998, 999, 1000] (by decide +kernel) (by decide +kernel)
set_option maxRecDepth 20000 in
theorem gL_law_X6_hides : GoodIn wsL_law (wsV RL 83 RX6 yX6_hides wsX6_hides) := goodIn_app (goodIn_of _ (by decide +kernel)) ggL_law_X6_hides
set_option maxRecDepth 20000 in
theorem ggL_law_X7_hides : GoodIn wsL_law wsX7_hides := goodIn_r _ [667, 343, 344, 345, 5, 346, 90, 164, 165, 166, 668, 669, 670, 671, 269, 270, 271, 272, 265, 266, 267, 268, 95, 273, 274, 275, 276, 536, 537, 538, 539, 957, 958, 959, 960, 961, 962, 963, 964, 965, 966, 967, 968, 969, 970, 971, 972] (by decide +kernel) (by decide +kernel)
set_option maxRecDepth 20000 in
theorem gL_law_X7_hides : GoodIn wsL_law (wsV RL 86 RX7 yX7_hides wsX7_hides) := goodIn_app (goodIn_of _ (by decide +kernel)) ggL_law_X7_hides
set_option maxRecDepth 20000 in
theorem ggL_law_X6_needless : GoodIn wsL_law wsX6_needless := goodIn_r _ [675, 16, 676, 515, 189, 2, 190, 677, 678, 679, 15, 680, 48, 197, 193, 194, 195, 196, 198, 199, 200, 150, 151, 201, 202, 203, 204, 205, 206, 35, 207, 208, 209, 210, 211, 47, 212, 129, 681, 522, 523, 524, 56, 682, 660, 661, 662, 663, 518, 519, 520, 191, 192, 952, 953, 954, 955, 956, 973, 974, 975, 976, 977, 978, 979, 980, 981, 982, 993, 994, 995, 996, 997, 998, 999, 1000] (by decide +kernel) (by decide +kernel)
set_option maxRecDepth 20000 in
theorem gL_law_X6_needless : GoodIn wsL_law (wsV RL 87 RX6 yX6_needless wsX6_needless) := goodIn_app (goodIn_of _ (by decide +kernel)) ggL_law_X6_needless
set_option maxRecDepth 20000 in
theorem ggL_law_X7_needless : GoodIn wsL_law wsX7_needless := goodIn_r _ [686, 687, 90, 251, 252, 5, 253, 164, 165, 166, 269, 270, 271, 272, 571, 572, 573, 574, 95, 265, 266, 267, 268, 273, 274, 275, 276, 668, 669, 670, 671, 536, 537, 538, 539, 957, 958, 959, 960, 961, 962, 963, 964, 965, 966, 967, 968, 969, 970, 971, 972] (by decide +kernel) (by decide +kernel)
set_option maxRecDepth 20000 in
theorem gL_law_X7_needless : GoodIn wsL_law (wsV RL 91 RX7 yX7_needless wsX7_needless) := goodIn_app (goodIn_of _ (by decide +kernel)) ggL_law_X7_needless
set_option maxRecDepth 20000 in
theorem ggL_law_X6_longest : GoodIn wsL_law wsX6_longest := goodIn_r _ [691, 16, 692, 693, 694, 15, 695, 48, 197, 193, 194, 195, 196, 198, 199, 200, 150, 2, 151, 201, 202, 203, 204, 205, 206, 35, 207, 208, 209, 210, 211, 47, 212, 129, 189, 190, 696, 558, 559, 560, 60, 561, 952, 953, 954, 955, 956, 973, 974, 975, 976, 977, 978, 979, 980, 981, 982, 993, 994, 995, 996, 997, 998, 999, 1000] (by decide +kernel) (by decide +kernel)
set_option maxRecDepth 20000 in
theorem gL_law_X6_longest : GoodIn wsL_law (wsV RL 92 RX6 yX6_longest wsX6_longest) := goodIn_app (goodIn_of _ (by decide +kernel)) ggL_law_X6_longest
set_option maxRecDepth 20000 in
theorem ggL_law_X7_longest : GoodIn wsL_law wsX7_longest := goodIn_r _ [700, 90, 95, 265, 266, 267, 5, 268, 269, 270, 271, 272, 273, 274, 275, 276, 575, 576, 577, 578, 957, 958, 959, 960, 961, 962, 963, 964, 965, 966, 967, 968, 969, 970, 971, 972] (by decide +kernel) (by decide +kernel)
set_option maxRecDepth 20000 in
theorem gL_law_X7_longest : GoodIn wsL_law (wsV RL 95 RX7 yX7_longest wsX7_longest) := goodIn_app (goodIn_of _ (by decide +kernel)) ggL_law_X7_longest
set_option maxRecDepth 20000 in
theorem ggL_law_X6_put : GoodIn wsL_law wsX6_put := goodIn_r _ [704, 24, 705, 706, 707, 23, 708, 709, 79, 710, 711, 712, 713, 714, 715, 716, 952, 953, 954, 955, 956, 985, 986, 987, 988, 989, 990] (by decide +kernel) (by decide +kernel)
