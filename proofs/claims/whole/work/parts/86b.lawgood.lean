set_option maxRecDepth 20000 in
theorem gL_law_X7_takeBack : GoodIn wsL_law (wsV RL 41 RX7 yX7_takeBack wsX7_takeBack) := goodIn_app (goodIn_of _ (by decide +kernel)) ggL_law_X7_takeBack
set_option maxRecDepth 20000 in
theorem ggL_law_X6_door : GoodIn wsL_law wsX6_door := goodIn_r _ [378, 28, 16, 104, 105, 106, 27, 107, 85, 108, 84, 14, 15, 109, 31, 32, 33, 11, 12, 34, 35, 36, 37, 38, 39, 40, 41, 42, 43, 44, 45, 46, 47, 48, 49, 50, 51, 52, 53, 54, 55, 56, 57, 58, 59, 60, 61, 62, 63, 64, 65, 66, 67, 68, 69, 70, 71, 110, 111, 112, 113, 114, 115, 116, 117, 118, 119, 120, 121, 122, 123, 124, 125, 126, 127, 128, 129, 130, 131, 132, 133, 134, 135, 136, 137, 379, 380, 381, 382, 241, 2, 242, 209, 210, 211, 212, 383, 384, 385, 386, 222, 223, 224, 225, 146, 147, 148, 149, 150, 151, 152, 153, 154, 155, 156, 157, 158, 159, 952, 953, 954, 955, 956, 991, 992, 973, 974, 975, 976, 977, 978, 979, 980, 981, 982, 993, 994, 995, 996, 997, 998, 999, 1000, 1001, 1002, 1003, 1004, 1005, 1006, 1007] (by decide +kernel) (by decide +kernel)
set_option maxRecDepth 20000 in
theorem gL_law_X6_door : GoodIn wsL_law (wsV RL 42 RX6 yX6_door wsX6_door) := goodIn_app (goodIn_of _ (by decide +kernel)) ggL_law_X6_door
set_option maxRecDepth 20000 in
theorem ggL_law_X7_door : GoodIn wsL_law wsX7_door := goodIn_r _ [390, 391, 392, 393, 5, 394, 90, 395, 396, 397, 254, 255, 256, 164, 165, 166, 343, 344, 345, 346, 257, 258, 259, 260, 167, 168, 169, 170, 171, 172, 91, 289, 290, 291, 292, 398, 399, 400, 401, 285, 286, 287, 288, 177, 178, 179, 180, 957, 958, 959, 960, 961, 962, 963, 964, 965, 966, 967, 968, 969, 970, 971, 972] (by decide +kernel) (by decide +kernel)
set_option maxRecDepth 20000 in
theorem gL_law_X7_door : GoodIn wsL_law (wsV RL 45 RX7 yX7_door wsX7_door) := goodIn_app (goodIn_of _ (by decide +kernel)) ggL_law_X7_door
set_option maxRecDepth 20000 in
theorem ggL_law_X6_come : GoodIn wsL_law wsX6_come := goodIn_r _ [405, 28, 16, 20, 104, 105, 106, 27, 107, 85, 108, 84, 14, 15, 109, 31, 32, 33, 11, 12, 34, 35, 36, 37, 38, 39, 40, 41, 42, 43, 44, 45, 46, 47, 48, 49, 50, 51, 52, 53, 54, 55, 56, 57, 58, 59, 60, 61, 62, 63, 64, 65, 66, 67, 68, 69, 70, 71, 110, 111, 112, 113, 114, 115, 116, 117, 118, 119, 120, 121, 122, 123, 124, 125, 126, 127, 128, 129, 130, 131, 132, 133, 134, 135, 136, 137, 406, 407, 408, 409, 410, 411, 241, 2, 242, 412, 413, 414, 415, 416, 417, 218, 219, 220, 221, 222, 223, 224, 225, 146, 147, 148, 149, 150, 151, 418, 419, 420, 421, 422, 423, 424, 425, 426, 427, 428, 429, 430, 431, 432, 433, 434, 435, 436, 437, 438, 439, 440, 19, 441, 442, 443, 444, 445, 446, 238, 239, 240, 447, 210, 211, 212, 448, 449, 450, 451, 452, 453, 454, 455, 202, 203, 204, 198, 205, 206, 207, 208, 209, 189, 190, 456, 457, 458, 459, 237, 142, 143, 144, 145, 460, 152, 153, 154, 155, 156, 157, 158, 159, 952, 953, 954, 955, 956, 991, 992, 973, 974, 975, 976, 977, 978, 979, 980, 981, 982, 993, 994, 995, 996, 997, 998, 999, 1000, 1001, 1002, 1003, 1004, 1005, 1006, 1007, 983, 984] (by decide +kernel) (by decide +kernel)
set_option maxRecDepth 20000 in
theorem gL_law_X6_come : GoodIn wsL_law (wsV RL 46 RX6 yX6_come wsX6_come) := goodIn_app (goodIn_of _ (by decide +kernel)) ggL_law_X6_come
set_option maxRecDepth 20000 in
theorem ggL_law_X7_come : GoodIn wsL_law wsX7_come := goodIn_r _ [464, 465, 466, 467, 5, 468, 90, 469, 395, 396, 397, 254, 255, 256, 164, 165, 166, 257, 258, 259, 260, 167, 168, 169, 170, 171, 172, 91, 470, 471, 472, 473, 474, 475, 476, 477, 478, 479, 480, 481, 285, 286, 287, 288, 482, 483, 484, 485, 177, 178, 179, 180, 486, 487, 488, 489, 490, 491, 492, 493, 289, 290, 291, 292, 494, 495, 496, 497, 269, 270, 271, 272, 273, 274, 275, 276, 173, 174, 175, 176, 957, 958, 959, 960, 961, 962, 963, 964, 965, 966, 967, 968, 969, 970, 971, 972] (by decide +kernel) (by decide +kernel)
set_option maxRecDepth 20000 in
theorem gL_law_X7_come : GoodIn wsL_law (wsV RL 49 RX7 yX7_come wsX7_come) := goodIn_app (goodIn_of _ (by decide +kernel)) ggL_law_X7_come
set_option maxRecDepth 20000 in
theorem ggL_law_X6_flush : GoodIn wsL_law wsX6_flush := goodIn_r _ [501, 28, 16, 502, 104, 105, 106, 27, 107, 85, 108, 84, 14, 15, 109, 31, 32, 33, 11, 12, 34, 35, 36, 37, 38, 39, 40, 41, 42, 43, 44, 45, 46, 47, 48, 49, 50, 51, 52, 53, 54, 55, 56, 57, 58, 59, 60, 61, 62, 63, 64, 65, 66, 67, 68, 69, 70, 71, 110, 111, 112, 113, 114, 115, 116, 117, 118, 119, 120, 121, 122, 123, 124, 125, 126, 127, 128, 129, 130, 131, 132, 133, 134, 135, 136, 137, 503, 219, 220, 221, 504, 223, 224, 225, 146, 147, 148, 149, 150, 2, 151, 152, 153, 154, 155, 156, 157, 158, 159, 952, 953, 954, 955, 956, 973, 974, 975, 976, 977, 978, 979, 980, 981, 982, 991, 992, 993, 994, 995, 996, 997, 998, 999, 1000, 1001, 1002, 1003, 1004, 1005, 1006, 1007] (by decide +kernel) (by decide +kernel)
set_option maxRecDepth 20000 in
theorem gL_law_X6_flush : GoodIn wsL_law (wsV RL 50 RX6 yX6_flush wsX6_flush) := goodIn_app (goodIn_of _ (by decide +kernel)) ggL_law_X6_flush
set_option maxRecDepth 20000 in
theorem ggL_law_X7_flush : GoodIn wsL_law wsX7_flush := goodIn_r _ [508, 167, 168, 169, 5, 170, 171, 172, 91, 90, 474, 475, 476, 477, 957, 958, 959, 960, 961, 962, 963, 964, 965, 966, 967, 968, 969, 970, 971, 972] (by decide +kernel) (by decide +kernel)
set_option maxRecDepth 20000 in
theorem gL_law_X7_flush : GoodIn wsL_law (wsV RL 54 RX7 yX7_flush wsX7_flush) := goodIn_app (goodIn_of _ (by decide +kernel)) ggL_law_X7_flush
set_option maxRecDepth 20000 in
theorem ggL_law_X6_ofPage : GoodIn wsL_law wsX6_ofPage := goodIn_r _ [512, 16, 513, 514, 515, 189, 2, 190, 516, 194, 195, 15, 196, 48, 197, 198, 199, 200, 150, 151, 201, 202, 203, 204, 205, 206, 35, 207, 208, 209, 210, 211, 47, 212, 129, 517, 518, 519, 520, 191, 192, 521, 522, 523, 524, 56, 525, 526, 527, 528, 529, 530, 531, 952, 953, 954, 955, 956, 973, 974, 975, 976, 977, 978, 979, 980, 981, 982, 993, 994, 995, 996, 997, 998, 999, 1000] (by decide +kernel) (by decide +kernel)
set_option maxRecDepth 20000 in
theorem gL_law_X6_ofPage : GoodIn wsL_law (wsV RL 55 RX6 yX6_ofPage wsX6_ofPage) := goodIn_app (goodIn_of _ (by decide +kernel)) ggL_law_X6_ofPage
set_option maxRecDepth 20000 in
theorem ggL_law_X7_ofPage : GoodIn wsL_law wsX7_ofPage := goodIn_r _ [535, 90, 251, 252, 5, 253, 164, 165, 166, 265, 266, 267, 268, 95, 269, 270, 271, 272, 273, 274, 275, 276, 536, 537, 538, 539, 540, 541, 542, 543, 957, 958, 959, 960, 961, 962, 963, 964, 965, 966, 967, 968, 969, 970, 971, 972] (by decide +kernel) (by decide +kernel)
set_option maxRecDepth 20000 in
theorem gL_law_X7_ofPage : GoodIn wsL_law (wsV RL 58 RX7 yX7_ofPage wsX7_ofPage) := goodIn_app (goodIn_of _ (by decide +kernel)) ggL_law_X7_ofPage
set_option maxRecDepth 20000 in
theorem ggL_law_X6_ofStamp : GoodIn wsL_law wsX6_ofStamp := goodIn_r _ [547, 16, 514, 548, 549, 550, 551, 552, 553, 554, 555, 210, 211, 47, 212, 129, 556, 150, 2, 151, 516, 194, 195, 15, 196, 48, 197, 198, 199, 200, 201, 202, 203, 204, 205, 206, 35, 207, 208, 209, 189, 190, 557, 558, 559, 560, 60, 561, 562, 563, 564, 565, 566, 526, 527, 528, 529, 530, 531, 952, 953, 954, 955, 956, 973, 974, 975, 976, 977, 978, 979, 980, 981, 982, 993, 994, 995, 996, 997, 998, 999, 1000] (by decide +kernel) (by decide +kernel)
set_option maxRecDepth 20000 in
theorem gL_law_X6_ofStamp : GoodIn wsL_law (wsV RL 59 RX6 yX6_ofStamp wsX6_ofStamp) := goodIn_app (goodIn_of _ (by decide +kernel)) ggL_law_X6_ofStamp
set_option maxRecDepth 20000 in
theorem ggL_law_X7_ofStamp : GoodIn wsL_law wsX7_ofStamp := goodIn_r _ [570, 343, 344, 345, 5, 346, 90, 164, 165, 166, 269, 270, 271, 272, 571, 572, 573, 574, 95, 265, 266, 267, 268, 273, 274, 275, 276, 575, 576, 577, 578, 579, 580, 581, 582, 583, 584, 585, 586, 957, 958, 959, 960, 961, 962, 963, 964, 965, 966, 967, 968, 969, 970, 971, 972] (by decide +kernel) (by decide +kernel)
set_option maxRecDepth 20000 in
theorem gL_law_X7_ofStamp : GoodIn wsL_law (wsV RL 62 RX7 yX7_ofStamp wsX7_ofStamp) := goodIn_app (goodIn_of _ (by decide +kernel)) ggL_law_X7_ofStamp
set_option maxRecDepth 20000 in
theorem ggL_law_X6_leads : GoodIn wsL_law wsX6_leads := goodIn_r _ [590, 16, 591, 241, 2, 242, 592, 238, 239, 15, 240, 36, 952, 953, 954, 955, 956, 973, 974, 975, 976, 977, 978, 979, 980, 981, 982] (by decide +kernel) (by decide +kernel)
set_option maxRecDepth 20000 in
theorem gL_law_X6_leads : GoodIn wsL_law (wsV RL 63 RX6 yX6_leads wsX6_leads) := goodIn_app (goodIn_of _ (by decide +kernel)) ggL_law_X6_leads
set_option maxRecDepth 20000 in
theorem ggL_law_X7_leads : GoodIn wsL_law wsX7_leads := goodIn_r _ [596, 395, 396, 5, 397, 254, 255, 256, 164, 165, 166, 289, 290, 291, 292, 90, 957, 958, 959, 960, 961, 962, 963, 964, 965, 966, 967, 968, 969, 970, 971, 972] (by decide +kernel) (by decide +kernel)
set_option maxRecDepth 20000 in
theorem gL_law_X7_leads : GoodIn wsL_law (wsV RL 66 RX7 yX7_leads wsX7_leads) := goodIn_app (goodIn_of _ (by decide +kernel)) ggL_law_X7_leads
set_option maxRecDepth 20000 in
theorem ggL_law_X6_note : GoodIn wsL_law wsX6_note := goodIn_r _ [600, 16, 502, 601, 602, 603, 604, 605, 423, 424, 51, 425, 135, 952, 953, 954, 955, 956, 973, 974, 975, 976, 977, 978, 979, 980, 981, 982, 1001, 1002, 1003, 1004, 1005, 1006, 1007] (by decide +kernel) (by decide +kernel)
set_option maxRecDepth 20000 in
theorem gL_law_X6_note : GoodIn wsL_law (wsV RL 67 RX6 yX6_note wsX6_note) := goodIn_app (goodIn_of _ (by decide +kernel)) ggL_law_X6_note
