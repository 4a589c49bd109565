theorem good_app {T a b : List Cond} (h1 : GoodIn T a) (h2 : GoodIn T b) : GoodIn T (a ++ b) := fun w h => (List.mem_append.mp h).elim (h1 w) (h2 w)
theorem good_cons {T b : List Cond} {a : Cond} (h1 : GoodIn T [a]) (h2 : GoodIn T b) : GoodIn T (a :: b) := fun w h => (List.mem_cons.mp h).elim (fun e => h1 w (by rw [e]; exact List.mem_singleton_self a)) (h2 w)
set_option maxRecDepth 20000 in
theorem ggL_law_X6_init : GoodIn wsL_law wsX6_init := goodIn_r _ [5, 6, 7, 8, 9, 10, 11, 12, 13, 14, 15, 16, 17, 18, 19, 20, 21, 22, 23, 24, 25, 26, 27, 28, 29, 30, 31, 32, 33, 34, 35, 36, 37, 38, 39, 40, 41, 42, 43, 44, 45, 46, 47, 48, 49, 50, 51, 52, 53, 54, 55, 56, 57, 58, 59, 60, 61, 62, 63, 64, 65, 66, 67, 68, 69, 70, 71, 72, 73, 74, 75, 76, 77, 78, 79, 80, 81, 672, 673, 674, 675, 676, 677, 678, 679, 680, 681, 667, 668, 669, 670, 671, 682, 683, 684, 685, 686, 687, 688, 689, 690, 691, 692, 693, 694, 695, 696, 697, 698, 699, 700, 701, 702, 703, 704, 705, 706] (by decide +kernel) (by decide +kernel)
set_option maxRecDepth 20000 in
theorem gL_law_X6_init : GoodIn wsL_law (wsX6_init) := ggL_law_X6_init
set_option maxRecDepth 20000 in
theorem ggL_law_L_cell : GoodIn wsL_law wsL_cell := goodIn_r _ [85, 86] (by decide +kernel) (by decide +kernel)
set_option maxRecDepth 20000 in
theorem gL_law_L_cell : GoodIn wsL_law (va_wsS RL 12 yL_cell wsL_cell) := goodIn_app (goodIn_of _ (by decide +kernel)) ggL_law_L_cell
set_option maxRecDepth 20000 in
theorem gc_L_law_L_refused_1 : GoodIn wsL_law wsL_refused_r1 := goodIn_r _ [90, 91, 92, 93, 84, 94, 95, 96, 97, 98, 2, 99, 24, 12, 100, 101, 102, 23, 103, 81, 104, 80, 10, 11] (by decide +kernel) (by decide +kernel)
set_option maxRecDepth 20000 in
theorem gc_L_law_L_refused_2 : GoodIn wsL_law wsL_refused_r2 := goodIn_r _ [105, 27, 28, 29, 7, 8, 30, 31, 32, 33, 34, 35, 36, 37, 38, 39, 40, 41, 42, 43, 44, 45, 46, 47] (by decide +kernel) (by decide +kernel)
set_option maxRecDepth 20000 in
theorem gc_L_law_L_refused_3 : GoodIn wsL_law wsL_refused_r3 := goodIn_r _ [48, 49, 50, 51, 52, 53, 54, 55, 56, 57, 58, 59, 60, 61, 62, 63, 64, 65, 66, 67, 106, 107, 108, 109] (by decide +kernel) (by decide +kernel)
set_option maxRecDepth 20000 in
theorem gc_L_law_L_refused_4 : GoodIn wsL_law wsL_refused_r4 := goodIn_r _ [110, 111, 112, 113, 114, 115, 116, 117, 118, 119, 120, 121, 122, 123, 124, 125, 126, 127, 128, 129, 130, 131, 132, 133] (by decide +kernel) (by decide +kernel)
set_option maxRecDepth 20000 in
theorem gc_L_law_L_refused_5 : GoodIn wsL_law wsL_refused_r5 := goodIn_r _ [134, 135, 136, 137, 138, 139, 140, 141, 142, 143, 144, 145, 146, 147, 148, 149, 150, 151, 152, 153, 154, 155, 156, 157] (by decide +kernel) (by decide +kernel)
set_option maxRecDepth 20000 in
theorem gc_L_law_L_refused_6 : GoodIn wsL_law wsL_refused_r6 := goodIn_r _ [158, 159, 160, 161, 162, 163, 164, 165, 166, 167, 168, 169, 170, 171, 172, 173, 174, 175, 176, 177, 178, 179, 180, 181] (by decide +kernel) (by decide +kernel)
set_option maxRecDepth 20000 in
theorem gc_L_law_L_refused_7 : GoodIn wsL_law wsL_refused_r7 := goodIn_r _ [182, 183, 184, 185, 186, 187, 188, 189, 190, 191, 192, 193, 194, 195, 196, 197, 198, 199, 200, 201, 202, 203, 204, 205] (by decide +kernel) (by decide +kernel)
set_option maxRecDepth 20000 in
theorem gc_L_law_L_refused_8 : GoodIn wsL_law wsL_refused_r8 := goodIn_r _ [206, 207, 208, 209, 210, 211, 212, 213, 214, 215, 216, 217, 218, 219, 220, 221, 222, 223, 224, 225, 226, 227, 228, 229] (by decide +kernel) (by decide +kernel)
set_option maxRecDepth 20000 in
theorem gc_L_law_L_refused_9 : GoodIn wsL_law wsL_refused_r9 := goodIn_r _ [230, 231, 232, 233, 234, 235, 236, 237, 238, 239, 240, 241, 242, 243, 244, 245, 246, 247, 248, 249, 250, 251, 252, 253] (by decide +kernel) (by decide +kernel)
set_option maxRecDepth 20000 in
theorem gc_L_law_L_refused_10 : GoodIn wsL_law wsL_refused_r10 := goodIn_r _ [254, 255, 256, 257, 258, 259, 260, 261, 262, 263, 264, 265, 266, 267, 268, 269, 270, 271, 272, 273, 274, 275, 276, 16] (by decide +kernel) (by decide +kernel)
set_option maxRecDepth 20000 in
theorem gc_L_law_L_refused_11 : GoodIn wsL_law wsL_refused_r11 := goodIn_r _ [277, 278, 279, 280, 281, 282, 283, 284, 285, 286, 287, 288, 289, 290, 291, 292, 293, 294, 295, 296, 297, 298, 299, 300] (by decide +kernel) (by decide +kernel)
set_option maxRecDepth 20000 in
theorem gc_L_law_L_refused_12 : GoodIn wsL_law wsL_refused_r12 := goodIn_r _ [301, 302, 303, 304, 305, 306, 307, 308, 309, 310, 311, 15, 312, 313, 314, 315, 316, 317, 318, 319, 320, 321, 322, 323] (by decide +kernel) (by decide +kernel)
set_option maxRecDepth 20000 in
theorem gc_L_law_L_refused_13 : GoodIn wsL_law wsL_refused_r13 := goodIn_r _ [324, 325, 326, 327, 328, 329, 330, 331, 332, 333, 334, 335, 336, 337, 338, 339, 340, 341, 342, 343, 344, 345, 346, 347] (by decide +kernel) (by decide +kernel)
set_option maxRecDepth 20000 in
theorem gc_L_law_L_refused_14 : GoodIn wsL_law wsL_refused_r14 := goodIn_r _ [348, 349, 350, 351, 352, 353, 354, 355, 356, 357, 358, 359, 360, 361, 362, 363, 364, 365, 366, 367, 368, 369, 370, 371] (by decide +kernel) (by decide +kernel)
set_option maxRecDepth 20000 in
theorem gc_L_law_L_refused_15 : GoodIn wsL_law wsL_refused_r15 := goodIn_r _ [372, 373, 374, 375, 376, 377, 378, 379, 380, 381, 382, 383, 384, 385, 386, 387, 388, 389, 390, 391, 392, 393, 394, 395] (by decide +kernel) (by decide +kernel)
set_option maxRecDepth 20000 in
theorem gc_L_law_L_refused_16 : GoodIn wsL_law wsL_refused_r16 := goodIn_r _ [396, 397, 398, 399, 400, 401, 402, 403, 404, 405, 406, 20, 407, 408, 409, 410, 411, 412, 413, 414, 415, 416, 417, 418] (by decide +kernel) (by decide +kernel)
set_option maxRecDepth 20000 in
theorem gc_L_law_L_refused_17 : GoodIn wsL_law wsL_refused_r17 := goodIn_r _ [419, 420, 421, 422, 423, 424, 425, 426, 427, 428, 429, 430, 431, 432, 433, 434, 435, 436, 437, 438, 439, 440, 441, 442] (by decide +kernel) (by decide +kernel)
set_option maxRecDepth 20000 in
theorem gc_L_law_L_refused_18 : GoodIn wsL_law wsL_refused_r18 := goodIn_r _ [443, 444, 445, 446, 447, 448, 449, 450, 451, 452, 453, 454, 455, 456, 457, 19, 458, 459, 75, 460, 461, 462, 463, 464] (by decide +kernel) (by decide +kernel)
set_option maxRecDepth 20000 in
theorem gc_L_law_L_refused_19 : GoodIn wsL_law wsL_refused_r19 := goodIn_r _ [465, 466, 467, 468, 469, 470, 471, 472, 473, 474, 475, 476, 477, 478, 479, 480, 481, 482, 483, 484, 485, 486, 487, 488] (by decide +kernel) (by decide +kernel)
set_option maxRecDepth 20000 in
theorem gc_L_law_L_refused_20 : GoodIn wsL_law wsL_refused_r20 := goodIn_r _ [489, 490, 491, 492, 493, 494, 495, 496, 497, 498, 499, 500, 501, 502, 503, 504, 505, 506, 507, 508, 509, 510, 511, 512] (by decide +kernel) (by decide +kernel)
set_option maxRecDepth 20000 in
theorem gc_L_law_L_refused_21 : GoodIn wsL_law wsL_refused_r21 := goodIn_r _ [513, 514, 515, 516, 517, 518, 519, 520, 521, 522, 523, 524, 525, 526, 527, 528, 529, 530, 531, 532, 533, 534, 535, 536] (by decide +kernel) (by decide +kernel)
set_option maxRecDepth 20000 in
theorem gc_L_law_L_refused_22 : GoodIn wsL_law wsL_refused_r22 := goodIn_r _ [537, 538, 539, 540, 541, 542, 543, 544, 545, 546, 547, 548, 549, 550, 551, 552, 553, 554, 555, 556, 557, 76, 558, 559] (by decide +kernel) (by decide +kernel)
set_option maxRecDepth 20000 in
theorem gc_L_law_L_refused_23 : GoodIn wsL_law wsL_refused_r23 := goodIn_r _ [560, 561, 562, 563, 564, 565, 566, 567, 568, 569, 570, 571, 572, 573, 574, 575, 576, 577, 578, 579, 580, 581, 582, 583] (by decide +kernel) (by decide +kernel)
set_option maxRecDepth 20000 in
theorem gc_L_law_L_refused_24 : GoodIn wsL_law wsL_refused_r24 := goodIn_r _ [584, 585, 586, 587, 588, 589, 590, 591, 592, 25, 9, 593, 594, 595, 26, 596, 597, 598, 599, 600, 601, 602, 603, 604] (by decide +kernel) (by decide +kernel)
set_option maxRecDepth 20000 in
theorem gc_L_law_L_refused_25 : GoodIn wsL_law wsL_refused_r25 := goodIn_r _ [605, 606, 607, 608] (by decide +kernel) (by decide +kernel)
set_option maxRecDepth 20000 in
theorem gc_L_law_L_refused_h : GoodIn wsL_law [.code yL_refused cL_refused 3 (some .boolean)] := goodIn_r _ [89] (by decide +kernel) (by decide +kernel)
set_option maxRecDepth 20000 in
theorem gc_L_law_L_refused_x6 : GoodIn wsL_law wsX60 := goodIn_r _ [667, 668, 669, 670, 671] (by decide +kernel) (by decide +kernel)
set_option maxRecDepth 20000 in
theorem gc_L_law_L_refused_x1 : GoodIn wsL_law wsX10 := goodIn_r _ [690, 691] (by decide +kernel) (by decide +kernel)
set_option maxRecDepth 20000 in
theorem gc_L_law_L_refused_x2 : GoodIn wsL_law wsX20 := goodIn_r _ [672, 673, 674, 675, 676, 677, 678, 679, 680, 681] (by decide +kernel) (by decide +kernel)
set_option maxRecDepth 20000 in
theorem gc_L_law_L_refused_x4 : GoodIn wsL_law wsX40 := goodIn_r _ [692, 693, 694, 695, 696, 697, 698, 699] (by decide +kernel) (by decide +kernel)
set_option maxRecDepth 20000 in
theorem gc_L_law_L_refused_x0 : GoodIn wsL_law wsX00 := goodIn_r _ [700, 701, 702, 703, 704, 705, 706] (by decide +kernel) (by decide +kernel)
set_option maxRecDepth 20000 in
theorem gc_L_law_L_refused_x5 : GoodIn wsL_law wsX50 := goodIn_r _ [682, 683] (by decide +kernel) (by decide +kernel)
set_option maxRecDepth 20000 in
theorem gc_L_law_L_refused_x3 : GoodIn wsL_law wsX30 := goodIn_r _ [684, 685, 686, 687, 688, 689] (by decide +kernel) (by decide +kernel)
theorem ggL_law_L_refused : GoodIn wsL_law wsL_refused := good_cons gc_L_law_L_refused_h (good_app (good_app (good_app (good_app (good_app (good_app (good_app (good_app gc_L_law_L_refused_1 (good_app gc_L_law_L_refused_2 (good_app gc_L_law_L_refused_3 (good_app gc_L_law_L_refused_4 (good_app gc_L_law_L_refused_5 (good_app gc_L_law_L_refused_6 (good_app gc_L_law_L_refused_7 (good_app gc_L_law_L_refused_8 (good_app gc_L_law_L_refused_9 (good_app gc_L_law_L_refused_10 (good_app gc_L_law_L_refused_11 (good_app gc_L_law_L_refused_12 (good_app gc_L_law_L_refused_13 (good_app gc_L_law_L_refused_14 (good_app gc_L_law_L_refused_15 (good_app gc_L_law_L_refused_16 (good_app gc_L_law_L_refused_17 (good_app gc_L_law_L_refused_18 (good_app gc_L_law_L_refused_19 (good_app gc_L_law_L_refused_20 (good_app gc_L_law_L_refused_21 (good_app gc_L_law_L_refused_22 (good_app gc_L_law_L_refused_23 (good_app gc_L_law_L_refused_24 (gc_L_law_L_refused_25))))))))))))))))))))))))) gc_L_law_L_refused_x6) gc_L_law_L_refused_x1) gc_L_law_L_refused_x2) gc_L_law_L_refused_x4) gc_L_law_L_refused_x0) gc_L_law_L_refused_x5) gc_L_law_L_refused_x3)
set_option maxRecDepth 20000 in
theorem gL_law_L_refused : GoodIn wsL_law (va_wsS RL 18 yL_refused wsL_refused) := goodIn_app (goodIn_of _ (by decide +kernel)) ggL_law_L_refused
set_option maxRecDepth 20000 in
theorem ggL_law_L_up : GoodIn wsL_law wsL_up := goodIn_r _ [94, 95] (by decide +kernel) (by decide +kernel)
set_option maxRecDepth 20000 in
theorem gL_law_L_up : GoodIn wsL_law (va_wsS RL 22 yL_up wsL_up) := goodIn_app (goodIn_of _ (by decide +kernel)) ggL_law_L_up
set_option maxRecDepth 20000 in
theorem gc_L_law_X6_set_1 : GoodIn wsL_law wsX6_set_r1 := goodIn_r _ [24, 12, 100, 101, 102, 23, 103, 81, 104, 80, 10, 11, 105, 27, 28, 29, 7, 8, 30, 31, 32, 33, 34, 35] (by decide +kernel) (by decide +kernel)
set_option maxRecDepth 20000 in
theorem gc_L_law_X6_set_2 : GoodIn wsL_law wsX6_set_r2 := goodIn_r _ [36, 37, 38, 39, 40, 41, 42, 43, 44, 45, 46, 47, 48, 49, 50, 51, 52, 53, 54, 55, 56, 57, 58, 59] (by decide +kernel) (by decide +kernel)
set_option maxRecDepth 20000 in
theorem gc_L_law_X6_set_3 : GoodIn wsL_law wsX6_set_r3 := goodIn_r _ [60, 61, 62, 63, 64, 65, 66, 67, 106, 107, 108, 109, 110, 111, 112, 113, 114, 115, 116, 117, 118, 119, 120, 121] (by decide +kernel) (by decide +kernel)
set_option maxRecDepth 20000 in
theorem gc_L_law_X6_set_4 : GoodIn wsL_law wsX6_set_r4 := goodIn_r _ [122, 123, 124, 125, 126, 127, 128, 129, 130, 131, 132, 133, 134, 135, 136, 137, 138, 139, 140, 141, 142, 143, 144, 145] (by decide +kernel) (by decide +kernel)
set_option maxRecDepth 20000 in
theorem gc_L_law_X6_set_5 : GoodIn wsL_law wsX6_set_r5 := goodIn_r _ [146, 2, 147, 148, 149, 150, 151, 152, 153, 154, 155] (by decide +kernel) (by decide +kernel)
set_option maxRecDepth 20000 in
theorem gc_L_law_X6_set_h : GoodIn wsL_law [.code yX6_set cX6_set 3 (some .int)] := goodIn_r _ [99] (by decide +kernel) (by decide +kernel)
set_option maxRecDepth 20000 in
theorem gc_L_law_X6_set_x6 : GoodIn wsL_law wsX60 := goodIn_r _ [667, 668, 669, 670, 671] (by decide +kernel) (by decide +kernel)
set_option maxRecDepth 20000 in
theorem gc_L_law_X6_set_x1 : GoodIn wsL_law wsX10 := goodIn_r _ [690, 691] (by decide +kernel) (by decide +kernel)
set_option maxRecDepth 20000 in
theorem gc_L_law_X6_set_x2 : GoodIn wsL_law wsX20 := goodIn_r _ [672, 673, 674, 675, 676, 677, 678, 679, 680, 681] (by decide +kernel) (by decide +kernel)
set_option maxRecDepth 20000 in
theorem gc_L_law_X6_set_x4 : GoodIn wsL_law wsX40 := goodIn_r _ [692, 693, 694, 695, 696, 697, 698, 699] (by decide +kernel) (by decide +kernel)
set_option maxRecDepth 20000 in
theorem gc_L_law_X6_set_x0 : GoodIn wsL_law wsX00 := goodIn_r _ [700, 701, 702, 703, 704, 705, 706] (by decide +kernel) (by decide +kernel)
theorem ggL_law_X6_set : GoodIn wsL_law wsX6_set := good_cons gc_L_law_X6_set_h (good_app (good_app (good_app (good_app (good_app (good_app gc_L_law_X6_set_1 (good_app gc_L_law_X6_set_2 (good_app gc_L_law_X6_set_3 (good_app gc_L_law_X6_set_4 (gc_L_law_X6_set_5))))) gc_L_law_X6_set_x6) gc_L_law_X6_set_x1) gc_L_law_X6_set_x2) gc_L_law_X6_set_x4) gc_L_law_X6_set_x0)
set_option maxRecDepth 20000 in
theorem gL_law_X6_set : GoodIn wsL_law (wsV RL 26 RX6 yX6_set wsX6_set) := goodIn_app (goodIn_of _ (by decide +kernel)) ggL_law_X6_set
set_option maxRecDepth 20000 in
theorem gc_L_law_L_act_1 : GoodIn wsL_law wsL_act_r1 := goodIn_r _ [92, 93, 84, 94, 95, 394, 395, 396, 2, 397, 12, 337, 398, 388, 399, 400, 401, 402, 403, 404, 405, 406, 20, 407] (by decide +kernel) (by decide +kernel)
set_option maxRecDepth 20000 in
theorem gc_L_law_L_act_2 : GoodIn wsL_law wsL_act_r2 := goodIn_r _ [24, 408, 339, 169, 170, 11, 171, 44, 172, 173, 174, 175, 146, 147, 176, 177, 178, 179, 180, 181, 31, 182, 183, 184] (by decide +kernel) (by decide +kernel)
set_option maxRecDepth 20000 in
theorem gc_L_law_L_act_3 : GoodIn wsL_law wsL_act_r3 := goodIn_r _ [185, 186, 43, 187, 125, 164, 165, 348, 349, 350, 351, 352, 353, 354, 332, 333, 334, 335, 336, 338, 340, 341, 342, 343] (by decide +kernel) (by decide +kernel)
set_option maxRecDepth 20000 in
theorem gc_L_law_L_act_4 : GoodIn wsL_law wsL_act_r4 := goodIn_r _ [166, 167, 344, 345, 346, 347, 52, 612, 613, 614, 30, 384, 385, 386, 387, 389, 390, 391, 392, 393, 294, 295, 47, 296] (by decide +kernel) (by decide +kernel)
set_option maxRecDepth 20000 in
theorem gc_L_law_L_act_5 : GoodIn wsL_law wsL_act_r5 := goodIn_r _ [131, 378, 379, 380, 381, 382, 216, 217, 383, 213, 214, 215, 32, 615, 616, 617, 355, 356, 357, 358, 359, 360, 361, 362] (by decide +kernel) (by decide +kernel)
set_option maxRecDepth 20000 in
theorem gc_L_law_L_act_6 : GoodIn wsL_law wsL_act_r6 := goodIn_r _ [363, 364, 365, 366, 367, 368, 369, 370, 371, 56, 372, 373, 374, 375, 376, 377, 618, 619, 620, 253, 254, 255, 256, 100] (by decide +kernel) (by decide +kernel)
set_option maxRecDepth 20000 in
theorem gc_L_law_L_act_7 : GoodIn wsL_law wsL_act_r7 := goodIn_r _ [101, 102, 23, 103, 81, 104, 80, 10, 105, 27, 28, 29, 7, 8, 33, 34, 35, 36, 37, 38, 39, 40, 41, 42] (by decide +kernel) (by decide +kernel)
set_option maxRecDepth 20000 in
theorem gc_L_law_L_act_8 : GoodIn wsL_law wsL_act_r8 := goodIn_r _ [45, 46, 48, 49, 50, 51, 53, 54, 55, 57, 58, 59, 60, 61, 62, 63, 64, 65, 66, 67, 106, 107, 108, 109] (by decide +kernel) (by decide +kernel)
set_option maxRecDepth 20000 in
theorem gc_L_law_L_act_9 : GoodIn wsL_law wsL_act_r9 := goodIn_r _ [110, 111, 112, 113, 114, 115, 116, 117, 118, 119, 120, 121, 122, 123, 124, 126, 127, 128, 129, 130, 132, 133, 257, 258] (by decide +kernel) (by decide +kernel)
set_option maxRecDepth 20000 in
theorem gc_L_law_L_act_10 : GoodIn wsL_law wsL_act_r10 := goodIn_r _ [259, 260, 168, 188, 189, 190, 191, 192, 193, 194, 195, 196, 197, 198, 199, 200, 142, 143, 144, 145, 201, 202, 203, 204] (by decide +kernel) (by decide +kernel)
set_option maxRecDepth 20000 in
theorem gc_L_law_L_act_11 : GoodIn wsL_law wsL_act_r11 := goodIn_r _ [205, 206, 207, 208, 209, 210, 211, 212, 148, 149, 150, 151, 152, 153, 154, 155, 156, 157, 158, 159, 160, 161, 162, 163] (by decide +kernel) (by decide +kernel)
set_option maxRecDepth 20000 in
theorem gc_L_law_L_act_12 : GoodIn wsL_law wsL_act_r12 := goodIn_r _ [218, 219, 220, 221, 222, 223, 224, 225, 226, 227, 228, 229, 230, 231, 232, 233, 234, 235, 236, 621, 622, 623, 237, 238] (by decide +kernel) (by decide +kernel)
set_option maxRecDepth 20000 in
theorem gc_L_law_L_act_13 : GoodIn wsL_law wsL_act_r13 := goodIn_r _ [239, 240, 241, 242, 243, 244, 245, 246, 247, 248, 249, 250, 251, 252, 261, 262, 263, 264, 265, 266, 267, 268, 269, 270] (by decide +kernel) (by decide +kernel)
set_option maxRecDepth 20000 in
theorem gc_L_law_L_act_14 : GoodIn wsL_law wsL_act_r14 := goodIn_r _ [271, 272, 624, 625, 626, 627, 628, 629, 630, 631, 632, 409, 410, 411, 412, 413, 414, 415, 416, 417, 16, 418, 419, 420] (by decide +kernel) (by decide +kernel)
set_option maxRecDepth 20000 in
theorem gc_L_law_L_act_15 : GoodIn wsL_law wsL_act_r15 := goodIn_r _ [283, 284, 421, 310, 311, 15, 312, 313, 314, 315, 316, 317, 318, 319, 320, 321, 322, 323, 324, 325, 326, 273, 274, 275] (by decide +kernel) (by decide +kernel)
set_option maxRecDepth 20000 in
theorem gc_L_law_L_act_16 : GoodIn wsL_law wsL_act_r16 := goodIn_r _ [276, 277, 278, 279, 280, 281, 282, 285, 286, 287, 288, 289, 290, 291, 292, 293, 297, 298, 299, 300, 301, 302, 303, 304] (by decide +kernel) (by decide +kernel)
set_option maxRecDepth 20000 in
theorem gc_L_law_L_act_17 : GoodIn wsL_law wsL_act_r17 := goodIn_r _ [305, 306, 307, 308, 309, 327, 328, 329, 330, 138, 139, 140, 141, 331, 633, 634, 635, 636, 637, 638, 639, 585, 586, 587] (by decide +kernel) (by decide +kernel)
set_option maxRecDepth 20000 in
theorem gc_L_law_L_act_18 : GoodIn wsL_law wsL_act_r18 := goodIn_r _ [19, 588, 459, 640, 641, 642, 451, 452, 453, 454, 455, 456, 457, 458, 75, 460, 461, 462, 463, 464, 465, 466, 643, 644] (by decide +kernel) (by decide +kernel)
set_option maxRecDepth 20000 in
theorem gc_L_law_L_act_19 : GoodIn wsL_law wsL_act_r19 := goodIn_r _ [645, 646, 471, 472, 473, 474, 475, 476, 477, 478, 479, 480, 481, 482, 483, 484, 485, 486, 487, 488, 489, 490, 491, 492] (by decide +kernel) (by decide +kernel)
set_option maxRecDepth 20000 in
theorem gc_L_law_L_act_20 : GoodIn wsL_law wsL_act_r20 := goodIn_r _ [493, 494, 495, 496, 497, 498, 499, 500, 501, 502, 503, 504, 505, 506, 507, 508, 509, 510, 511, 512, 513, 514, 515, 516] (by decide +kernel) (by decide +kernel)
set_option maxRecDepth 20000 in
theorem gc_L_law_L_act_21 : GoodIn wsL_law wsL_act_r21 := goodIn_r _ [517, 518, 519, 520, 521, 522, 523, 524, 525, 526, 527, 528, 529, 530, 531, 532, 533, 534, 535, 536, 537, 538, 539, 540] (by decide +kernel) (by decide +kernel)
set_option maxRecDepth 20000 in
theorem gc_L_law_L_act_22 : GoodIn wsL_law wsL_act_r22 := goodIn_r _ [541, 542, 543, 544, 545, 546, 547, 548, 549, 550, 551, 552, 553, 554, 555, 556, 557, 76, 558, 559, 560, 561, 562, 563] (by decide +kernel) (by decide +kernel)
set_option maxRecDepth 20000 in
theorem gc_L_law_L_act_23 : GoodIn wsL_law wsL_act_r23 := goodIn_r _ [564, 565, 566, 567, 568, 569, 647, 648, 649, 650, 651, 467, 468, 469, 470, 570, 571, 572, 573, 574, 575, 576, 577, 578] (by decide +kernel) (by decide +kernel)
set_option maxRecDepth 20000 in
theorem gc_L_law_L_act_24 : GoodIn wsL_law wsL_act_r24 := goodIn_r _ [579, 580, 581, 582, 583, 584, 601, 602, 603, 604, 605, 606, 607, 608, 96, 97, 98, 99, 134, 135, 136, 137, 652, 653] (by decide +kernel) (by decide +kernel)
set_option maxRecDepth 20000 in
theorem gc_L_law_L_act_25 : GoodIn wsL_law wsL_act_r25 := goodIn_r _ [654, 655, 656, 657] (by decide +kernel) (by decide +kernel)
set_option maxRecDepth 20000 in
theorem gc_L_law_L_act_h : GoodIn wsL_law [.code yL_act cL_act 15 (some .boolean)] := goodIn_r _ [611] (by decide +kernel) (by decide +kernel)
set_option maxRecDepth 20000 in
theorem gc_L_law_L_act_x6 : GoodIn wsL_law wsX60 := goodIn_r _ [667, 668, 669, 670, 671] (by decide +kernel) (by decide +kernel)
set_option maxRecDepth 20000 in
theorem gc_L_law_L_act_x2 : GoodIn wsL_law wsX20 := goodIn_r _ [672, 673, 674, 675, 676, 677, 678, 679, 680, 681] (by decide +kernel) (by decide +kernel)
set_option maxRecDepth 20000 in
theorem gc_L_law_L_act_x4 : GoodIn wsL_law wsX40 := goodIn_r _ [692, 693, 694, 695, 696, 697, 698, 699] (by decide +kernel) (by decide +kernel)
set_option maxRecDepth 20000 in
theorem gc_L_law_L_act_x0 : GoodIn wsL_law wsX00 := goodIn_r _ [700, 701, 702, 703, 704, 705, 706] (by decide +kernel) (by decide +kernel)
set_option maxRecDepth 20000 in
theorem gc_L_law_L_act_x3 : GoodIn wsL_law wsX30 := goodIn_r _ [684, 685, 686, 687, 688, 689] (by decide +kernel) (by decide +kernel)
set_option maxRecDepth 20000 in
theorem gc_L_law_L_act_x1 : GoodIn wsL_law wsX10 := goodIn_r _ [690, 691] (by decide +kernel) (by decide +kernel)
set_option maxRecDepth 20000 in
theorem gc_L_law_L_act_x5 : GoodIn wsL_law wsX50 := goodIn_r _ [682, 683] (by decide +kernel) (by decide +kernel)
theorem ggL_law_L_act : GoodIn wsL_law wsL_act := good_cons gc_L_law_L_act_h (good_app (good_app (good_app (good_app (good_app (good_app (good_app (good_app gc_L_law_L_act_1 (good_app gc_L_law_L_act_2 (good_app gc_L_law_L_act_3 (good_app gc_L_law_L_act_4 (good_app gc_L_law_L_act_5 (good_app gc_L_law_L_act_6 (good_app gc_L_law_L_act_7 (good_app gc_L_law_L_act_8 (good_app gc_L_law_L_act_9 (good_app gc_L_law_L_act_10 (good_app gc_L_law_L_act_11 (good_app gc_L_law_L_act_12 (good_app gc_L_law_L_act_13 (good_app gc_L_law_L_act_14 (good_app gc_L_law_L_act_15 (good_app gc_L_law_L_act_16 (good_app gc_L_law_L_act_17 (good_app gc_L_law_L_act_18 (good_app gc_L_law_L_act_19 (good_app gc_L_law_L_act_20 (good_app gc_L_law_L_act_21 (good_app gc_L_law_L_act_22 (good_app gc_L_law_L_act_23 (good_app gc_L_law_L_act_24 (gc_L_law_L_act_25))))))))))))))))))))))))) gc_L_law_L_act_x6) gc_L_law_L_act_x2) gc_L_law_L_act_x4) gc_L_law_L_act_x0) gc_L_law_L_act_x3) gc_L_law_L_act_x1) gc_L_law_L_act_x5)
set_option maxRecDepth 20000 in
theorem gL_law_L_act : GoodIn wsL_law (va_wsS RL 29 yL_act wsL_act) := goodIn_app (goodIn_of _ (by decide +kernel)) ggL_law_L_act
set_option maxRecDepth 20000 in
theorem gc_L_law_L_sound_1 : GoodIn wsL_law wsL_sound_r1 := goodIn_r _ [394, 395, 396, 2, 397, 12, 337, 398, 388, 399, 400, 401, 402, 403, 404, 405, 406, 20, 407, 24, 408, 339, 169, 170] (by decide +kernel) (by decide +kernel)
set_option maxRecDepth 20000 in
theorem gc_L_law_L_sound_2 : GoodIn wsL_law wsL_sound_r2 := goodIn_r _ [11, 171, 44, 172, 173, 174, 175, 146, 147, 176, 177, 178, 179, 180, 181, 31, 182, 183, 184, 185, 186, 43, 187, 125] (by decide +kernel) (by decide +kernel)
set_option maxRecDepth 20000 in
theorem gc_L_law_L_sound_3 : GoodIn wsL_law wsL_sound_r3 := goodIn_r _ [164, 165, 348, 349, 350, 351, 352, 353, 354, 92, 93, 84, 94, 95, 615, 616, 617, 355, 356, 357, 358, 359, 360, 361] (by decide +kernel) (by decide +kernel)
set_option maxRecDepth 20000 in
theorem gc_L_law_L_sound_4 : GoodIn wsL_law wsL_sound_r4 := goodIn_r _ [362, 363, 364, 365, 366, 367, 368, 369, 370, 371, 56, 372, 373, 374, 375, 376, 377, 618, 619, 620, 332, 333, 334, 335] (by decide +kernel) (by decide +kernel)
set_option maxRecDepth 20000 in
theorem gc_L_law_L_sound_5 : GoodIn wsL_law wsL_sound_r5 := goodIn_r _ [336, 338, 340, 341, 342, 343, 166, 167, 344, 345, 346, 347, 52, 661, 662, 663, 422, 423, 424, 425, 426, 427, 428, 429] (by decide +kernel) (by decide +kernel)
set_option maxRecDepth 20000 in
theorem gc_L_law_L_sound_6 : GoodIn wsL_law wsL_sound_r6 := goodIn_r _ [430, 168, 442, 443, 444, 445, 446, 447, 448, 449, 450, 431, 432, 433, 434, 435, 436, 437, 438, 439, 440, 441, 409, 410] (by decide +kernel) (by decide +kernel)
set_option maxRecDepth 20000 in
theorem gc_L_law_L_sound_7 : GoodIn wsL_law wsL_sound_r7 := goodIn_r _ [411, 412, 413, 384, 385, 386, 387, 389, 390, 391, 392, 393, 294, 295, 47, 296, 131, 378, 379, 380, 381, 382, 216, 217] (by decide +kernel) (by decide +kernel)
set_option maxRecDepth 20000 in
theorem gc_L_law_L_sound_8 : GoodIn wsL_law wsL_sound_r8 := goodIn_r _ [383, 213, 214, 215, 32, 630, 631, 632] (by decide +kernel) (by decide +kernel)
set_option maxRecDepth 20000 in
theorem gc_L_law_L_sound_h : GoodIn wsL_law [.code yL_sound cL_sound 16 (some .boolean)] := goodIn_r _ [660] (by decide +kernel) (by decide +kernel)
set_option maxRecDepth 20000 in
theorem gc_L_law_L_sound_x6 : GoodIn wsL_law wsX60 := goodIn_r _ [667, 668, 669, 670, 671] (by decide +kernel) (by decide +kernel)
set_option maxRecDepth 20000 in
theorem gc_L_law_L_sound_x2 : GoodIn wsL_law wsX20 := goodIn_r _ [672, 673, 674, 675, 676, 677, 678, 679, 680, 681] (by decide +kernel) (by decide +kernel)
set_option maxRecDepth 20000 in
theorem gc_L_law_L_sound_x4 : GoodIn wsL_law wsX40 := goodIn_r _ [692, 693, 694, 695, 696, 697, 698, 699] (by decide +kernel) (by decide +kernel)
set_option maxRecDepth 20000 in
theorem gc_L_law_L_sound_x0 : GoodIn wsL_law wsX00 := goodIn_r _ [700, 701, 702, 703, 704, 705, 706] (by decide +kernel) (by decide +kernel)
set_option maxRecDepth 20000 in
theorem gc_L_law_L_sound_x3 : GoodIn wsL_law wsX30 := goodIn_r _ [684, 685, 686, 687, 688, 689] (by decide +kernel) (by decide +kernel)
set_option maxRecDepth 20000 in
theorem gc_L_law_L_sound_x1 : GoodIn wsL_law wsX10 := goodIn_r _ [690, 691] (by decide +kernel) (by decide +kernel)
theorem ggL_law_L_sound : GoodIn wsL_law wsL_sound := good_cons gc_L_law_L_sound_h (good_app (good_app (good_app (good_app (good_app (good_app (good_app gc_L_law_L_sound_1 (good_app gc_L_law_L_sound_2 (good_app gc_L_law_L_sound_3 (good_app gc_L_law_L_sound_4 (good_app gc_L_law_L_sound_5 (good_app gc_L_law_L_sound_6 (good_app gc_L_law_L_sound_7 (gc_L_law_L_sound_8)))))))) gc_L_law_L_sound_x6) gc_L_law_L_sound_x2) gc_L_law_L_sound_x4) gc_L_law_L_sound_x0) gc_L_law_L_sound_x3) gc_L_law_L_sound_x1)
set_option maxRecDepth 20000 in
theorem gL_law_L_sound : GoodIn wsL_law (va_wsS RL 33 yL_sound wsL_sound) := goodIn_app (goodIn_of _ (by decide +kernel)) ggL_law_L_sound
set_option maxRecDepth 20000 in
theorem gc_L_law_L_back_1 : GoodIn wsL_law wsL_back_r1 := goodIn_r _ [647, 648, 84, 649, 650, 651, 332, 333, 334, 2, 335, 12, 336, 337, 338, 164, 165, 339, 169, 170, 11, 171, 44, 172] (by decide +kernel) (by decide +kernel)
set_option maxRecDepth 20000 in
theorem gc_L_law_L_back_2 : GoodIn wsL_law wsL_back_r2 := goodIn_r _ [173, 174, 175, 146, 147, 176, 177, 178, 179, 180, 181, 31, 182, 183, 184, 185, 186, 43, 187, 125, 340, 341, 342, 343] (by decide +kernel) (by decide +kernel)
set_option maxRecDepth 20000 in
theorem gc_L_law_L_back_3 : GoodIn wsL_law wsL_back_r3 := goodIn_r _ [166, 167, 344, 345, 346, 347, 52, 348, 349, 350, 351, 352, 353, 354, 394, 395, 396, 397, 398, 388, 399, 400, 401, 402] (by decide +kernel) (by decide +kernel)
set_option maxRecDepth 20000 in
theorem gc_L_law_L_back_4 : GoodIn wsL_law wsL_back_r4 := goodIn_r _ [403, 404, 405, 406, 20, 407, 24, 408, 355, 356, 357, 358, 359, 360, 361, 362, 363, 364, 365, 366, 367, 368, 369, 370] (by decide +kernel) (by decide +kernel)
set_option maxRecDepth 20000 in
theorem gc_L_law_L_back_5 : GoodIn wsL_law wsL_back_r5 := goodIn_r _ [371, 56, 372, 373, 374, 375, 376, 377, 378, 379, 380, 381, 382, 216, 217, 383, 213, 214, 215, 32, 384, 385, 386, 387] (by decide +kernel) (by decide +kernel)
set_option maxRecDepth 20000 in
theorem gc_L_law_L_back_6 : GoodIn wsL_law wsL_back_r6 := goodIn_r _ [389, 390, 391, 392, 393, 294, 295, 47, 296, 131, 409, 410, 411, 412, 413, 92, 93, 94, 95, 589, 590, 591, 592, 25] (by decide +kernel) (by decide +kernel)
set_option maxRecDepth 20000 in
theorem gc_L_law_L_back_7 : GoodIn wsL_law wsL_back_r7 := goodIn_r _ [9, 10, 593, 594, 595, 26, 27, 28, 29, 7, 8, 30, 33, 34, 35, 36, 37, 38, 39, 40, 41, 42, 45, 46] (by decide +kernel) (by decide +kernel)
set_option maxRecDepth 20000 in
theorem gc_L_law_L_back_8 : GoodIn wsL_law wsL_back_r8 := goodIn_r _ [48, 49, 50, 51, 53, 54, 55, 57, 58, 59, 60, 61, 62, 63, 64, 65, 66, 67, 596, 107, 108, 109, 110, 111] (by decide +kernel) (by decide +kernel)
set_option maxRecDepth 20000 in
theorem gc_L_law_L_back_9 : GoodIn wsL_law wsL_back_r9 := goodIn_r _ [112, 113, 114, 115, 116, 117, 118, 119, 120, 121, 122, 123, 124, 126, 127, 128, 129, 130, 132, 133, 156, 157, 158, 159] (by decide +kernel) (by decide +kernel)
set_option maxRecDepth 20000 in
theorem gc_L_law_L_back_10 : GoodIn wsL_law wsL_back_r10 := goodIn_r _ [100, 101, 102, 23, 103, 81, 104, 80, 105, 106, 160, 161, 162, 163, 168, 188, 189, 190, 191, 192, 193, 194, 195, 196] (by decide +kernel) (by decide +kernel)
set_option maxRecDepth 20000 in
theorem gc_L_law_L_back_11 : GoodIn wsL_law wsL_back_r11 := goodIn_r _ [197, 198, 199, 200, 142, 143, 144, 145, 201, 202, 203, 204, 205, 206, 207, 208, 209, 210, 211, 212, 148, 149, 150, 151] (by decide +kernel) (by decide +kernel)
set_option maxRecDepth 20000 in
theorem gc_L_law_L_back_12 : GoodIn wsL_law wsL_back_r12 := goodIn_r _ [152, 153, 154, 155, 652, 653, 654, 655, 656, 657, 245, 246, 247, 248, 249, 250, 251, 252, 226, 227, 228, 229, 230, 231] (by decide +kernel) (by decide +kernel)
set_option maxRecDepth 20000 in
theorem gc_L_law_L_back_13 : GoodIn wsL_law wsL_back_r13 := goodIn_r _ [232, 233, 234, 235, 236, 253, 254, 255, 256, 257, 258, 259, 260, 273, 274, 275, 276, 16, 277, 278, 279, 280, 281, 282] (by decide +kernel) (by decide +kernel)
set_option maxRecDepth 20000 in
theorem gc_L_law_L_back_14 : GoodIn wsL_law wsL_back_r14 := goodIn_r _ [283, 284, 285, 286, 287, 288, 289, 290, 291, 292, 293, 297, 298, 299, 300, 301, 302, 303, 304, 305, 306, 307, 308, 309] (by decide +kernel) (by decide +kernel)
set_option maxRecDepth 20000 in
theorem gc_L_law_L_back_15 : GoodIn wsL_law wsL_back_r15 := goodIn_r _ [310, 311, 15, 312, 313, 314, 315, 316, 317, 318, 319, 320, 321, 322, 323, 324, 325, 326, 327, 328, 329, 330, 138, 139] (by decide +kernel) (by decide +kernel)
set_option maxRecDepth 20000 in
theorem gc_L_law_L_back_16 : GoodIn wsL_law wsL_back_r16 := goodIn_r _ [140, 141, 331, 601, 602, 603, 604, 605, 606, 607, 608, 597, 598, 599, 600] (by decide +kernel) (by decide +kernel)
set_option maxRecDepth 20000 in
theorem gc_L_law_L_back_h : GoodIn wsL_law [.code yL_back cL_back 7 (some .boolean)] := goodIn_r _ [666] (by decide +kernel) (by decide +kernel)
set_option maxRecDepth 20000 in
theorem gc_L_law_L_back_x6 : GoodIn wsL_law wsX60 := goodIn_r _ [667, 668, 669, 670, 671] (by decide +kernel) (by decide +kernel)
set_option maxRecDepth 20000 in
theorem gc_L_law_L_back_x2 : GoodIn wsL_law wsX20 := goodIn_r _ [672, 673, 674, 675, 676, 677, 678, 679, 680, 681] (by decide +kernel) (by decide +kernel)
set_option maxRecDepth 20000 in
theorem gc_L_law_L_back_x4 : GoodIn wsL_law wsX40 := goodIn_r _ [692, 693, 694, 695, 696, 697, 698, 699] (by decide +kernel) (by decide +kernel)
set_option maxRecDepth 20000 in
theorem gc_L_law_L_back_x0 : GoodIn wsL_law wsX00 := goodIn_r _ [700, 701, 702, 703, 704, 705, 706] (by decide +kernel) (by decide +kernel)
set_option maxRecDepth 20000 in
theorem gc_L_law_L_back_x3 : GoodIn wsL_law wsX30 := goodIn_r _ [684, 685, 686, 687, 688, 689] (by decide +kernel) (by decide +kernel)
set_option maxRecDepth 20000 in
theorem gc_L_law_L_back_x1 : GoodIn wsL_law wsX10 := goodIn_r _ [690, 691] (by decide +kernel) (by decide +kernel)
set_option maxRecDepth 20000 in
theorem gc_L_law_L_back_x5 : GoodIn wsL_law wsX50 := goodIn_r _ [682, 683] (by decide +kernel) (by decide +kernel)
theorem ggL_law_L_back : GoodIn wsL_law wsL_back := good_cons gc_L_law_L_back_h (good_app (good_app (good_app (good_app (good_app (good_app (good_app (good_app gc_L_law_L_back_1 (good_app gc_L_law_L_back_2 (good_app gc_L_law_L_back_3 (good_app gc_L_law_L_back_4 (good_app gc_L_law_L_back_5 (good_app gc_L_law_L_back_6 (good_app gc_L_law_L_back_7 (good_app gc_L_law_L_back_8 (good_app gc_L_law_L_back_9 (good_app gc_L_law_L_back_10 (good_app gc_L_law_L_back_11 (good_app gc_L_law_L_back_12 (good_app gc_L_law_L_back_13 (good_app gc_L_law_L_back_14 (good_app gc_L_law_L_back_15 (gc_L_law_L_back_16)))))))))))))))) gc_L_law_L_back_x6) gc_L_law_L_back_x2) gc_L_law_L_back_x4) gc_L_law_L_back_x0) gc_L_law_L_back_x3) gc_L_law_L_back_x1) gc_L_law_L_back_x5)
set_option maxRecDepth 20000 in
theorem gL_law_L_back : GoodIn wsL_law (va_wsS RL 36 yL_back wsL_back) := goodIn_app (goodIn_of _ (by decide +kernel)) ggL_law_L_back
set_option maxRecDepth 20000 in
theorem ggL_print_X6_ofPage : GoodIn wsL_print wsX6_ofPage := goodIn_r _ [7, 8, 9, 10, 11, 12, 6, 13, 14, 15, 16, 17, 18, 19, 20, 21, 22, 23, 24, 25, 26, 27, 28, 29, 30, 31, 32, 33, 34, 35, 36, 37, 38, 39, 40, 41, 42, 43, 44, 45, 46, 47, 48, 49, 50, 51, 52, 53, 54, 55, 56, 57, 58, 132, 133, 134, 135, 136, 137, 138, 139, 140, 141, 142, 143, 144, 145, 146, 147, 148, 149, 150, 151, 152, 153, 154] (by decide +kernel) (by decide +kernel)
set_option maxRecDepth 20000 in
theorem gL_print_X6_ofPage : GoodIn wsL_print (wsV RL 43 RX6 yX6_ofPage wsX6_ofPage) := goodIn_app (goodIn_of _ (by decide +kernel)) ggL_print_X6_ofPage
set_option maxRecDepth 20000 in
theorem ggL_print_X6_count : GoodIn wsL_print wsX6_count := goodIn_r _ [62, 8, 10, 63, 64, 65, 66, 67, 68, 69, 70, 71, 72, 73, 74, 75, 76, 14, 15, 16, 17, 18, 19, 20, 21, 22, 23, 24, 6, 25, 26, 27, 28, 29, 30, 31, 32, 33, 34, 35, 36, 37, 38, 39, 40, 12, 13, 52, 53, 54, 55, 56, 57, 58, 132, 133, 134, 135, 136, 137, 138, 139, 140, 141, 142, 143, 144, 145, 146, 147, 148, 149, 150, 151, 152, 153, 154, 155, 156, 157, 158, 159, 160, 161, 162, 163, 164, 165, 166, 167, 168, 169] (by decide +kernel) (by decide +kernel)
set_option maxRecDepth 20000 in
theorem gL_print_X6_count : GoodIn wsL_print (wsV RL 46 RX6 yX6_count wsX6_count) := goodIn_app (goodIn_of _ (by decide +kernel)) ggL_print_X6_count
set_option maxRecDepth 20000 in
theorem ggL_print_X6_ofStamp : GoodIn wsL_print wsX6_ofStamp := goodIn_r _ [80, 8, 10, 81, 82, 83, 84, 85, 86, 87, 88, 36, 37, 38, 39, 40, 89, 24, 6, 25, 14, 15, 16, 17, 18, 19, 20, 21, 22, 23, 26, 27, 28, 29, 30, 31, 32, 33, 34, 35, 12, 13, 90, 91, 92, 93, 94, 95, 96, 97, 98, 99, 100, 53, 54, 55, 56, 57, 58, 132, 133, 134, 135, 136, 137, 138, 139, 140, 141, 142, 143, 144, 145, 146, 147, 148, 149, 150, 151, 152, 153, 154] (by decide +kernel) (by decide +kernel)
set_option maxRecDepth 20000 in
theorem gL_print_X6_ofStamp : GoodIn wsL_print (wsV RL 50 RX6 yX6_ofStamp wsX6_ofStamp) := goodIn_app (goodIn_of _ (by decide +kernel)) ggL_print_X6_ofStamp
set_option maxRecDepth 20000 in
theorem ggL_print_X6_leads : GoodIn wsL_print wsX6_leads := goodIn_r _ [104, 8, 105, 106, 6, 107, 108, 109, 110, 17, 111, 112, 132, 133, 134, 135, 136, 137, 138, 139, 140, 141, 142, 143, 144, 145, 146] (by decide +kernel) (by decide +kernel)
set_option maxRecDepth 20000 in
theorem gL_print_X6_leads : GoodIn wsL_print (wsV RL 53 RX6 yX6_leads wsX6_leads) := goodIn_app (goodIn_of _ (by decide +kernel)) ggL_print_X6_leads
set_option maxRecDepth 20000 in
theorem ggL_print_X6_note : GoodIn wsL_print wsX6_note := goodIn_r _ [116, 8, 64, 117, 118, 119, 120, 121, 122, 123, 124, 125, 126, 132, 133, 134, 135, 136, 137, 138, 139, 140, 141, 142, 143, 144, 145, 146, 155, 156, 157, 158, 159, 160, 161] (by decide +kernel) (by decide +kernel)
set_option maxRecDepth 20000 in
theorem gL_print_X6_note : GoodIn wsL_print (wsV RL 56 RX6 yX6_note wsX6_note) := goodIn_app (goodIn_of _ (by decide +kernel)) ggL_print_X6_note
set_option maxRecDepth 20000 in
theorem ggL_print_X6_ended : GoodIn wsL_print wsX6_ended := goodIn_r _ [130, 8, 131, 132, 133, 134, 135, 136, 137, 138, 139, 140, 141, 142, 143, 144, 145, 146] (by decide +kernel) (by decide +kernel)
set_option maxRecDepth 20000 in
theorem gL_print_X6_ended : GoodIn wsL_print (wsV RL 59 RX6 yX6_ended wsX6_ended) := goodIn_app (goodIn_of _ (by decide +kernel)) ggL_print_X6_ended
set_option maxRecDepth 20000 in
theorem ggL_based_X6_ofStamp : GoodIn wsL_based wsX6_ofStamp := goodIn_r _ [5, 6, 7, 8, 9, 10, 11, 12, 13, 14, 15, 16, 17, 18, 19, 20, 21, 22, 4, 23, 24, 25, 26, 27, 28, 29, 30, 31, 32, 33, 34, 35, 36, 37, 38, 39, 40, 41, 42, 43, 44, 45, 46, 47, 48, 49, 50, 51, 52, 53, 54, 55, 56, 57, 58, 59, 60, 61, 62, 81, 82, 83, 84, 85, 86, 87, 88, 89, 90, 91, 92, 93, 94, 95, 96, 97, 98, 99, 100, 101, 102, 103] (by decide +kernel) (by decide +kernel)
set_option maxRecDepth 20000 in
theorem gL_based_X6_ofStamp : GoodIn wsL_based (wsV RL 50 RX6 yX6_ofStamp wsX6_ofStamp) := goodIn_app (goodIn_of _ (by decide +kernel)) ggL_based_X6_ofStamp
set_option maxRecDepth 20000 in
theorem ggL_based_X6_ofPage : GoodIn wsL_based wsX6_ofPage := goodIn_r _ [66, 6, 67, 7, 68, 44, 4, 45, 24, 25, 26, 27, 28, 29, 30, 31, 32, 33, 22, 23, 34, 35, 36, 37, 38, 39, 40, 41, 42, 43, 16, 17, 18, 19, 20, 69, 70, 71, 72, 73, 74, 75, 76, 77, 78, 79, 80, 57, 58, 59, 60, 61, 62, 81, 82, 83, 84, 85, 86, 87, 88, 89, 90, 91, 92, 93, 94, 95, 96, 97, 98, 99, 100, 101, 102, 103] (by decide +kernel) (by decide +kernel)
set_option maxRecDepth 20000 in
theorem gL_based_X6_ofPage : GoodIn wsL_based (wsV RL 43 RX6 yX6_ofPage wsX6_ofPage) := goodIn_app (goodIn_of _ (by decide +kernel)) ggL_based_X6_ofPage
set_option maxRecDepth 20000 in
theorem ggL_good_X6_ofStamp : GoodIn wsL_good wsX6_ofStamp := goodIn_r _ [5, 6, 7, 8, 9, 10, 11, 12, 13, 14, 15, 16, 17, 18, 19, 20, 21, 22, 4, 23, 24, 25, 26, 27, 28, 29, 30, 31, 32, 33, 34, 35, 36, 37, 38, 39, 40, 41, 42, 43, 44, 45, 46, 47, 48, 49, 50, 51, 52, 53, 54, 55, 56, 57, 58, 59, 60, 61, 62, 85, 86, 87, 88, 89, 90, 91, 92, 93, 94, 95, 96, 97, 98, 99, 100, 101, 102, 103, 104, 105, 106, 107] (by decide +kernel) (by decide +kernel)
set_option maxRecDepth 20000 in
theorem gL_good_X6_ofStamp : GoodIn wsL_good (wsV RL 50 RX6 yX6_ofStamp wsX6_ofStamp) := goodIn_app (goodIn_of _ (by decide +kernel)) ggL_good_X6_ofStamp
set_option maxRecDepth 20000 in
theorem ggL_good_L_based : GoodIn wsL_good wsL_based := goodIn_r _ [66, 1, 2, 3, 4, 5, 6, 7, 8, 9, 10, 11, 12, 13, 14, 15, 16, 17, 18, 19, 20, 21, 22, 23, 24, 25, 26, 27, 28, 29, 30, 31, 32, 33, 34, 35, 36, 37, 38, 39, 40, 41, 42, 43, 44, 45, 46, 47, 48, 49, 50, 51, 52, 53, 54, 55, 56, 57, 58, 59, 60, 61, 62, 67, 68, 69, 70, 71, 72, 73, 74, 75, 76, 77, 78, 79, 80, 81, 82, 83, 84, 85, 86, 87, 88, 89, 90, 91, 92, 93, 94, 95, 96, 97, 98, 99, 100, 101, 102, 103, 104, 105, 106, 107] (by decide +kernel) (by decide +kernel)
set_option maxRecDepth 20000 in
theorem gL_good_L_based : GoodIn wsL_good (va_wsS RL 62 yL_based wsL_based) := goodIn_app (goodIn_of _ (by decide +kernel)) ggL_good_L_based
set_option maxRecDepth 20000 in
theorem ggL_walk_X6_leads : GoodIn wsL_walk wsX6_leads := goodIn_r _ [5, 6, 7, 8, 4, 9, 10, 11, 12, 13, 14, 15, 97, 98, 99, 100, 101, 102, 103, 104, 105, 106, 107, 108, 109, 110, 111] (by decide +kernel) (by decide +kernel)
set_option maxRecDepth 20000 in
theorem gL_walk_X6_leads : GoodIn wsL_walk (wsV RL 53 RX6 yX6_leads wsX6_leads) := goodIn_app (goodIn_of _ (by decide +kernel)) ggL_walk_X6_leads
set_option maxRecDepth 20000 in
theorem ggL_walk_X6_ofStamp : GoodIn wsL_walk wsX6_ofStamp := goodIn_r _ [19, 6, 20, 21, 22, 23, 24, 25, 26, 27, 28, 29, 30, 31, 32, 33, 34, 35, 4, 36, 37, 38, 39, 13, 40, 41, 42, 43, 44, 45, 46, 47, 48, 49, 50, 51, 52, 53, 54, 55, 56, 57, 58, 59, 60, 61, 62, 63, 64, 65, 66, 67, 68, 69, 70, 71, 72, 73, 74, 97, 98, 99, 100, 101, 102, 103, 104, 105, 106, 107, 108, 109, 110, 111, 112, 113, 114, 115, 116, 117, 118, 119] (by decide +kernel) (by decide +kernel)
set_option maxRecDepth 20000 in
theorem gL_walk_X6_ofStamp : GoodIn wsL_walk (wsV RL 50 RX6 yX6_ofStamp wsX6_ofStamp) := goodIn_app (goodIn_of _ (by decide +kernel)) ggL_walk_X6_ofStamp
set_option maxRecDepth 20000 in
theorem ggL_walk_L_based : GoodIn wsL_walk wsL_based := goodIn_r _ [78, 16, 17, 18, 4, 19, 6, 20, 21, 22, 23, 24, 25, 26, 27, 28, 29, 30, 31, 32, 33, 34, 35, 36, 37, 38, 39, 13, 40, 41, 42, 43, 44, 45, 46, 47, 48, 49, 50, 51, 52, 53, 54, 55, 56, 57, 58, 59, 60, 61, 62, 63, 64, 65, 66, 67, 68, 69, 70, 71, 72, 73, 74, 79, 80, 81, 82, 83, 84, 85, 86, 87, 88, 89, 90, 91, 92, 93, 94, 95, 96, 97, 98, 99, 100, 101, 102, 103, 104, 105, 106, 107, 108, 109, 110, 111, 112, 113, 114, 115, 116, 117, 118, 119] (by decide +kernel) (by decide +kernel)
set_option maxRecDepth 20000 in
theorem gL_walk_L_based : GoodIn wsL_walk (va_wsS RL 62 yL_based wsL_based) := goodIn_app (goodIn_of _ (by decide +kernel)) ggL_walk_L_based
set_option maxRecDepth 20000 in
theorem ggL_act_L_up : GoodIn wsL_act wsL_up := goodIn_r _ [4, 5] (by decide +kernel) (by decide +kernel)
set_option maxRecDepth 20000 in
theorem gL_act_L_up : GoodIn wsL_act (va_wsS RL 22 yL_up wsL_up) := goodIn_app (goodIn_of _ (by decide +kernel)) ggL_act_L_up
set_option maxRecDepth 20000 in
theorem ggL_act_X6_count : GoodIn wsL_act wsX6_count := goodIn_r _ [10, 11, 12, 13, 14, 15, 16, 17, 18, 19, 20, 21, 22, 23, 24, 25, 26, 27, 28, 29, 30, 31, 32, 33, 34, 35, 36, 37, 9, 38, 39, 40, 41, 42, 43, 44, 45, 46, 47, 48, 49, 50, 51, 52, 53, 54, 55, 56, 57, 58, 59, 60, 61, 62, 581, 582, 583, 584, 585, 586, 587, 588, 589, 590, 591, 592, 593, 594, 595, 596, 597, 598, 599, 600, 601, 602, 603, 604, 605, 606, 607, 608, 609, 610, 611, 612, 613, 614, 615, 616, 617, 618] (by decide +kernel) (by decide +kernel)
set_option maxRecDepth 20000 in
theorem gL_act_X6_count : GoodIn wsL_act (wsV RL 46 RX6 yX6_count wsX6_count) := goodIn_app (goodIn_of _ (by decide +kernel)) ggL_act_X6_count
set_option maxRecDepth 20000 in
theorem ggL_act_X6_ofPage : GoodIn wsL_act wsX6_ofPage := goodIn_r _ [66, 11, 67, 12, 68, 54, 9, 55, 27, 28, 29, 30, 31, 32, 33, 34, 35, 36, 37, 38, 39, 40, 41, 42, 43, 44, 45, 46, 47, 48, 49, 50, 51, 52, 53, 69, 70, 71, 72, 73, 74, 75, 76, 77, 78, 79, 56, 57, 58, 59, 60, 61, 62, 581, 582, 583, 584, 585, 586, 587, 588, 589, 590, 591, 592, 593, 594, 595, 596, 597, 598, 599, 600, 601, 602, 603] (by decide +kernel) (by decide +kernel)
set_option maxRecDepth 20000 in
theorem gL_act_X6_ofPage : GoodIn wsL_act (wsV RL 43 RX6 yX6_ofPage wsX6_ofPage) := goodIn_app (goodIn_of _ (by decide +kernel)) ggL_act_X6_ofPage
set_option maxRecDepth 20000 in
theorem gc_L_act_L_changed_1 : GoodIn wsL_act wsL_changed_r1 := goodIn_r _ [83, 6, 7, 8, 9, 10, 11, 12, 13, 14, 15, 16, 17, 18, 19, 20, 21, 22, 23, 24, 25, 26, 27, 28] (by decide +kernel) (by decide +kernel)
set_option maxRecDepth 20000 in
theorem gc_L_act_L_changed_2 : GoodIn wsL_act wsL_changed_r2 := goodIn_r _ [29, 30, 31, 32, 33, 34, 35, 36, 37, 38, 39, 40, 41, 42, 43, 44, 45, 46, 47, 48, 49, 50, 51, 52] (by decide +kernel) (by decide +kernel)
set_option maxRecDepth 20000 in
theorem gc_L_act_L_changed_3 : GoodIn wsL_act wsL_changed_r3 := goodIn_r _ [53, 54, 55, 56, 57, 58, 59, 60, 61, 62, 84, 85, 86, 87, 88, 89, 90, 91, 92, 93, 94, 95, 96, 97] (by decide +kernel) (by decide +kernel)
set_option maxRecDepth 20000 in
theorem gc_L_act_L_changed_4 : GoodIn wsL_act wsL_changed_r4 := goodIn_r _ [98, 99, 100, 101, 102, 103, 104, 105, 106, 107, 108, 109, 110, 111, 3, 112, 113, 114, 115, 116, 117, 118, 119, 120] (by decide +kernel) (by decide +kernel)
set_option maxRecDepth 20000 in
theorem gc_L_act_L_changed_5 : GoodIn wsL_act wsL_changed_r5 := goodIn_r _ [121, 122, 123, 124, 125, 126, 127, 128, 129, 130, 131, 132, 133, 134, 135, 136, 137, 138, 139, 63, 64, 65, 66, 67] (by decide +kernel) (by decide +kernel)
set_option maxRecDepth 20000 in
theorem gc_L_act_L_changed_6 : GoodIn wsL_act wsL_changed_r6 := goodIn_r _ [68, 69, 70, 71, 72, 73, 74, 75, 76, 77, 78, 79, 140, 141, 142, 143, 144, 145, 146, 147, 148, 149, 150, 151] (by decide +kernel) (by decide +kernel)
set_option maxRecDepth 20000 in
theorem gc_L_act_L_changed_7 : GoodIn wsL_act wsL_changed_r7 := goodIn_r _ [152, 153, 154, 155, 156, 157, 158, 159, 160, 161, 162, 163, 164, 165, 166, 167, 168, 169, 170, 171, 172, 173, 174, 175] (by decide +kernel) (by decide +kernel)
set_option maxRecDepth 20000 in
theorem gc_L_act_L_changed_8 : GoodIn wsL_act wsL_changed_r8 := goodIn_r _ [176, 177, 178, 179, 180, 181, 182, 183, 184, 185, 186, 187, 188, 189, 190, 191, 192, 193, 194, 195, 196, 197, 198, 199] (by decide +kernel) (by decide +kernel)
set_option maxRecDepth 20000 in
theorem gc_L_act_L_changed_9 : GoodIn wsL_act wsL_changed_r9 := goodIn_r _ [200, 201, 202, 203, 204, 205, 206, 207, 208, 209, 210, 211, 212, 213, 214, 215, 216, 217, 218, 219, 220, 221, 222, 223] (by decide +kernel) (by decide +kernel)
set_option maxRecDepth 20000 in
theorem gc_L_act_L_changed_10 : GoodIn wsL_act wsL_changed_r10 := goodIn_r _ [224, 225, 226, 227, 228, 229, 230, 231, 232, 233, 234, 235, 236, 237, 238, 239, 240, 241, 242, 243, 244, 245, 246, 247] (by decide +kernel) (by decide +kernel)
set_option maxRecDepth 20000 in
theorem gc_L_act_L_changed_11 : GoodIn wsL_act wsL_changed_r11 := goodIn_r _ [248, 249, 250, 251, 252, 253, 254, 255, 256, 257, 258, 259, 260, 261, 262, 263, 264] (by decide +kernel) (by decide +kernel)
set_option maxRecDepth 20000 in
theorem gc_L_act_L_changed_h : GoodIn wsL_act [.code yL_changed cL_changed 15 (some .boolean)] := goodIn_r _ [82] (by decide +kernel) (by decide +kernel)
set_option maxRecDepth 20000 in
theorem gc_L_act_L_changed_x6 : GoodIn wsL_act wsX60 := goodIn_r _ [581, 582, 583, 584, 585] (by decide +kernel) (by decide +kernel)
set_option maxRecDepth 20000 in
theorem gc_L_act_L_changed_x2 : GoodIn wsL_act wsX20 := goodIn_r _ [586, 587, 588, 589, 590, 591, 592, 593, 594, 595] (by decide +kernel) (by decide +kernel)
set_option maxRecDepth 20000 in
theorem gc_L_act_L_changed_x4 : GoodIn wsL_act wsX40 := goodIn_r _ [596, 597, 598, 599, 600, 601, 602, 603] (by decide +kernel) (by decide +kernel)
set_option maxRecDepth 20000 in
theorem gc_L_act_L_changed_x0 : GoodIn wsL_act wsX00 := goodIn_r _ [604, 605, 606, 607, 608, 609, 610] (by decide +kernel) (by decide +kernel)
set_option maxRecDepth 20000 in
theorem gc_L_act_L_changed_x3 : GoodIn wsL_act wsX30 := goodIn_r _ [611, 612, 613, 614, 615, 616] (by decide +kernel) (by decide +kernel)
set_option maxRecDepth 20000 in
theorem gc_L_act_L_changed_x1 : GoodIn wsL_act wsX10 := goodIn_r _ [617, 618] (by decide +kernel) (by decide +kernel)
theorem ggL_act_L_changed : GoodIn wsL_act wsL_changed := good_cons gc_L_act_L_changed_h (good_app (good_app (good_app (good_app (good_app (good_app (good_app gc_L_act_L_changed_1 (good_app gc_L_act_L_changed_2 (good_app gc_L_act_L_changed_3 (good_app gc_L_act_L_changed_4 (good_app gc_L_act_L_changed_5 (good_app gc_L_act_L_changed_6 (good_app gc_L_act_L_changed_7 (good_app gc_L_act_L_changed_8 (good_app gc_L_act_L_changed_9 (good_app gc_L_act_L_changed_10 (gc_L_act_L_changed_11))))))))))) gc_L_act_L_changed_x6) gc_L_act_L_changed_x2) gc_L_act_L_changed_x4) gc_L_act_L_changed_x0) gc_L_act_L_changed_x3) gc_L_act_L_changed_x1)
set_option maxRecDepth 20000 in
theorem gL_act_L_changed : GoodIn wsL_act (va_wsS RL 65 yL_changed wsL_changed) := goodIn_app (goodIn_of _ (by decide +kernel)) ggL_act_L_changed
set_option maxRecDepth 20000 in
theorem gc_L_act_X6_takeBack_1 : GoodIn wsL_act wsX6_takeBack_r1 := goodIn_r _ [25, 11, 144, 145, 146, 147, 148, 149, 150, 151, 152, 30, 153, 154, 155, 156, 157, 158, 83, 45, 109, 159, 160, 161] (by decide +kernel) (by decide +kernel)
set_option maxRecDepth 20000 in
theorem gc_L_act_X6_takeBack_2 : GoodIn wsL_act wsX6_takeBack_r2 := goodIn_r _ [162, 163, 164, 165, 166, 167, 168, 51, 32, 169, 170, 95, 171, 172, 173, 174, 79, 175, 176, 177, 130, 178, 179, 180] (by decide +kernel) (by decide +kernel)
set_option maxRecDepth 20000 in
theorem gc_L_act_X6_takeBack_3 : GoodIn wsL_act wsX6_takeBack_r3 := goodIn_r _ [181, 182, 183, 184, 185, 186, 187, 188, 189, 190, 191, 192, 193, 194, 195, 196, 197, 198, 199, 200, 201, 202, 203, 204] (by decide +kernel) (by decide +kernel)
set_option maxRecDepth 20000 in
theorem gc_L_act_X6_takeBack_4 : GoodIn wsL_act wsX6_takeBack_r4 := goodIn_r _ [205, 206, 207, 53, 208, 209, 210, 211, 212, 97, 213, 214, 215, 216, 217, 218, 36, 43, 48, 49, 50, 52, 37, 9] (by decide +kernel) (by decide +kernel)
set_option maxRecDepth 20000 in
theorem gc_L_act_X6_takeBack_5 : GoodIn wsL_act wsX6_takeBack_r5 := goodIn_r _ [38, 219, 28, 29, 31, 33, 34, 35, 39, 40, 41, 42, 44, 46, 47, 54, 55, 220, 221, 222, 223, 224, 225, 226] (by decide +kernel) (by decide +kernel)
set_option maxRecDepth 20000 in
theorem gc_L_act_X6_takeBack_6 : GoodIn wsL_act wsX6_takeBack_r6 := goodIn_r _ [227, 228, 229, 230, 231, 232, 233, 234, 235, 236, 237, 238, 239, 240, 241, 242, 243, 244, 245, 246, 247, 248, 106, 107] (by decide +kernel) (by decide +kernel)
set_option maxRecDepth 20000 in
theorem gc_L_act_X6_takeBack_7 : GoodIn wsL_act wsX6_takeBack_r7 := goodIn_r _ [108, 103, 104, 249, 250, 251, 252, 253, 254, 255, 256] (by decide +kernel) (by decide +kernel)
set_option maxRecDepth 20000 in
theorem gc_L_act_X6_takeBack_h : GoodIn wsL_act [.code yX6_takeBack cX6_takeBack 2 (some .int)] := goodIn_r _ [143] (by decide +kernel) (by decide +kernel)
set_option maxRecDepth 20000 in
theorem gc_L_act_X6_takeBack_x6 : GoodIn wsL_act wsX60 := goodIn_r _ [581, 582, 583, 584, 585] (by decide +kernel) (by decide +kernel)
set_option maxRecDepth 20000 in
theorem gc_L_act_X6_takeBack_x1 : GoodIn wsL_act wsX10 := goodIn_r _ [617, 618] (by decide +kernel) (by decide +kernel)
set_option maxRecDepth 20000 in
theorem gc_L_act_X6_takeBack_x2 : GoodIn wsL_act wsX20 := goodIn_r _ [586, 587, 588, 589, 590, 591, 592, 593, 594, 595] (by decide +kernel) (by decide +kernel)
set_option maxRecDepth 20000 in
theorem gc_L_act_X6_takeBack_x4 : GoodIn wsL_act wsX40 := goodIn_r _ [596, 597, 598, 599, 600, 601, 602, 603] (by decide +kernel) (by decide +kernel)
set_option maxRecDepth 20000 in
theorem gc_L_act_X6_takeBack_x0 : GoodIn wsL_act wsX00 := goodIn_r _ [604, 605, 606, 607, 608, 609, 610] (by decide +kernel) (by decide +kernel)
theorem ggL_act_X6_takeBack : GoodIn wsL_act wsX6_takeBack := good_cons gc_L_act_X6_takeBack_h (good_app (good_app (good_app (good_app (good_app (good_app gc_L_act_X6_takeBack_1 (good_app gc_L_act_X6_takeBack_2 (good_app gc_L_act_X6_takeBack_3 (good_app gc_L_act_X6_takeBack_4 (good_app gc_L_act_X6_takeBack_5 (good_app gc_L_act_X6_takeBack_6 (gc_L_act_X6_takeBack_7))))))) gc_L_act_X6_takeBack_x6) gc_L_act_X6_takeBack_x1) gc_L_act_X6_takeBack_x2) gc_L_act_X6_takeBack_x4) gc_L_act_X6_takeBack_x0)
set_option maxRecDepth 20000 in
theorem gL_act_X6_takeBack : GoodIn wsL_act (wsV RL 69 RX6 yX6_takeBack wsX6_takeBack) := goodIn_app (goodIn_of _ (by decide +kernel)) ggL_act_X6_takeBack
set_option maxRecDepth 20000 in
theorem ggL_act_X6_ofStamp : GoodIn wsL_act wsX6_ofStamp := goodIn_r _ [116, 11, 12, 117, 118, 119, 120, 121, 122, 123, 124, 49, 50, 51, 52, 53, 125, 37, 9, 38, 27, 28, 29, 30, 31, 32, 33, 34, 35, 36, 39, 40, 41, 42, 43, 44, 45, 46, 47, 48, 54, 55, 126, 127, 128, 129, 130, 131, 132, 133, 134, 135, 136, 57, 58, 59, 60, 61, 62, 581, 582, 583, 584, 585, 586, 587, 588, 589, 590, 591, 592, 593, 594, 595, 596, 597, 598, 599, 600, 601, 602, 603] (by decide +kernel) (by decide +kernel)
set_option maxRecDepth 20000 in
theorem gL_act_X6_ofStamp : GoodIn wsL_act (wsV RL 50 RX6 yX6_ofStamp wsX6_ofStamp) := goodIn_app (goodIn_of _ (by decide +kernel)) ggL_act_X6_ofStamp
set_option maxRecDepth 20000 in
theorem gc_L_act_X6_stamp_1 : GoodIn wsL_act wsX6_stamp_r1 := goodIn_r _ [25, 11, 144, 145, 146, 147, 148, 149, 150, 151, 152, 30, 153, 154, 155, 156, 157, 158, 83, 45, 109, 159, 160, 161] (by decide +kernel) (by decide +kernel)
set_option maxRecDepth 20000 in
theorem gc_L_act_X6_stamp_2 : GoodIn wsL_act wsX6_stamp_r2 := goodIn_r _ [162, 163, 164, 165, 166, 167, 168, 51, 32, 169, 170, 95, 171, 172, 173, 174, 79, 175, 176, 177, 130, 178, 179, 180] (by decide +kernel) (by decide +kernel)
set_option maxRecDepth 20000 in
theorem gc_L_act_X6_stamp_3 : GoodIn wsL_act wsX6_stamp_r3 := goodIn_r _ [181, 182, 183, 184, 185, 186, 187, 188, 189, 190, 191, 192, 193, 194, 195, 196, 197, 198, 199, 200, 201, 202, 203, 204] (by decide +kernel) (by decide +kernel)
set_option maxRecDepth 20000 in
theorem gc_L_act_X6_stamp_4 : GoodIn wsL_act wsX6_stamp_r4 := goodIn_r _ [205, 206, 207, 53, 208, 209, 210, 211, 212, 97, 213, 214, 269, 270, 271, 272, 73, 9, 74, 54, 55, 273, 274, 275] (by decide +kernel) (by decide +kernel)
set_option maxRecDepth 20000 in
theorem gc_L_act_X6_stamp_5 : GoodIn wsL_act wsX6_stamp_r5 := goodIn_r _ [276, 277, 278, 279, 280, 281, 282, 283, 249, 250, 251, 252, 253, 254, 255, 256] (by decide +kernel) (by decide +kernel)
set_option maxRecDepth 20000 in
theorem gc_L_act_X6_stamp_h : GoodIn wsL_act [.code yX6_stamp cX6_stamp 5 (some .int)] := goodIn_r _ [268] (by decide +kernel) (by decide +kernel)
set_option maxRecDepth 20000 in
theorem gc_L_act_X6_stamp_x6 : GoodIn wsL_act wsX60 := goodIn_r _ [581, 582, 583, 584, 585] (by decide +kernel) (by decide +kernel)
set_option maxRecDepth 20000 in
theorem gc_L_act_X6_stamp_x1 : GoodIn wsL_act wsX10 := goodIn_r _ [617, 618] (by decide +kernel) (by decide +kernel)
set_option maxRecDepth 20000 in
theorem gc_L_act_X6_stamp_x2 : GoodIn wsL_act wsX20 := goodIn_r _ [586, 587, 588, 589, 590, 591, 592, 593, 594, 595] (by decide +kernel) (by decide +kernel)
set_option maxRecDepth 20000 in
theorem gc_L_act_X6_stamp_x4 : GoodIn wsL_act wsX40 := goodIn_r _ [596, 597, 598, 599, 600, 601, 602, 603] (by decide +kernel) (by decide +kernel)
set_option maxRecDepth 20000 in
theorem gc_L_act_X6_stamp_x0 : GoodIn wsL_act wsX00 := goodIn_r _ [604, 605, 606, 607, 608, 609, 610] (by decide +kernel) (by decide +kernel)
theorem ggL_act_X6_stamp : GoodIn wsL_act wsX6_stamp := good_cons gc_L_act_X6_stamp_h (good_app (good_app (good_app (good_app (good_app (good_app gc_L_act_X6_stamp_1 (good_app gc_L_act_X6_stamp_2 (good_app gc_L_act_X6_stamp_3 (good_app gc_L_act_X6_stamp_4 (gc_L_act_X6_stamp_5))))) gc_L_act_X6_stamp_x6) gc_L_act_X6_stamp_x1) gc_L_act_X6_stamp_x2) gc_L_act_X6_stamp_x4) gc_L_act_X6_stamp_x0)
set_option maxRecDepth 20000 in
theorem gL_act_X6_stamp : GoodIn wsL_act (wsV RL 72 RX6 yX6_stamp wsX6_stamp) := goodIn_app (goodIn_of _ (by decide +kernel)) ggL_act_X6_stamp
set_option maxRecDepth 20000 in
theorem gc_L_act_L_made_1 : GoodIn wsL_act wsL_made_r1 := goodIn_r _ [6, 7, 8, 9, 10, 11, 12, 13, 14, 15, 16, 17, 18, 19, 20, 21, 22, 23, 24, 25, 26, 27, 28, 29] (by decide +kernel) (by decide +kernel)
set_option maxRecDepth 20000 in
theorem gc_L_act_L_made_2 : GoodIn wsL_act wsL_made_r2 := goodIn_r _ [30, 31, 32, 33, 34, 35, 36, 37, 38, 39, 40, 41, 42, 43, 44, 45, 46, 47, 48, 49, 50, 51, 52, 53] (by decide +kernel) (by decide +kernel)
set_option maxRecDepth 20000 in
theorem gc_L_act_L_made_3 : GoodIn wsL_act wsL_made_r3 := goodIn_r _ [54, 55, 56, 57, 58, 59, 60, 61, 62, 113, 114, 115, 116, 117, 118, 119, 120, 121, 122, 123, 124, 125, 126, 127] (by decide +kernel) (by decide +kernel)
set_option maxRecDepth 20000 in
theorem gc_L_act_L_made_4 : GoodIn wsL_act wsL_made_r4 := goodIn_r _ [128, 129, 130, 131, 132, 133, 134, 135, 136] (by decide +kernel) (by decide +kernel)
set_option maxRecDepth 20000 in
theorem gc_L_act_L_made_h : GoodIn wsL_act [.code yL_made cL_made 8 (some .boolean)] := goodIn_r _ [286] (by decide +kernel) (by decide +kernel)
set_option maxRecDepth 20000 in
theorem gc_L_act_L_made_x6 : GoodIn wsL_act wsX60 := goodIn_r _ [581, 582, 583, 584, 585] (by decide +kernel) (by decide +kernel)
set_option maxRecDepth 20000 in
theorem gc_L_act_L_made_x2 : GoodIn wsL_act wsX20 := goodIn_r _ [586, 587, 588, 589, 590, 591, 592, 593, 594, 595] (by decide +kernel) (by decide +kernel)
set_option maxRecDepth 20000 in
theorem gc_L_act_L_made_x4 : GoodIn wsL_act wsX40 := goodIn_r _ [596, 597, 598, 599, 600, 601, 602, 603] (by decide +kernel) (by decide +kernel)
set_option maxRecDepth 20000 in
theorem gc_L_act_L_made_x0 : GoodIn wsL_act wsX00 := goodIn_r _ [604, 605, 606, 607, 608, 609, 610] (by decide +kernel) (by decide +kernel)
set_option maxRecDepth 20000 in
theorem gc_L_act_L_made_x3 : GoodIn wsL_act wsX30 := goodIn_r _ [611, 612, 613, 614, 615, 616] (by decide +kernel) (by decide +kernel)
set_option maxRecDepth 20000 in
theorem gc_L_act_L_made_x1 : GoodIn wsL_act wsX10 := goodIn_r _ [617, 618] (by decide +kernel) (by decide +kernel)
theorem ggL_act_L_made : GoodIn wsL_act wsL_made := good_cons gc_L_act_L_made_h (good_app (good_app (good_app (good_app (good_app (good_app (good_app gc_L_act_L_made_1 (good_app gc_L_act_L_made_2 (good_app gc_L_act_L_made_3 (gc_L_act_L_made_4)))) gc_L_act_L_made_x6) gc_L_act_L_made_x2) gc_L_act_L_made_x4) gc_L_act_L_made_x0) gc_L_act_L_made_x3) gc_L_act_L_made_x1)
set_option maxRecDepth 20000 in
theorem gL_act_L_made : GoodIn wsL_act (va_wsS RL 76 yL_made wsL_made) := goodIn_app (goodIn_of _ (by decide +kernel)) ggL_act_L_made
set_option maxRecDepth 20000 in
theorem gc_L_act_X6_pass_1 : GoodIn wsL_act wsX6_pass_r1 := goodIn_r _ [25, 11, 144, 145, 146, 147, 148, 149, 150, 151, 152, 30, 153, 154, 155, 156, 157, 158, 83, 45, 109, 159, 160, 161] (by decide +kernel) (by decide +kernel)
set_option maxRecDepth 20000 in
theorem gc_L_act_X6_pass_2 : GoodIn wsL_act wsX6_pass_r2 := goodIn_r _ [162, 163, 164, 165, 166, 167, 168, 51, 32, 169, 170, 95, 171, 172, 173, 174, 79, 175, 176, 177, 130, 178, 179, 180] (by decide +kernel) (by decide +kernel)
set_option maxRecDepth 20000 in
theorem gc_L_act_X6_pass_3 : GoodIn wsL_act wsX6_pass_r3 := goodIn_r _ [181, 182, 183, 184, 185, 186, 187, 188, 189, 190, 191, 192, 193, 194, 195, 196, 197, 198, 199, 200, 201, 202, 203, 204] (by decide +kernel) (by decide +kernel)
set_option maxRecDepth 20000 in
theorem gc_L_act_X6_pass_4 : GoodIn wsL_act wsX6_pass_r4 := goodIn_r _ [205, 206, 207, 53, 208, 209, 210, 211, 212, 97, 213, 214, 291, 292, 293, 294, 46, 47, 43, 48, 49, 50, 52, 73] (by decide +kernel) (by decide +kernel)
set_option maxRecDepth 20000 in
theorem gc_L_act_X6_pass_5 : GoodIn wsL_act wsX6_pass_r5 := goodIn_r _ [9, 74, 273, 274, 275, 276, 277, 278, 219, 28, 29, 31, 33, 34, 35, 36, 37, 38, 39, 40, 41, 42, 44, 54] (by decide +kernel) (by decide +kernel)
set_option maxRecDepth 20000 in
theorem gc_L_act_X6_pass_6 : GoodIn wsL_act wsX6_pass_r6 := goodIn_r _ [55, 279, 280, 281, 282, 283, 249, 250, 251, 252, 253, 254, 255, 256] (by decide +kernel) (by decide +kernel)
set_option maxRecDepth 20000 in
theorem gc_L_act_X6_pass_h : GoodIn wsL_act [.code yX6_pass cX6_pass 4 (some .int)] := goodIn_r _ [290] (by decide +kernel) (by decide +kernel)
set_option maxRecDepth 20000 in
theorem gc_L_act_X6_pass_x6 : GoodIn wsL_act wsX60 := goodIn_r _ [581, 582, 583, 584, 585] (by decide +kernel) (by decide +kernel)
set_option maxRecDepth 20000 in
theorem gc_L_act_X6_pass_x1 : GoodIn wsL_act wsX10 := goodIn_r _ [617, 618] (by decide +kernel) (by decide +kernel)
set_option maxRecDepth 20000 in
theorem gc_L_act_X6_pass_x2 : GoodIn wsL_act wsX20 := goodIn_r _ [586, 587, 588, 589, 590, 591, 592, 593, 594, 595] (by decide +kernel) (by decide +kernel)
set_option maxRecDepth 20000 in
theorem gc_L_act_X6_pass_x4 : GoodIn wsL_act wsX40 := goodIn_r _ [596, 597, 598, 599, 600, 601, 602, 603] (by decide +kernel) (by decide +kernel)
set_option maxRecDepth 20000 in
theorem gc_L_act_X6_pass_x0 : GoodIn wsL_act wsX00 := goodIn_r _ [604, 605, 606, 607, 608, 609, 610] (by decide +kernel) (by decide +kernel)
theorem ggL_act_X6_pass : GoodIn wsL_act wsX6_pass := good_cons gc_L_act_X6_pass_h (good_app (good_app (good_app (good_app (good_app (good_app gc_L_act_X6_pass_1 (good_app gc_L_act_X6_pass_2 (good_app gc_L_act_X6_pass_3 (good_app gc_L_act_X6_pass_4 (good_app gc_L_act_X6_pass_5 (gc_L_act_X6_pass_6)))))) gc_L_act_X6_pass_x6) gc_L_act_X6_pass_x1) gc_L_act_X6_pass_x2) gc_L_act_X6_pass_x4) gc_L_act_X6_pass_x0)
set_option maxRecDepth 20000 in
theorem gL_act_X6_pass : GoodIn wsL_act (wsV RL 80 RX6 yX6_pass wsX6_pass) := goodIn_app (goodIn_of _ (by decide +kernel)) ggL_act_X6_pass
set_option maxRecDepth 20000 in
theorem ggL_act_L_good : GoodIn wsL_act wsL_good := goodIn_r _ [112, 113, 114, 115, 9, 116, 11, 12, 117, 118, 119, 120, 121, 122, 123, 124, 49, 50, 51, 52, 53, 125, 37, 38, 27, 28, 29, 30, 31, 32, 33, 34, 35, 36, 39, 40, 41, 42, 43, 44, 45, 46, 47, 48, 54, 55, 126, 127, 128, 129, 130, 131, 132, 133, 134, 135, 136, 57, 58, 59, 60, 61, 62, 137, 138, 3, 139, 63, 64, 65, 66, 67, 68, 69, 70, 71, 72, 73, 74, 75, 76, 77, 78, 79, 56, 581, 582, 583, 584, 585, 586, 587, 588, 589, 590, 591, 592, 593, 594, 595, 596, 597, 598, 599, 600, 601, 602, 603] (by decide +kernel) (by decide +kernel)
