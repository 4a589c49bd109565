theorem good_app {T a b : List Cond} (h1 : GoodIn T a) (h2 : GoodIn T b) : GoodIn T (a ++ b) := fun w h => (List.mem_append.mp h).elim (h1 w) (h2 w)
theorem good_cons {T b : List Cond} {a : Cond} (h1 : GoodIn T [a]) (h2 : GoodIn T b) : GoodIn T (a :: b) := fun w h => (List.mem_cons.mp h).elim (fun e => h1 w (by rw [e]; exact List.mem_singleton_self a)) (h2 w)
set_option maxRecDepth 20000 in
theorem ggL_law_X6_init : GoodIn wsL_law wsX6_init := goodIn_r _ [5, 6, 7, 8, 9, 10, 11, 12, 13, 14, 15, 16, 17, 18, 19, 20, 21, 22, 23, 24, 25, 26, 27, 28, 29, 30, 31, 32, 33, 34, 35, 36, 37, 38, 39, 40, 41, 42, 43, 44, 45, 46, 47, 48, 49, 50, 51, 52, 53, 54, 55, 56, 57, 58, 59, 60, 61, 62, 63, 64, 65, 66, 67, 68, 69, 70, 71, 72, 73, 74, 75, 76, 77, 78, 79, 80, 81, 672, 673, 674, 675, 676, 677, 678, 679, 680, 681, 667, 668, 669, 670, 671, 682, 683, 684, 685, 686, 687, 688, 689, 690, 691, 692, 693, 694, 695, 696, 697, 698, 699, 700, 701, 702, 703, 704, 705, 706] (by decide +kernel) (by decide +kernel)
set_option maxRecDepth 20000 in
theorem gL_law_X6_init : GoodIn wsL_law (wsX6_init) := ggL_law_X6_init
set_option maxRecDepth 20000 in
theorem ggL_law_L_cell : GoodIn wsL_law wsL_cell := goodIn_r _ [85, 86] (by decide +kernel) (by decide +kernel)
set_option maxRecDepth 20000 in
theorem gL_law_L_cell : GoodIn wsL_law (va_wsS RL 12 yL_cell wsL_cell) := goodIn_app (goodIn_of _ (by decide +kernel)) ggL_law_L_cell
set_option maxRecDepth 20000 in
theorem gc_L_law_L_refused_1_0 : GoodIn wsL_law [Cond.constant RL 162 (1000000000)] := goodIn_r _ [90] (by decide +kernel) (by decide +kernel)
set_option maxRecDepth 20000 in
theorem gc_L_law_L_refused_1_1 : GoodIn wsL_law [Cond.constantLong RL 163 (-1)] := goodIn_r _ [91] (by decide +kernel) (by decide +kernel)
set_option maxRecDepth 20000 in
theorem gc_L_law_L_refused_1_2 : GoodIn wsL_law [Cond.methodLink RL 22 yL_up] := goodIn_r _ [92] (by decide +kernel) (by decide +kernel)
set_option maxRecDepth 20000 in
theorem gc_L_law_L_refused_1_3 : GoodIn wsL_law [Cond.static yL_up] := goodIn_r _ [93] (by decide +kernel) (by decide +kernel)
set_option maxRecDepth 20000 in
theorem gc_L_law_L_refused_1_4 : GoodIn wsL_law [Cond.initialized RL] := goodIn_r _ [84] (by decide +kernel) (by decide +kernel)
set_option maxRecDepth 20000 in
theorem gc_L_law_L_refused_1_5 : GoodIn wsL_law [Cond.code yL_up cL_up 2 (some .int)] := goodIn_r _ [94] rfl (by decide +kernel)
set_option maxRecDepth 20000 in
theorem gc_L_law_L_refused_1_6 : GoodIn wsL_law [Cond.constant RL 8 (2147483647)] := goodIn_r _ [95] (by decide +kernel) (by decide +kernel)
set_option maxRecDepth 20000 in
theorem gc_L_law_L_refused_1_7 : GoodIn wsL_law [Cond.methodLink RL 26 yX6_set] := goodIn_r _ [96] (by decide +kernel) (by decide +kernel)
set_option maxRecDepth 20000 in
theorem gc_L_law_L_refused_1_8 : GoodIn wsL_law [Cond.instanceMethod yX6_set] := goodIn_r _ [97] (by decide +kernel) (by decide +kernel)
set_option maxRecDepth 20000 in
theorem gc_L_law_L_refused_1_9 : GoodIn wsL_law [Cond.selects RX6 yX6_set yX6_set] := goodIn_r _ [98] (by decide +kernel) (by decide +kernel)
set_option maxRecDepth 20000 in
theorem gc_L_law_L_refused_1_10 : GoodIn wsL_law [Cond.initialized RX6] := goodIn_r _ [2] (by decide +kernel) (by decide +kernel)
set_option maxRecDepth 20000 in
theorem gc_L_law_L_refused_1_11 : GoodIn wsL_law [Cond.code yX6_set cX6_set 3 (some .int)] := goodIn_r _ [99] (by decide +kernel) (by decide +kernel)
set_option maxRecDepth 20000 in
theorem gc_L_law_L_refused_1_12 : GoodIn wsL_law [Cond.fieldLink RX6 33 "VisaPages" "history" "LVisaPages$History;"] := goodIn_r _ [24] (by decide +kernel) (by decide +kernel)
set_option maxRecDepth 20000 in
theorem gc_L_law_L_refused_1_13 : GoodIn wsL_law [Cond.fieldLink RX6 12 "VisaPages" "house" "LVisaPages$House;"] := goodIn_r _ [12] (by decide +kernel) (by decide +kernel)
set_option maxRecDepth 20000 in
theorem gc_L_law_L_refused_1_14 : GoodIn wsL_law [Cond.methodLink RX6 41 yX1_remember] := goodIn_r _ [100] (by decide +kernel) (by decide +kernel)
set_option maxRecDepth 20000 in
theorem gc_L_law_L_refused_1_15 : GoodIn wsL_law [Cond.instanceMethod yX1_remember] := goodIn_r _ [101] (by decide +kernel) (by decide +kernel)
set_option maxRecDepth 20000 in
theorem gc_L_law_L_refused_1_16 : GoodIn wsL_law [Cond.selects RX1 yX1_remember yX1_remember] := goodIn_r _ [102] (by decide +kernel) (by decide +kernel)
set_option maxRecDepth 20000 in
theorem gc_L_law_L_refused_1_17 : GoodIn wsL_law [Cond.initialized RX1] := goodIn_r _ [23] (by decide +kernel) (by decide +kernel)
set_option maxRecDepth 20000 in
theorem gc_L_law_L_refused_1_18 : GoodIn wsL_law [Cond.code yX1_remember cX1_remember 2 none] := goodIn_r _ [103] (by decide +kernel) (by decide +kernel)
set_option maxRecDepth 20000 in
theorem gc_L_law_L_refused_1_19 : GoodIn wsL_law [Cond.fieldLink RX1 11 "VisaPages$History" "past" "[LVisaPages$House;"] := goodIn_r _ [81] (by decide +kernel) (by decide +kernel)
set_option maxRecDepth 20000 in
theorem gc_L_law_L_refused_1_20 : GoodIn wsL_law [Cond.fieldLink RX1 17 "VisaPages$History" "kept" "I"] := goodIn_r _ [104] (by decide +kernel) (by decide +kernel)
set_option maxRecDepth 20000 in
theorem gc_L_law_L_refused_1_21 : GoodIn wsL_law [Cond.classLink RX1 9 RX2] := goodIn_r _ [80] (by decide +kernel) (by decide +kernel)
set_option maxRecDepth 20000 in
theorem gc_L_law_L_refused_1_22 : GoodIn wsL_law [Cond.instantiable RX2 10] := goodIn_r _ [10] (by decide +kernel) (by decide +kernel)
set_option maxRecDepth 20000 in
theorem gc_L_law_L_refused_1_23 : GoodIn wsL_law [Cond.initialized RX2] := goodIn_r _ [11] (by decide +kernel) (by decide +kernel)
theorem gc_L_law_L_refused_1 : GoodIn wsL_law wsL_refused_r1 := good_cons gc_L_law_L_refused_1_0 (good_cons gc_L_law_L_refused_1_1 (good_cons gc_L_law_L_refused_1_2 (good_cons gc_L_law_L_refused_1_3 (good_cons gc_L_law_L_refused_1_4 (good_cons gc_L_law_L_refused_1_5 (good_cons gc_L_law_L_refused_1_6 (good_cons gc_L_law_L_refused_1_7 (good_cons gc_L_law_L_refused_1_8 (good_cons gc_L_law_L_refused_1_9 (good_cons gc_L_law_L_refused_1_10 (good_cons gc_L_law_L_refused_1_11 (good_cons gc_L_law_L_refused_1_12 (good_cons gc_L_law_L_refused_1_13 (good_cons gc_L_law_L_refused_1_14 (good_cons gc_L_law_L_refused_1_15 (good_cons gc_L_law_L_refused_1_16 (good_cons gc_L_law_L_refused_1_17 (good_cons gc_L_law_L_refused_1_18 (good_cons gc_L_law_L_refused_1_19 (good_cons gc_L_law_L_refused_1_20 (good_cons gc_L_law_L_refused_1_21 (good_cons gc_L_law_L_refused_1_22 (good_cons gc_L_law_L_refused_1_23 (fun _ h => absurd h List.not_mem_nil))))))))))))))))))))))))
set_option maxRecDepth 20000 in
theorem gc_L_law_L_refused_2 : GoodIn wsL_law wsL_refused_r2 := goodIn_r _ [105, 27, 28, 29, 7, 8, 30, 31, 32, 33, 34, 35, 36, 37, 38, 39, 40, 41, 42, 43, 44, 45, 46, 47] (by decide +kernel) (by decide +kernel)
set_option maxRecDepth 20000 in
theorem gc_L_law_L_refused_3 : GoodIn wsL_law wsL_refused_r3 := goodIn_r _ [48, 49, 50, 51, 52, 53, 54, 55, 56, 57, 58, 59, 60, 61, 62, 63, 64, 65, 66, 67, 106, 107, 108, 109] (by decide +kernel) (by decide +kernel)
set_option maxRecDepth 20000 in
theorem gc_L_law_L_refused_4 : GoodIn wsL_law wsL_refused_r4 := goodIn_r _ [110, 111, 112, 113, 114, 115, 116, 117, 118, 119, 120, 121, 122, 123, 124, 125, 126, 127, 128, 129, 130, 131, 132, 133] (by decide +kernel) (by decide +kernel)
set_option maxRecDepth 20000 in
theorem gc_L_law_L_refused_5 : GoodIn wsL_law wsL_refused_r5 := goodIn_r _ [134, 135, 136, 137, 138, 139, 140, 141, 142, 143, 144, 145, 146, 147, 148, 149, 150, 151, 152, 153, 154, 155, 156, 157] (by decide +kernel) (by decide +kernel)
set_option maxRecDepth 20000 in
theorem gc_L_law_L_refused_6 : GoodIn wsL_law wsL_refused_r6 := goodIn_r _ [158, 159, 160, 161, 162, 163, 164, 165, 166, 167, 168, 169, 170, 171, 172, 173, 174, 175, 176, 177, 178, 179, 180, 181] (by decide +kernel) (by decide +kernel)
set_option maxRecDepth 20000 in
theorem gc_L_law_L_refused_7 : GoodIn wsL_law wsL_refused_r7 := goodIn_r _ [182, 183, 184, 185, 186, 187, 188, 189, 190, 191, 192, 193, 194, 195, 196, 197, 198, 199, 200, 201, 202, 203, 204, 205] (by decide +kernel) (by decide +kernel)
set_option maxRecDepth 20000 in
theorem gc_L_law_L_refused_8 : GoodIn wsL_law wsL_refused_r8 := goodIn_r _ [206, 207, 208, 209, 210, 211, 212, 213, 214, 215, 216, 217, 218, 219, 220, 221, 222, 223, 224, 225, 226, 227, 228, 229] (by decide +kernel) (by decide +kernel)
set_option maxRecDepth 20000 in
theorem gc_L_law_L_refused_9 : GoodIn wsL_law wsL_refused_r9 := goodIn_r _ [230, 231, 232, 233, 234, 235, 236, 237, 238, 239, 240, 241, 242, 243, 244, 245, 246, 247, 248, 249, 250, 251, 252, 253] (by decide +kernel) (by decide +kernel)
set_option maxRecDepth 20000 in
theorem gc_L_law_L_refused_10 : GoodIn wsL_law wsL_refused_r10 := goodIn_r _ [254, 255, 256, 257, 258, 259, 260, 261, 262, 263, 264, 265, 266, 267, 268, 269, 270, 271, 272, 273, 274, 275, 276, 16] (by decide +kernel) (by decide +kernel)
set_option maxRecDepth 20000 in
theorem gc_L_law_L_refused_11 : GoodIn wsL_law wsL_refused_r11 := goodIn_r _ [277, 278, 279, 280, 281, 282, 283, 284, 285, 286, 287, 288, 289, 290, 291, 292, 293, 294, 295, 296, 297, 298, 299, 300] (by decide +kernel) (by decide +kernel)
set_option maxRecDepth 20000 in
theorem gc_L_law_L_refused_12 : GoodIn wsL_law wsL_refused_r12 := goodIn_r _ [301, 302, 303, 304, 305, 306, 307, 308, 309, 310, 311, 15, 312, 313, 314, 315, 316, 317, 318, 319, 320, 321, 322, 323] (by decide +kernel) (by decide +kernel)
set_option maxRecDepth 20000 in
theorem gc_L_law_L_refused_13 : GoodIn wsL_law wsL_refused_r13 := goodIn_r _ [324, 325, 326, 327, 328, 329, 330, 331, 332, 333, 334, 335, 336, 337, 338, 339, 340, 341, 342, 343, 344, 345, 346, 347] (by decide +kernel) (by decide +kernel)
set_option maxRecDepth 20000 in
theorem gc_L_law_L_refused_14 : GoodIn wsL_law wsL_refused_r14 := goodIn_r _ [348, 349, 350, 351, 352, 353, 354, 355, 356, 357, 358, 359, 360, 361, 362, 363, 364, 365, 366, 367, 368, 369, 370, 371] (by decide +kernel) (by decide +kernel)
set_option maxRecDepth 20000 in
theorem gc_L_law_L_refused_15 : GoodIn wsL_law wsL_refused_r15 := goodIn_r _ [372, 373, 374, 375, 376, 377, 378, 379, 380, 381, 382, 383, 384, 385, 386, 387, 388, 389, 390, 391, 392, 393, 394, 395] (by decide +kernel) (by decide +kernel)
set_option maxRecDepth 20000 in
theorem gc_L_law_L_refused_16 : GoodIn wsL_law wsL_refused_r16 := goodIn_r _ [396, 397, 398, 399, 400, 401, 402, 403, 404, 405, 406, 20, 407, 408, 409, 410, 411, 412, 413, 414, 415, 416, 417, 418] (by decide +kernel) (by decide +kernel)
set_option maxRecDepth 20000 in
theorem gc_L_law_L_refused_17 : GoodIn wsL_law wsL_refused_r17 := goodIn_r _ [419, 420, 421, 422, 423, 424, 425, 426, 427, 428, 429, 430, 431, 432, 433, 434, 435, 436, 437, 438, 439, 440, 441, 442] (by decide +kernel) (by decide +kernel)
set_option maxRecDepth 20000 in
theorem gc_L_law_L_refused_18 : GoodIn wsL_law wsL_refused_r18 := goodIn_r _ [443, 444, 445, 446, 447, 448, 449, 450, 451, 452, 453, 454, 455, 456, 457, 19, 458, 459, 75, 460, 461, 462, 463, 464] (by decide +kernel) (by decide +kernel)
set_option maxRecDepth 20000 in
theorem gc_L_law_L_refused_19 : GoodIn wsL_law wsL_refused_r19 := goodIn_r _ [465, 466, 467, 468, 469, 470, 471, 472, 473, 474, 475, 476, 477, 478, 479, 480, 481, 482, 483, 484, 485, 486, 487, 488] (by decide +kernel) (by decide +kernel)
set_option maxRecDepth 20000 in
theorem gc_L_law_L_refused_20 : GoodIn wsL_law wsL_refused_r20 := goodIn_r _ [489, 490, 491, 492, 493, 494, 495, 496, 497, 498, 499, 500, 501, 502, 503, 504, 505, 506, 507, 508, 509, 510, 511, 512] (by decide +kernel) (by decide +kernel)
set_option maxRecDepth 20000 in
theorem gc_L_law_L_refused_21 : GoodIn wsL_law wsL_refused_r21 := goodIn_r _ [513, 514, 515, 516, 517, 518, 519, 520, 521, 522, 523, 524, 525, 526, 527, 528, 529, 530, 531, 532, 533, 534, 535, 536] (by decide +kernel) (by decide +kernel)
set_option maxRecDepth 20000 in
theorem gc_L_law_L_refused_22 : GoodIn wsL_law wsL_refused_r22 := goodIn_r _ [537, 538, 539, 540, 541, 542, 543, 544, 545, 546, 547, 548, 549, 550, 551, 552, 553, 554, 555, 556, 557, 76, 558, 559] (by decide +kernel) (by decide +kernel)
set_option maxRecDepth 20000 in
theorem gc_L_law_L_refused_23 : GoodIn wsL_law wsL_refused_r23 := goodIn_r _ [560, 561, 562, 563, 564, 565, 566, 567, 568, 569, 570, 571, 572, 573, 574, 575, 576, 577, 578, 579, 580, 581, 582, 583] (by decide +kernel) (by decide +kernel)
set_option maxRecDepth 20000 in
theorem gc_L_law_L_refused_24 : GoodIn wsL_law wsL_refused_r24 := goodIn_r _ [584, 585, 586, 587, 588, 589, 590, 591, 592, 25, 9, 593, 594, 595, 26, 596, 597, 598, 599, 600, 601, 602, 603, 604] (by decide +kernel) (by decide +kernel)
set_option maxRecDepth 20000 in
theorem gc_L_law_L_refused_25 : GoodIn wsL_law wsL_refused_r25 := goodIn_r _ [605, 606, 607, 608] (by decide +kernel) (by decide +kernel)
set_option maxRecDepth 20000 in
theorem gc_L_law_L_refused_h : GoodIn wsL_law [.code yL_refused cL_refused 3 (some .boolean)] := goodIn_r _ [89] rfl (by decide +kernel)
set_option maxRecDepth 20000 in
theorem gc_L_law_L_refused_x6 : GoodIn wsL_law wsX60 := goodIn_r _ [667, 668, 669, 670, 671] (by decide +kernel) (by decide +kernel)
set_option maxRecDepth 20000 in
theorem gc_L_law_L_refused_x1 : GoodIn wsL_law wsX10 := goodIn_r _ [690, 691] (by decide +kernel) (by decide +kernel)
set_option maxRecDepth 20000 in
theorem gc_L_law_L_refused_x2 : GoodIn wsL_law wsX20 := goodIn_r _ [672, 673, 674, 675, 676, 677, 678, 679, 680, 681] (by decide +kernel) (by decide +kernel)
set_option maxRecDepth 20000 in
theorem gc_L_law_L_refused_x4 : GoodIn wsL_law wsX40 := goodIn_r _ [692, 693, 694, 695, 696, 697, 698, 699] (by decide +kernel) (by decide +kernel)
set_option maxRecDepth 20000 in
theorem gc_L_law_L_refused_x0 : GoodIn wsL_law wsX00 := goodIn_r _ [700, 701, 702, 703, 704, 705, 706] (by decide +kernel) (by decide +kernel)
set_option maxRecDepth 20000 in
theorem gc_L_law_L_refused_x5 : GoodIn wsL_law wsX50 := goodIn_r _ [682, 683] (by decide +kernel) (by decide +kernel)
set_option maxRecDepth 20000 in
theorem gc_L_law_L_refused_x3 : GoodIn wsL_law wsX30 := goodIn_r _ [684, 685, 686, 687, 688, 689] (by decide +kernel) (by decide +kernel)
theorem ggL_law_L_refused : GoodIn wsL_law wsL_refused := good_cons gc_L_law_L_refused_h (good_app (good_app (good_app (good_app (good_app (good_app (good_app (good_app gc_L_law_L_refused_1 (good_app gc_L_law_L_refused_2 (good_app gc_L_law_L_refused_3 (good_app gc_L_law_L_refused_4 (good_app gc_L_law_L_refused_5 (good_app gc_L_law_L_refused_6 (good_app gc_L_law_L_refused_7 (good_app gc_L_law_L_refused_8 (good_app gc_L_law_L_refused_9 (good_app gc_L_law_L_refused_10 (good_app gc_L_law_L_refused_11 (good_app gc_L_law_L_refused_12 (good_app gc_L_law_L_refused_13 (good_app gc_L_law_L_refused_14 (good_app gc_L_law_L_refused_15 (good_app gc_L_law_L_refused_16 (good_app gc_L_law_L_refused_17 (good_app gc_L_law_L_refused_18 (good_app gc_L_law_L_refused_19 (good_app gc_L_law_L_refused_20 (good_app gc_L_law_L_refused_21 (good_app gc_L_law_L_refused_22 (good_app gc_L_law_L_refused_23 (good_app gc_L_law_L_refused_24 (gc_L_law_L_refused_25))))))))))))))))))))))))) gc_L_law_L_refused_x6) gc_L_law_L_refused_x1) gc_L_law_L_refused_x2) gc_L_law_L_refused_x4) gc_L_law_L_refused_x0) gc_L_law_L_refused_x5) gc_L_law_L_refused_x3)
set_option maxRecDepth 20000 in
theorem gL_law_L_refused : GoodIn wsL_law (va_wsS RL 18 yL_refused wsL_refused) := goodIn_app (goodIn_of _ (by decide +kernel)) ggL_law_L_refused
set_option maxRecDepth 20000 in
theorem ggL_law_L_up : GoodIn wsL_law wsL_up := goodIn_r _ [94, 95] (by decide +kernel) (by decide +kernel)
set_option maxRecDepth 20000 in
theorem gL_law_L_up : GoodIn wsL_law (va_wsS RL 22 yL_up wsL_up) := goodIn_app (goodIn_of _ (by decide +kernel)) ggL_law_L_up
set_option maxRecDepth 20000 in
theorem gc_L_law_X6_set_1 : GoodIn wsL_law wsX6_set_r1 := goodIn_r _ [24, 12, 100, 101, 102, 23, 103, 81, 104, 80, 10, 11, 105, 27, 28, 29, 7, 8, 30, 31, 32, 33, 34, 35] (by decide +kernel) (by decide +kernel)
set_option maxRecDepth 20000 in
theorem gc_L_law_X6_set_2 : GoodIn wsL_law wsX6_set_r2 := goodIn_r _ [36, 37, 38, 39, 40, 41, 42, 43, 44, 45, 46, 47, 48, 49, 50, 51, 52, 53, 54, 55, 56, 57, 58, 59] (by decide +kernel) (by decide +kernel)
set_option maxRecDepth 20000 in
theorem gc_L_law_X6_set_3 : GoodIn wsL_law wsX6_set_r3 := goodIn_r _ [60, 61, 62, 63, 64, 65, 66, 67, 106, 107, 108, 109, 110, 111, 112, 113, 114, 115, 116, 117, 118, 119, 120, 121] (by decide +kernel) (by decide +kernel)
set_option maxRecDepth 20000 in
theorem gc_L_law_X6_set_4 : GoodIn wsL_law wsX6_set_r4 := goodIn_r _ [122, 123, 124, 125, 126, 127, 128, 129, 130, 131, 132, 133, 134, 135, 136, 137, 138, 139, 140, 141, 142, 143, 144, 145] (by decide +kernel) (by decide +kernel)
set_option maxRecDepth 20000 in
theorem gc_L_law_X6_set_5 : GoodIn wsL_law wsX6_set_r5 := goodIn_r _ [146, 2, 147, 148, 149, 150, 151, 152, 153, 154, 155] (by decide +kernel) (by decide +kernel)
set_option maxRecDepth 20000 in
theorem gc_L_law_X6_set_h : GoodIn wsL_law [.code yX6_set cX6_set 3 (some .int)] := goodIn_r _ [99] (by decide +kernel) (by decide +kernel)
set_option maxRecDepth 20000 in
theorem gc_L_law_X6_set_x6 : GoodIn wsL_law wsX60 := goodIn_r _ [667, 668, 669, 670, 671] (by decide +kernel) (by decide +kernel)
set_option maxRecDepth 20000 in
theorem gc_L_law_X6_set_x1 : GoodIn wsL_law wsX10 := goodIn_r _ [690, 691] (by decide +kernel) (by decide +kernel)
set_option maxRecDepth 20000 in
theorem gc_L_law_X6_set_x2 : GoodIn wsL_law wsX20 := goodIn_r _ [672, 673, 674, 675, 676, 677, 678, 679, 680, 681] (by decide +kernel) (by decide +kernel)
set_option maxRecDepth 20000 in
theorem gc_L_law_X6_set_x4 : GoodIn wsL_law wsX40 := goodIn_r _ [692, 693, 694, 695, 696, 697, 698, 699] (by decide +kernel) (by decide +kernel)
set_option maxRecDepth 20000 in
theorem gc_L_law_X6_set_x0 : GoodIn wsL_law wsX00 := goodIn_r _ [700, 701, 702, 703, 704, 705, 706] (by decide +kernel) (by decide +kernel)
theorem ggL_law_X6_set : GoodIn wsL_law wsX6_set := good_cons gc_L_law_X6_set_h (good_app (good_app (good_app (good_app (good_app (good_app gc_L_law_X6_set_1 (good_app gc_L_law_X6_set_2 (good_app gc_L_law_X6_set_3 (good_app gc_L_law_X6_set_4 (gc_L_law_X6_set_5))))) gc_L_law_X6_set_x6) gc_L_law_X6_set_x1) gc_L_law_X6_set_x2) gc_L_law_X6_set_x4) gc_L_law_X6_set_x0)
set_option maxRecDepth 20000 in
theorem gL_law_X6_set : GoodIn wsL_law (wsV RL 26 RX6 yX6_set wsX6_set) := goodIn_app (goodIn_of _ (by decide +kernel)) ggL_law_X6_set
set_option maxRecDepth 20000 in
theorem gc_L_law_L_act_1_0 : GoodIn wsL_law [Cond.methodLink RL 22 yL_up] := goodIn_r _ [92] (by decide +kernel) (by decide +kernel)
set_option maxRecDepth 20000 in
theorem gc_L_law_L_act_1_1 : GoodIn wsL_law [Cond.static yL_up] := goodIn_r _ [93] (by decide +kernel) (by decide +kernel)
set_option maxRecDepth 20000 in
theorem gc_L_law_L_act_1_2 : GoodIn wsL_law [Cond.initialized RL] := goodIn_r _ [84] (by decide +kernel) (by decide +kernel)
set_option maxRecDepth 20000 in
theorem gc_L_law_L_act_1_3 : GoodIn wsL_law [Cond.code yL_up cL_up 2 (some .int)] := goodIn_r _ [94] rfl (by decide +kernel)
set_option maxRecDepth 20000 in
theorem gc_L_law_L_act_1_4 : GoodIn wsL_law [Cond.constant RL 8 (2147483647)] := goodIn_r _ [95] (by decide +kernel) (by decide +kernel)
set_option maxRecDepth 20000 in
theorem gc_L_law_L_act_1_5 : GoodIn wsL_law [Cond.methodLink RL 46 yX6_count] := goodIn_r _ [394] (by decide +kernel) (by decide +kernel)
set_option maxRecDepth 20000 in
theorem gc_L_law_L_act_1_6 : GoodIn wsL_law [Cond.instanceMethod yX6_count] := goodIn_r _ [395] (by decide +kernel) (by decide +kernel)
set_option maxRecDepth 20000 in
theorem gc_L_law_L_act_1_7 : GoodIn wsL_law [Cond.selects RX6 yX6_count yX6_count] := goodIn_r _ [396] (by decide +kernel) (by decide +kernel)
set_option maxRecDepth 20000 in
theorem gc_L_law_L_act_1_8 : GoodIn wsL_law [Cond.initialized RX6] := goodIn_r _ [2] (by decide +kernel) (by decide +kernel)
set_option maxRecDepth 20000 in
theorem gc_L_law_L_act_1_9 : GoodIn wsL_law [Cond.code yX6_count cX6_count 2 (some .int)] := goodIn_r _ [397] (by decide +kernel) (by decide +kernel)
set_option maxRecDepth 20000 in
theorem gc_L_law_L_act_1_10 : GoodIn wsL_law [Cond.fieldLink RX6 12 "VisaPages" "house" "LVisaPages$House;"] := goodIn_r _ [12] (by decide +kernel) (by decide +kernel)
set_option maxRecDepth 20000 in
theorem gc_L_law_L_act_1_11 : GoodIn wsL_law [Cond.fieldLink RX6 107 "VisaPages$House" "stamps" "LVisaPages$Stamps;"] := goodIn_r _ [337] (by decide +kernel) (by decide +kernel)
set_option maxRecDepth 20000 in
theorem gc_L_law_L_act_1_12 : GoodIn wsL_law [Cond.fieldLink RX6 175 "VisaPages$Stamps" "made" "I"] := goodIn_r _ [398] (by decide +kernel) (by decide +kernel)
set_option maxRecDepth 20000 in
theorem gc_L_law_L_act_1_13 : GoodIn wsL_law [Cond.fieldLink RX6 78 "VisaPages$House" "board" "LVisaPages$Board;"] := goodIn_r _ [388] (by decide +kernel) (by decide +kernel)
set_option maxRecDepth 20000 in
theorem gc_L_law_L_act_1_14 : GoodIn wsL_law [Cond.fieldLink RX6 179 "VisaPages$Board" "size" "I"] := goodIn_r _ [399] (by decide +kernel) (by decide +kernel)
set_option maxRecDepth 20000 in
theorem gc_L_law_L_act_1_15 : GoodIn wsL_law [Cond.fieldLink RX6 182 "VisaPages$House" "inside" "I"] := goodIn_r _ [400] (by decide +kernel) (by decide +kernel)
set_option maxRecDepth 20000 in
theorem gc_L_law_L_act_1_16 : GoodIn wsL_law [Cond.fieldLink RX6 185 "VisaPages$House" "visits" "I"] := goodIn_r _ [401] (by decide +kernel) (by decide +kernel)
set_option maxRecDepth 20000 in
theorem gc_L_law_L_act_1_17 : GoodIn wsL_law [Cond.fieldLink RX6 188 "VisaPages$House" "helped" "I"] := goodIn_r _ [402] (by decide +kernel) (by decide +kernel)
set_option maxRecDepth 20000 in
theorem gc_L_law_L_act_1_18 : GoodIn wsL_law [Cond.fieldLink RX6 191 "VisaPages$House" "steps" "I"] := goodIn_r _ [403] (by decide +kernel) (by decide +kernel)
set_option maxRecDepth 20000 in
theorem gc_L_law_L_act_1_19 : GoodIn wsL_law [Cond.fieldLink RX6 194 "VisaPages$Board" "wiped" "I"] := goodIn_r _ [404] (by decide +kernel) (by decide +kernel)
set_option maxRecDepth 20000 in
theorem gc_L_law_L_act_1_20 : GoodIn wsL_law [Cond.fieldLink RX6 197 "VisaPages$Board" "dropped" "I"] := goodIn_r _ [405] (by decide +kernel) (by decide +kernel)
set_option maxRecDepth 20000 in
theorem gc_L_law_L_act_1_21 : GoodIn wsL_law [Cond.fieldLink RX6 200 "VisaPages$House" "settings" "[I"] := goodIn_r _ [406] (by decide +kernel) (by decide +kernel)
set_option maxRecDepth 20000 in
theorem gc_L_law_L_act_1_22 : GoodIn wsL_law [Cond.fieldLink RX6 26 "VisaPages" "pad" "LVisaPages$Pad;"] := goodIn_r _ [20] (by decide +kernel) (by decide +kernel)
set_option maxRecDepth 20000 in
theorem gc_L_law_L_act_1_23 : GoodIn wsL_law [Cond.fieldLink RX6 203 "VisaPages$Pad" "length" "I"] := goodIn_r _ [407] (by decide +kernel) (by decide +kernel)
theorem gc_L_law_L_act_1 : GoodIn wsL_law wsL_act_r1 := good_cons gc_L_law_L_act_1_0 (good_cons gc_L_law_L_act_1_1 (good_cons gc_L_law_L_act_1_2 (good_cons gc_L_law_L_act_1_3 (good_cons gc_L_law_L_act_1_4 (good_cons gc_L_law_L_act_1_5 (good_cons gc_L_law_L_act_1_6 (good_cons gc_L_law_L_act_1_7 (good_cons gc_L_law_L_act_1_8 (good_cons gc_L_law_L_act_1_9 (good_cons gc_L_law_L_act_1_10 (good_cons gc_L_law_L_act_1_11 (good_cons gc_L_law_L_act_1_12 (good_cons gc_L_law_L_act_1_13 (good_cons gc_L_law_L_act_1_14 (good_cons gc_L_law_L_act_1_15 (good_cons gc_L_law_L_act_1_16 (good_cons gc_L_law_L_act_1_17 (good_cons gc_L_law_L_act_1_18 (good_cons gc_L_law_L_act_1_19 (good_cons gc_L_law_L_act_1_20 (good_cons gc_L_law_L_act_1_21 (good_cons gc_L_law_L_act_1_22 (good_cons gc_L_law_L_act_1_23 (fun _ h => absurd h List.not_mem_nil))))))))))))))))))))))))
set_option maxRecDepth 20000 in
theorem gc_L_law_L_act_2 : GoodIn wsL_law wsL_act_r2 := goodIn_r _ [24, 408, 339, 169, 170, 11, 171, 44, 172, 173, 174, 175, 146, 147, 176, 177, 178, 179, 180, 181, 31, 182, 183, 184] (by decide +kernel) (by decide +kernel)
set_option maxRecDepth 20000 in
theorem gc_L_law_L_act_3 : GoodIn wsL_law wsL_act_r3 := goodIn_r _ [185, 186, 43, 187, 125, 164, 165, 348, 349, 350, 351, 352, 353, 354, 332, 333, 334, 335, 336, 338, 340, 341, 342, 343] (by decide +kernel) (by decide +kernel)
set_option maxRecDepth 20000 in
theorem gc_L_law_L_act_4_0 : GoodIn wsL_law [Cond.static yX6_isGuest] := goodIn_r _ [166] (by decide +kernel) (by decide +kernel)
set_option maxRecDepth 20000 in
theorem gc_L_law_L_act_4_1 : GoodIn wsL_law [Cond.code yX6_isGuest cX6_isGuest 1 (some .boolean)] := goodIn_r _ [167] (by decide +kernel) (by decide +kernel)
set_option maxRecDepth 20000 in
theorem gc_L_law_L_act_4_2 : GoodIn wsL_law [Cond.methodLink RX6 111 yX4_ofOnePage] := goodIn_r _ [344] (by decide +kernel) (by decide +kernel)
set_option maxRecDepth 20000 in
theorem gc_L_law_L_act_4_3 : GoodIn wsL_law [Cond.instanceMethod yX4_ofOnePage] := goodIn_r _ [345] (by decide +kernel) (by decide +kernel)
set_option maxRecDepth 20000 in
theorem gc_L_law_L_act_4_4 : GoodIn wsL_law [Cond.selects RX4 yX4_ofOnePage yX4_ofOnePage] := goodIn_r _ [346] (by decide +kernel) (by decide +kernel)
set_option maxRecDepth 20000 in
theorem gc_L_law_L_act_4_5 : GoodIn wsL_law [Cond.code yX4_ofOnePage cX4_ofOnePage 5 (some .long)] := goodIn_r _ [347] (by decide +kernel) (by decide +kernel)
set_option maxRecDepth 20000 in
theorem gc_L_law_L_act_4_6 : GoodIn wsL_law [Cond.fieldLink RX4 9 "VisaPages$Stamps" "page" "[I"] := goodIn_r _ [52] (by decide +kernel) (by decide +kernel)
set_option maxRecDepth 20000 in
theorem gc_L_law_L_act_4_7 : GoodIn wsL_law [Cond.methodLink RL 65 yL_changed] := goodIn_r _ [612] (by decide +kernel) (by decide +kernel)
set_option maxRecDepth 20000 in
theorem gc_L_law_L_act_4_8 : GoodIn wsL_law [Cond.static yL_changed] := goodIn_r _ [613] (by decide +kernel) (by decide +kernel)
set_option maxRecDepth 20000 in
theorem gc_L_law_L_act_4_9 : GoodIn wsL_law [Cond.code yL_changed cL_changed 15 (some .boolean)] := goodIn_r _ [614] rfl (by decide +kernel)
set_option maxRecDepth 20000 in
theorem gc_L_law_L_act_4_10 : GoodIn wsL_law [Cond.arrayClass .int] := goodIn_r _ [30] (by decide +kernel) (by decide +kernel)
set_option maxRecDepth 20000 in
theorem gc_L_law_L_act_4_11 : GoodIn wsL_law [Cond.methodLink RL 56 yX6_note] := goodIn_r _ [384] (by decide +kernel) (by decide +kernel)
set_option maxRecDepth 20000 in
theorem gc_L_law_L_act_4_12 : GoodIn wsL_law [Cond.instanceMethod yX6_note] := goodIn_r _ [385] (by decide +kernel) (by decide +kernel)
set_option maxRecDepth 20000 in
theorem gc_L_law_L_act_4_13 : GoodIn wsL_law [Cond.selects RX6 yX6_note yX6_note] := goodIn_r _ [386] (by decide +kernel) (by decide +kernel)
set_option maxRecDepth 20000 in
theorem gc_L_law_L_act_4_14 : GoodIn wsL_law [Cond.code yX6_note cX6_note 4 (some .int)] := goodIn_r _ [387] (by decide +kernel) (by decide +kernel)
set_option maxRecDepth 20000 in
theorem gc_L_law_L_act_4_15 : GoodIn wsL_law [Cond.fieldLink RX6 165 "VisaPages$Board" "guest" "[I"] := goodIn_r _ [389] (by decide +kernel) (by decide +kernel)
set_option maxRecDepth 20000 in
theorem gc_L_law_L_act_4_16 : GoodIn wsL_law [Cond.fieldLink RX6 168 "VisaPages$Board" "door" "[I"] := goodIn_r _ [390] (by decide +kernel) (by decide +kernel)
set_option maxRecDepth 20000 in
theorem gc_L_law_L_act_4_17 : GoodIn wsL_law [Cond.fieldLink RX6 171 "VisaPages$Board" "need" "[I"] := goodIn_r _ [391] (by decide +kernel) (by decide +kernel)
set_option maxRecDepth 20000 in
theorem gc_L_law_L_act_4_18 : GoodIn wsL_law [Cond.fieldLink RX6 174 "VisaPages$Board" "page" "[I"] := goodIn_r _ [392] (by decide +kernel) (by decide +kernel)
set_option maxRecDepth 20000 in
theorem gc_L_law_L_act_4_19 : GoodIn wsL_law [Cond.methodLink RX6 164 yX0_has] := goodIn_r _ [393] (by decide +kernel) (by decide +kernel)
set_option maxRecDepth 20000 in
theorem gc_L_law_L_act_4_20 : GoodIn wsL_law [Cond.instanceMethod yX0_has] := goodIn_r _ [294] (by decide +kernel) (by decide +kernel)
set_option maxRecDepth 20000 in
theorem gc_L_law_L_act_4_21 : GoodIn wsL_law [Cond.selects RX0 yX0_has yX0_has] := goodIn_r _ [295] (by decide +kernel) (by decide +kernel)
set_option maxRecDepth 20000 in
theorem gc_L_law_L_act_4_22 : GoodIn wsL_law [Cond.initialized RX0] := goodIn_r _ [47] (by decide +kernel) (by decide +kernel)
set_option maxRecDepth 20000 in
theorem gc_L_law_L_act_4_23 : GoodIn wsL_law [Cond.code yX0_has cX0_has 2 (some .boolean)] := goodIn_r _ [296] (by decide +kernel) (by decide +kernel)
theorem gc_L_law_L_act_4 : GoodIn wsL_law wsL_act_r4 := good_cons gc_L_law_L_act_4_0 (good_cons gc_L_law_L_act_4_1 (good_cons gc_L_law_L_act_4_2 (good_cons gc_L_law_L_act_4_3 (good_cons gc_L_law_L_act_4_4 (good_cons gc_L_law_L_act_4_5 (good_cons gc_L_law_L_act_4_6 (good_cons gc_L_law_L_act_4_7 (good_cons gc_L_law_L_act_4_8 (good_cons gc_L_law_L_act_4_9 (good_cons gc_L_law_L_act_4_10 (good_cons gc_L_law_L_act_4_11 (good_cons gc_L_law_L_act_4_12 (good_cons gc_L_law_L_act_4_13 (good_cons gc_L_law_L_act_4_14 (good_cons gc_L_law_L_act_4_15 (good_cons gc_L_law_L_act_4_16 (good_cons gc_L_law_L_act_4_17 (good_cons gc_L_law_L_act_4_18 (good_cons gc_L_law_L_act_4_19 (good_cons gc_L_law_L_act_4_20 (good_cons gc_L_law_L_act_4_21 (good_cons gc_L_law_L_act_4_22 (good_cons gc_L_law_L_act_4_23 (fun _ h => absurd h List.not_mem_nil))))))))))))))))))))))))
set_option maxRecDepth 20000 in
theorem gc_L_law_L_act_5_0 : GoodIn wsL_law [Cond.fieldLink RX0 30 "VisaPages$Board" "size" "I"] := goodIn_r _ [131] (by decide +kernel) (by decide +kernel)
set_option maxRecDepth 20000 in
theorem gc_L_law_L_act_5_1 : GoodIn wsL_law [Cond.methodLink RL 53 yX6_leads] := goodIn_r _ [378] (by decide +kernel) (by decide +kernel)
set_option maxRecDepth 20000 in
theorem gc_L_law_L_act_5_2 : GoodIn wsL_law [Cond.instanceMethod yX6_leads] := goodIn_r _ [379] (by decide +kernel) (by decide +kernel)
set_option maxRecDepth 20000 in
theorem gc_L_law_L_act_5_3 : GoodIn wsL_law [Cond.selects RX6 yX6_leads yX6_leads] := goodIn_r _ [380] (by decide +kernel) (by decide +kernel)
set_option maxRecDepth 20000 in
theorem gc_L_law_L_act_5_4 : GoodIn wsL_law [Cond.code yX6_leads cX6_leads 3 (some .int)] := goodIn_r _ [381] (by decide +kernel) (by decide +kernel)
set_option maxRecDepth 20000 in
theorem gc_L_law_L_act_5_5 : GoodIn wsL_law [Cond.methodLink RX6 157 yX6_isDoor] := goodIn_r _ [382] (by decide +kernel) (by decide +kernel)
set_option maxRecDepth 20000 in
theorem gc_L_law_L_act_5_6 : GoodIn wsL_law [Cond.static yX6_isDoor] := goodIn_r _ [216] (by decide +kernel) (by decide +kernel)
set_option maxRecDepth 20000 in
theorem gc_L_law_L_act_5_7 : GoodIn wsL_law [Cond.code yX6_isDoor cX6_isDoor 2 (some .boolean)] := goodIn_r _ [217] (by decide +kernel) (by decide +kernel)
set_option maxRecDepth 20000 in
theorem gc_L_law_L_act_5_8 : GoodIn wsL_law [Cond.methodLink RX6 161 yX2_ledBy] := goodIn_r _ [383] (by decide +kernel) (by decide +kernel)
set_option maxRecDepth 20000 in
theorem gc_L_law_L_act_5_9 : GoodIn wsL_law [Cond.instanceMethod yX2_ledBy] := goodIn_r _ [213] (by decide +kernel) (by decide +kernel)
set_option maxRecDepth 20000 in
theorem gc_L_law_L_act_5_10 : GoodIn wsL_law [Cond.selects RX2 yX2_ledBy yX2_ledBy] := goodIn_r _ [214] (by decide +kernel) (by decide +kernel)
set_option maxRecDepth 20000 in
theorem gc_L_law_L_act_5_11 : GoodIn wsL_law [Cond.code yX2_ledBy cX2_ledBy 3 (some .int)] := goodIn_r _ [215] (by decide +kernel) (by decide +kernel)
set_option maxRecDepth 20000 in
theorem gc_L_law_L_act_5_12 : GoodIn wsL_law [Cond.fieldLink RX2 15 "VisaPages$House" "doors" "[I"] := goodIn_r _ [32] (by decide +kernel) (by decide +kernel)
set_option maxRecDepth 20000 in
theorem gc_L_law_L_act_5_13 : GoodIn wsL_law [Cond.methodLink RL 84 yL_good] := goodIn_r _ [615] (by decide +kernel) (by decide +kernel)
set_option maxRecDepth 20000 in
theorem gc_L_law_L_act_5_14 : GoodIn wsL_law [Cond.static yL_good] := goodIn_r _ [616] (by decide +kernel) (by decide +kernel)
set_option maxRecDepth 20000 in
theorem gc_L_law_L_act_5_15 : GoodIn wsL_law [Cond.code yL_good cL_good 3 (some .boolean)] := goodIn_r _ [617] rfl (by decide +kernel)
set_option maxRecDepth 20000 in
theorem gc_L_law_L_act_5_16 : GoodIn wsL_law [Cond.methodLink RL 50 yX6_ofStamp] := goodIn_r _ [355] (by decide +kernel) (by decide +kernel)
set_option maxRecDepth 20000 in
theorem gc_L_law_L_act_5_17 : GoodIn wsL_law [Cond.instanceMethod yX6_ofStamp] := goodIn_r _ [356] (by decide +kernel) (by decide +kernel)
set_option maxRecDepth 20000 in
theorem gc_L_law_L_act_5_18 : GoodIn wsL_law [Cond.selects RX6 yX6_ofStamp yX6_ofStamp] := goodIn_r _ [357] (by decide +kernel) (by decide +kernel)
set_option maxRecDepth 20000 in
theorem gc_L_law_L_act_5_19 : GoodIn wsL_law [Cond.code yX6_ofStamp cX6_ofStamp 4 (some .int)] := goodIn_r _ [358] (by decide +kernel) (by decide +kernel)
set_option maxRecDepth 20000 in
theorem gc_L_law_L_act_5_20 : GoodIn wsL_law [Cond.fieldLink RX6 125 "VisaPages$Stamps" "page" "[I"] := goodIn_r _ [359] (by decide +kernel) (by decide +kernel)
set_option maxRecDepth 20000 in
theorem gc_L_law_L_act_5_21 : GoodIn wsL_law [Cond.fieldLink RX6 128 "VisaPages$Stamps" "giver" "[I"] := goodIn_r _ [360] (by decide +kernel) (by decide +kernel)
set_option maxRecDepth 20000 in
theorem gc_L_law_L_act_5_22 : GoodIn wsL_law [Cond.fieldLink RX6 131 "VisaPages$Stamps" "holder" "[I"] := goodIn_r _ [361] (by decide +kernel) (by decide +kernel)
set_option maxRecDepth 20000 in
theorem gc_L_law_L_act_5_23 : GoodIn wsL_law [Cond.fieldLink RX6 134 "VisaPages$Stamps" "rights" "[I"] := goodIn_r _ [362] (by decide +kernel) (by decide +kernel)
theorem gc_L_law_L_act_5 : GoodIn wsL_law wsL_act_r5 := good_cons gc_L_law_L_act_5_0 (good_cons gc_L_law_L_act_5_1 (good_cons gc_L_law_L_act_5_2 (good_cons gc_L_law_L_act_5_3 (good_cons gc_L_law_L_act_5_4 (good_cons gc_L_law_L_act_5_5 (good_cons gc_L_law_L_act_5_6 (good_cons gc_L_law_L_act_5_7 (good_cons gc_L_law_L_act_5_8 (good_cons gc_L_law_L_act_5_9 (good_cons gc_L_law_L_act_5_10 (good_cons gc_L_law_L_act_5_11 (good_cons gc_L_law_L_act_5_12 (good_cons gc_L_law_L_act_5_13 (good_cons gc_L_law_L_act_5_14 (good_cons gc_L_law_L_act_5_15 (good_cons gc_L_law_L_act_5_16 (good_cons gc_L_law_L_act_5_17 (good_cons gc_L_law_L_act_5_18 (good_cons gc_L_law_L_act_5_19 (good_cons gc_L_law_L_act_5_20 (good_cons gc_L_law_L_act_5_21 (good_cons gc_L_law_L_act_5_22 (good_cons gc_L_law_L_act_5_23 (fun _ h => absurd h List.not_mem_nil))))))))))))))))))))))))
set_option maxRecDepth 20000 in
theorem gc_L_law_L_act_6_0 : GoodIn wsL_law [Cond.fieldLink RX6 137 "VisaPages$Stamps" "root" "[I"] := goodIn_r _ [363] (by decide +kernel) (by decide +kernel)
set_option maxRecDepth 20000 in
theorem gc_L_law_L_act_6_1 : GoodIn wsL_law [Cond.fieldLink RX6 140 "VisaPages$Stamps" "forged" "J"] := goodIn_r _ [364] (by decide +kernel) (by decide +kernel)
set_option maxRecDepth 20000 in
theorem gc_L_law_L_act_6_2 : GoodIn wsL_law [Cond.fieldLink RX6 148 "VisaPages$Stamps" "taken" "J"] := goodIn_r _ [365] (by decide +kernel) (by decide +kernel)
set_option maxRecDepth 20000 in
theorem gc_L_law_L_act_6_3 : GoodIn wsL_law [Cond.methodLink RX6 122 yX4_has] := goodIn_r _ [366] (by decide +kernel) (by decide +kernel)
set_option maxRecDepth 20000 in
theorem gc_L_law_L_act_6_4 : GoodIn wsL_law [Cond.methodLink RX6 144 yX6_isIn] := goodIn_r _ [367] (by decide +kernel) (by decide +kernel)
set_option maxRecDepth 20000 in
theorem gc_L_law_L_act_6_5 : GoodIn wsL_law [Cond.methodLink RX6 151 yX4_chainLength] := goodIn_r _ [368] (by decide +kernel) (by decide +kernel)
set_option maxRecDepth 20000 in
theorem gc_L_law_L_act_6_6 : GoodIn wsL_law [Cond.instanceMethod yX4_chainLength] := goodIn_r _ [369] (by decide +kernel) (by decide +kernel)
set_option maxRecDepth 20000 in
theorem gc_L_law_L_act_6_7 : GoodIn wsL_law [Cond.selects RX4 yX4_chainLength yX4_chainLength] := goodIn_r _ [370] (by decide +kernel) (by decide +kernel)
set_option maxRecDepth 20000 in
theorem gc_L_law_L_act_6_8 : GoodIn wsL_law [Cond.code yX4_chainLength cX4_chainLength 4 (some .int)] := goodIn_r _ [371] (by decide +kernel) (by decide +kernel)
set_option maxRecDepth 20000 in
theorem gc_L_law_L_act_6_9 : GoodIn wsL_law [Cond.fieldLink RX4 24 "VisaPages$Stamps" "root" "[I"] := goodIn_r _ [56] (by decide +kernel) (by decide +kernel)
set_option maxRecDepth 20000 in
theorem gc_L_law_L_act_6_10 : GoodIn wsL_law [Cond.methodLink RX4 48 yX4_has] := goodIn_r _ [372] (by decide +kernel) (by decide +kernel)
set_option maxRecDepth 20000 in
theorem gc_L_law_L_act_6_11 : GoodIn wsL_law [Cond.methodLink RX6 154 yX4_countBelow] := goodIn_r _ [373] (by decide +kernel) (by decide +kernel)
set_option maxRecDepth 20000 in
theorem gc_L_law_L_act_6_12 : GoodIn wsL_law [Cond.instanceMethod yX4_countBelow] := goodIn_r _ [374] (by decide +kernel) (by decide +kernel)
set_option maxRecDepth 20000 in
theorem gc_L_law_L_act_6_13 : GoodIn wsL_law [Cond.selects RX4 yX4_countBelow yX4_countBelow] := goodIn_r _ [375] (by decide +kernel) (by decide +kernel)
set_option maxRecDepth 20000 in
theorem gc_L_law_L_act_6_14 : GoodIn wsL_law [Cond.code yX4_countBelow cX4_countBelow 5 (some .int)] := goodIn_r _ [376] (by decide +kernel) (by decide +kernel)
set_option maxRecDepth 20000 in
theorem gc_L_law_L_act_6_15 : GoodIn wsL_law [Cond.methodLink RX4 56 yJ13_bitCount_95d88] := goodIn_r _ [377] (by decide +kernel) (by decide +kernel)
set_option maxRecDepth 20000 in
theorem gc_L_law_L_act_6_16 : GoodIn wsL_law [Cond.methodLink RL 62 yL_based] := goodIn_r _ [618] (by decide +kernel) (by decide +kernel)
set_option maxRecDepth 20000 in
theorem gc_L_law_L_act_6_17 : GoodIn wsL_law [Cond.static yL_based] := goodIn_r _ [619] (by decide +kernel) (by decide +kernel)
set_option maxRecDepth 20000 in
theorem gc_L_law_L_act_6_18 : GoodIn wsL_law [Cond.code yL_based cL_based 4 (some .boolean)] := goodIn_r _ [620] rfl (by decide +kernel)
set_option maxRecDepth 20000 in
theorem gc_L_law_L_act_6_19 : GoodIn wsL_law [Cond.methodLink RL 69 yX6_takeBack] := goodIn_r _ [253] (by decide +kernel) (by decide +kernel)
set_option maxRecDepth 20000 in
theorem gc_L_law_L_act_6_20 : GoodIn wsL_law [Cond.instanceMethod yX6_takeBack] := goodIn_r _ [254] (by decide +kernel) (by decide +kernel)
set_option maxRecDepth 20000 in
theorem gc_L_law_L_act_6_21 : GoodIn wsL_law [Cond.selects RX6 yX6_takeBack yX6_takeBack] := goodIn_r _ [255] (by decide +kernel) (by decide +kernel)
set_option maxRecDepth 20000 in
theorem gc_L_law_L_act_6_22 : GoodIn wsL_law [Cond.code yX6_takeBack cX6_takeBack 2 (some .int)] := goodIn_r _ [256] (by decide +kernel) (by decide +kernel)
set_option maxRecDepth 20000 in
theorem gc_L_law_L_act_6_23 : GoodIn wsL_law [Cond.methodLink RX6 41 yX1_remember] := goodIn_r _ [100] (by decide +kernel) (by decide +kernel)
theorem gc_L_law_L_act_6 : GoodIn wsL_law wsL_act_r6 := good_cons gc_L_law_L_act_6_0 (good_cons gc_L_law_L_act_6_1 (good_cons gc_L_law_L_act_6_2 (good_cons gc_L_law_L_act_6_3 (good_cons gc_L_law_L_act_6_4 (good_cons gc_L_law_L_act_6_5 (good_cons gc_L_law_L_act_6_6 (good_cons gc_L_law_L_act_6_7 (good_cons gc_L_law_L_act_6_8 (good_cons gc_L_law_L_act_6_9 (good_cons gc_L_law_L_act_6_10 (good_cons gc_L_law_L_act_6_11 (good_cons gc_L_law_L_act_6_12 (good_cons gc_L_law_L_act_6_13 (good_cons gc_L_law_L_act_6_14 (good_cons gc_L_law_L_act_6_15 (good_cons gc_L_law_L_act_6_16 (good_cons gc_L_law_L_act_6_17 (good_cons gc_L_law_L_act_6_18 (good_cons gc_L_law_L_act_6_19 (good_cons gc_L_law_L_act_6_20 (good_cons gc_L_law_L_act_6_21 (good_cons gc_L_law_L_act_6_22 (good_cons gc_L_law_L_act_6_23 (fun _ h => absurd h List.not_mem_nil))))))))))))))))))))))))
set_option maxRecDepth 20000 in
theorem gc_L_law_L_act_7 : GoodIn wsL_law wsL_act_r7 := goodIn_r _ [101, 102, 23, 103, 81, 104, 80, 10, 105, 27, 28, 29, 7, 8, 33, 34, 35, 36, 37, 38, 39, 40, 41, 42] (by decide +kernel) (by decide +kernel)
set_option maxRecDepth 20000 in
theorem gc_L_law_L_act_8 : GoodIn wsL_law wsL_act_r8 := goodIn_r _ [45, 46, 48, 49, 50, 51, 53, 54, 55, 57, 58, 59, 60, 61, 62, 63, 64, 65, 66, 67, 106, 107, 108, 109] (by decide +kernel) (by decide +kernel)
set_option maxRecDepth 20000 in
theorem gc_L_law_L_act_9 : GoodIn wsL_law wsL_act_r9 := goodIn_r _ [110, 111, 112, 113, 114, 115, 116, 117, 118, 119, 120, 121, 122, 123, 124, 126, 127, 128, 129, 130, 132, 133, 257, 258] (by decide +kernel) (by decide +kernel)
set_option maxRecDepth 20000 in
theorem gc_L_law_L_act_10 : GoodIn wsL_law wsL_act_r10 := goodIn_r _ [259, 260, 168, 188, 189, 190, 191, 192, 193, 194, 195, 196, 197, 198, 199, 200, 142, 143, 144, 145, 201, 202, 203, 204] (by decide +kernel) (by decide +kernel)
set_option maxRecDepth 20000 in
theorem gc_L_law_L_act_11 : GoodIn wsL_law wsL_act_r11 := goodIn_r _ [205, 206, 207, 208, 209, 210, 211, 212, 148, 149, 150, 151, 152, 153, 154, 155, 156, 157, 158, 159, 160, 161, 162, 163] (by decide +kernel) (by decide +kernel)
set_option maxRecDepth 20000 in
theorem gc_L_law_L_act_12_0 : GoodIn wsL_law [Cond.methodLink RL 72 yX6_stamp] := goodIn_r _ [218] (by decide +kernel) (by decide +kernel)
set_option maxRecDepth 20000 in
theorem gc_L_law_L_act_12_1 : GoodIn wsL_law [Cond.instanceMethod yX6_stamp] := goodIn_r _ [219] (by decide +kernel) (by decide +kernel)
set_option maxRecDepth 20000 in
theorem gc_L_law_L_act_12_2 : GoodIn wsL_law [Cond.selects RX6 yX6_stamp yX6_stamp] := goodIn_r _ [220] (by decide +kernel) (by decide +kernel)
set_option maxRecDepth 20000 in
theorem gc_L_law_L_act_12_3 : GoodIn wsL_law [Cond.code yX6_stamp cX6_stamp 5 (some .int)] := goodIn_r _ [221] (by decide +kernel) (by decide +kernel)
set_option maxRecDepth 20000 in
theorem gc_L_law_L_act_12_4 : GoodIn wsL_law [Cond.methodLink RX6 56 yX2_giveStamp] := goodIn_r _ [222] (by decide +kernel) (by decide +kernel)
set_option maxRecDepth 20000 in
theorem gc_L_law_L_act_12_5 : GoodIn wsL_law [Cond.instanceMethod yX2_giveStamp] := goodIn_r _ [223] (by decide +kernel) (by decide +kernel)
set_option maxRecDepth 20000 in
theorem gc_L_law_L_act_12_6 : GoodIn wsL_law [Cond.selects RX2 yX2_giveStamp yX2_giveStamp] := goodIn_r _ [224] (by decide +kernel) (by decide +kernel)
set_option maxRecDepth 20000 in
theorem gc_L_law_L_act_12_7 : GoodIn wsL_law [Cond.code yX2_giveStamp cX2_giveStamp 5 (some .int)] := goodIn_r _ [225] (by decide +kernel) (by decide +kernel)
set_option maxRecDepth 20000 in
theorem gc_L_law_L_act_12_8 : GoodIn wsL_law [Cond.static yX6_areRights] := goodIn_r _ [226] (by decide +kernel) (by decide +kernel)
set_option maxRecDepth 20000 in
theorem gc_L_law_L_act_12_9 : GoodIn wsL_law [Cond.code yX6_areRights cX6_areRights 1 (some .boolean)] := goodIn_r _ [227] (by decide +kernel) (by decide +kernel)
set_option maxRecDepth 20000 in
theorem gc_L_law_L_act_12_10 : GoodIn wsL_law [Cond.methodLink RX2 106 yX4_areFull] := goodIn_r _ [228] (by decide +kernel) (by decide +kernel)
set_option maxRecDepth 20000 in
theorem gc_L_law_L_act_12_11 : GoodIn wsL_law [Cond.instanceMethod yX4_areFull] := goodIn_r _ [229] (by decide +kernel) (by decide +kernel)
set_option maxRecDepth 20000 in
theorem gc_L_law_L_act_12_12 : GoodIn wsL_law [Cond.selects RX4 yX4_areFull yX4_areFull] := goodIn_r _ [230] (by decide +kernel) (by decide +kernel)
set_option maxRecDepth 20000 in
theorem gc_L_law_L_act_12_13 : GoodIn wsL_law [Cond.code yX4_areFull cX4_areFull 1 (some .boolean)] := goodIn_r _ [231] (by decide +kernel) (by decide +kernel)
set_option maxRecDepth 20000 in
theorem gc_L_law_L_act_12_14 : GoodIn wsL_law [Cond.methodLink RX2 110 yX4_add] := goodIn_r _ [232] (by decide +kernel) (by decide +kernel)
set_option maxRecDepth 20000 in
theorem gc_L_law_L_act_12_15 : GoodIn wsL_law [Cond.instanceMethod yX4_add] := goodIn_r _ [233] (by decide +kernel) (by decide +kernel)
set_option maxRecDepth 20000 in
theorem gc_L_law_L_act_12_16 : GoodIn wsL_law [Cond.selects RX4 yX4_add yX4_add] := goodIn_r _ [234] (by decide +kernel) (by decide +kernel)
set_option maxRecDepth 20000 in
theorem gc_L_law_L_act_12_17 : GoodIn wsL_law [Cond.code yX4_add cX4_add 8 (some .int)] := goodIn_r _ [235] (by decide +kernel) (by decide +kernel)
set_option maxRecDepth 20000 in
theorem gc_L_law_L_act_12_18 : GoodIn wsL_law [Cond.methodLink RX4 44 yX4_areFull] := goodIn_r _ [236] (by decide +kernel) (by decide +kernel)
set_option maxRecDepth 20000 in
theorem gc_L_law_L_act_12_19 : GoodIn wsL_law [Cond.methodLink RL 76 yL_made] := goodIn_r _ [621] (by decide +kernel) (by decide +kernel)
set_option maxRecDepth 20000 in
theorem gc_L_law_L_act_12_20 : GoodIn wsL_law [Cond.static yL_made] := goodIn_r _ [622] (by decide +kernel) (by decide +kernel)
set_option maxRecDepth 20000 in
theorem gc_L_law_L_act_12_21 : GoodIn wsL_law [Cond.code yL_made cL_made 8 (some .boolean)] := goodIn_r _ [623] rfl (by decide +kernel)
set_option maxRecDepth 20000 in
theorem gc_L_law_L_act_12_22 : GoodIn wsL_law [Cond.methodLink RL 80 yX6_pass] := goodIn_r _ [237] (by decide +kernel) (by decide +kernel)
set_option maxRecDepth 20000 in
theorem gc_L_law_L_act_12_23 : GoodIn wsL_law [Cond.instanceMethod yX6_pass] := goodIn_r _ [238] (by decide +kernel) (by decide +kernel)
theorem gc_L_law_L_act_12 : GoodIn wsL_law wsL_act_r12 := good_cons gc_L_law_L_act_12_0 (good_cons gc_L_law_L_act_12_1 (good_cons gc_L_law_L_act_12_2 (good_cons gc_L_law_L_act_12_3 (good_cons gc_L_law_L_act_12_4 (good_cons gc_L_law_L_act_12_5 (good_cons gc_L_law_L_act_12_6 (good_cons gc_L_law_L_act_12_7 (good_cons gc_L_law_L_act_12_8 (good_cons gc_L_law_L_act_12_9 (good_cons gc_L_law_L_act_12_10 (good_cons gc_L_law_L_act_12_11 (good_cons gc_L_law_L_act_12_12 (good_cons gc_L_law_L_act_12_13 (good_cons gc_L_law_L_act_12_14 (good_cons gc_L_law_L_act_12_15 (good_cons gc_L_law_L_act_12_16 (good_cons gc_L_law_L_act_12_17 (good_cons gc_L_law_L_act_12_18 (good_cons gc_L_law_L_act_12_19 (good_cons gc_L_law_L_act_12_20 (good_cons gc_L_law_L_act_12_21 (good_cons gc_L_law_L_act_12_22 (good_cons gc_L_law_L_act_12_23 (fun _ h => absurd h List.not_mem_nil))))))))))))))))))))))))
set_option maxRecDepth 20000 in
theorem gc_L_law_L_act_13 : GoodIn wsL_law wsL_act_r13 := goodIn_r _ [239, 240, 241, 242, 243, 244, 245, 246, 247, 248, 249, 250, 251, 252, 261, 262, 263, 264, 265, 266, 267, 268, 269, 270] (by decide +kernel) (by decide +kernel)
set_option maxRecDepth 20000 in
theorem gc_L_law_L_act_14_0 : GoodIn wsL_law [Cond.selects RX0 yX0_notesOfDoor yX0_notesOfDoor] := goodIn_r _ [271] (by decide +kernel) (by decide +kernel)
set_option maxRecDepth 20000 in
theorem gc_L_law_L_act_14_1 : GoodIn wsL_law [Cond.code yX0_notesOfDoor cX0_notesOfDoor 5 (some .int)] := goodIn_r _ [272] (by decide +kernel) (by decide +kernel)
set_option maxRecDepth 20000 in
theorem gc_L_law_L_act_14_2 : GoodIn wsL_law [Cond.methodLink RL 94 yL_noted] := goodIn_r _ [624] (by decide +kernel) (by decide +kernel)
set_option maxRecDepth 20000 in
theorem gc_L_law_L_act_14_3 : GoodIn wsL_law [Cond.static yL_noted] := goodIn_r _ [625] (by decide +kernel) (by decide +kernel)
set_option maxRecDepth 20000 in
theorem gc_L_law_L_act_14_4 : GoodIn wsL_law [Cond.code yL_noted cL_noted 5 (some .boolean)] := goodIn_r _ [626] rfl (by decide +kernel)
set_option maxRecDepth 20000 in
theorem gc_L_law_L_act_14_5 : GoodIn wsL_law [Cond.methodLink RL 97 yL_come] := goodIn_r _ [627] (by decide +kernel) (by decide +kernel)
set_option maxRecDepth 20000 in
theorem gc_L_law_L_act_14_6 : GoodIn wsL_law [Cond.static yL_come] := goodIn_r _ [628] (by decide +kernel) (by decide +kernel)
set_option maxRecDepth 20000 in
theorem gc_L_law_L_act_14_7 : GoodIn wsL_law [Cond.code yL_come cL_come 19 (some .boolean)] := goodIn_r _ [629] rfl (by decide +kernel)
set_option maxRecDepth 20000 in
theorem gc_L_law_L_act_14_8 : GoodIn wsL_law [Cond.methodLink RL 111 yL_walk] := goodIn_r _ [630] (by decide +kernel) (by decide +kernel)
set_option maxRecDepth 20000 in
theorem gc_L_law_L_act_14_9 : GoodIn wsL_law [Cond.static yL_walk] := goodIn_r _ [631] (by decide +kernel) (by decide +kernel)
set_option maxRecDepth 20000 in
theorem gc_L_law_L_act_14_10 : GoodIn wsL_law [Cond.code yL_walk cL_walk 7 (some .int)] := goodIn_r _ [632] rfl (by decide +kernel)
set_option maxRecDepth 20000 in
theorem gc_L_law_L_act_14_11 : GoodIn wsL_law [Cond.methodLink RL 59 yX6_ended] := goodIn_r _ [409] (by decide +kernel) (by decide +kernel)
set_option maxRecDepth 20000 in
theorem gc_L_law_L_act_14_12 : GoodIn wsL_law [Cond.instanceMethod yX6_ended] := goodIn_r _ [410] (by decide +kernel) (by decide +kernel)
set_option maxRecDepth 20000 in
theorem gc_L_law_L_act_14_13 : GoodIn wsL_law [Cond.selects RX6 yX6_ended yX6_ended] := goodIn_r _ [411] (by decide +kernel) (by decide +kernel)
set_option maxRecDepth 20000 in
theorem gc_L_law_L_act_14_14 : GoodIn wsL_law [Cond.code yX6_ended cX6_ended 2 (some .int)] := goodIn_r _ [412] (by decide +kernel) (by decide +kernel)
set_option maxRecDepth 20000 in
theorem gc_L_law_L_act_14_15 : GoodIn wsL_law [Cond.fieldLink RX6 209 "VisaPages$House" "endings" "[I"] := goodIn_r _ [413] (by decide +kernel) (by decide +kernel)
set_option maxRecDepth 20000 in
theorem gc_L_law_L_act_14_16 : GoodIn wsL_law [Cond.methodLink RL 115 yX6_walk] := goodIn_r _ [414] (by decide +kernel) (by decide +kernel)
set_option maxRecDepth 20000 in
theorem gc_L_law_L_act_14_17 : GoodIn wsL_law [Cond.instanceMethod yX6_walk] := goodIn_r _ [415] (by decide +kernel) (by decide +kernel)
set_option maxRecDepth 20000 in
theorem gc_L_law_L_act_14_18 : GoodIn wsL_law [Cond.selects RX6 yX6_walk yX6_walk] := goodIn_r _ [416] (by decide +kernel) (by decide +kernel)
set_option maxRecDepth 20000 in
theorem gc_L_law_L_act_14_19 : GoodIn wsL_law [Cond.code yX6_walk cX6_walk 5 (some .int)] := goodIn_r _ [417] (by decide +kernel) (by decide +kernel)
set_option maxRecDepth 20000 in
theorem gc_L_law_L_act_14_20 : GoodIn wsL_law [Cond.fieldLink RX6 19 "VisaPages" "walker" "LVisaPages$Walk;"] := goodIn_r _ [16] (by decide +kernel) (by decide +kernel)
set_option maxRecDepth 20000 in
theorem gc_L_law_L_act_14_21 : GoodIn wsL_law [Cond.fieldLink RX6 219 "VisaPages$Walk" "reason" "I"] := goodIn_r _ [418] (by decide +kernel) (by decide +kernel)
set_option maxRecDepth 20000 in
theorem gc_L_law_L_act_14_22 : GoodIn wsL_law [Cond.fieldLink RX6 222 "VisaPages$Walk" "steps" "I"] := goodIn_r _ [419] (by decide +kernel) (by decide +kernel)
set_option maxRecDepth 20000 in
theorem gc_L_law_L_act_14_23 : GoodIn wsL_law [Cond.methodLink RX6 212 yX6_isNeed] := goodIn_r _ [420] (by decide +kernel) (by decide +kernel)
theorem gc_L_law_L_act_14 : GoodIn wsL_law wsL_act_r14 := good_cons gc_L_law_L_act_14_0 (good_cons gc_L_law_L_act_14_1 (good_cons gc_L_law_L_act_14_2 (good_cons gc_L_law_L_act_14_3 (good_cons gc_L_law_L_act_14_4 (good_cons gc_L_law_L_act_14_5 (good_cons gc_L_law_L_act_14_6 (good_cons gc_L_law_L_act_14_7 (good_cons gc_L_law_L_act_14_8 (good_cons gc_L_law_L_act_14_9 (good_cons gc_L_law_L_act_14_10 (good_cons gc_L_law_L_act_14_11 (good_cons gc_L_law_L_act_14_12 (good_cons gc_L_law_L_act_14_13 (good_cons gc_L_law_L_act_14_14 (good_cons gc_L_law_L_act_14_15 (good_cons gc_L_law_L_act_14_16 (good_cons gc_L_law_L_act_14_17 (good_cons gc_L_law_L_act_14_18 (good_cons gc_L_law_L_act_14_19 (good_cons gc_L_law_L_act_14_20 (good_cons gc_L_law_L_act_14_21 (good_cons gc_L_law_L_act_14_22 (good_cons gc_L_law_L_act_14_23 (fun _ h => absurd h List.not_mem_nil))))))))))))))))))))))))
set_option maxRecDepth 20000 in
theorem gc_L_law_L_act_15 : GoodIn wsL_law wsL_act_r15 := goodIn_r _ [283, 284, 421, 310, 311, 15, 312, 313, 314, 315, 316, 317, 318, 319, 320, 321, 322, 323, 324, 325, 326, 273, 274, 275] (by decide +kernel) (by decide +kernel)
set_option maxRecDepth 20000 in
theorem gc_L_law_L_act_16 : GoodIn wsL_law wsL_act_r16 := goodIn_r _ [276, 277, 278, 279, 280, 281, 282, 285, 286, 287, 288, 289, 290, 291, 292, 293, 297, 298, 299, 300, 301, 302, 303, 304] (by decide +kernel) (by decide +kernel)
set_option maxRecDepth 20000 in
theorem gc_L_law_L_act_17_0 : GoodIn wsL_law [Cond.methodLink RX0 44 yX0_add] := goodIn_r _ [305] (by decide +kernel) (by decide +kernel)
set_option maxRecDepth 20000 in
theorem gc_L_law_L_act_17_1 : GoodIn wsL_law [Cond.instanceMethod yX0_add] := goodIn_r _ [306] (by decide +kernel) (by decide +kernel)
set_option maxRecDepth 20000 in
theorem gc_L_law_L_act_17_2 : GoodIn wsL_law [Cond.selects RX0 yX0_add yX0_add] := goodIn_r _ [307] (by decide +kernel) (by decide +kernel)
set_option maxRecDepth 20000 in
theorem gc_L_law_L_act_17_3 : GoodIn wsL_law [Cond.code yX0_add cX0_add 5 none] := goodIn_r _ [308] (by decide +kernel) (by decide +kernel)
set_option maxRecDepth 20000 in
theorem gc_L_law_L_act_17_4 : GoodIn wsL_law [Cond.methodLink RX2 160 yX5_go] := goodIn_r _ [309] (by decide +kernel) (by decide +kernel)
set_option maxRecDepth 20000 in
theorem gc_L_law_L_act_17_5 : GoodIn wsL_law [Cond.methodLink RX2 170 yX2_addNote] := goodIn_r _ [327] (by decide +kernel) (by decide +kernel)
set_option maxRecDepth 20000 in
theorem gc_L_law_L_act_17_6 : GoodIn wsL_law [Cond.instanceMethod yX2_addNote] := goodIn_r _ [328] (by decide +kernel) (by decide +kernel)
set_option maxRecDepth 20000 in
theorem gc_L_law_L_act_17_7 : GoodIn wsL_law [Cond.selects RX2 yX2_addNote yX2_addNote] := goodIn_r _ [329] (by decide +kernel) (by decide +kernel)
set_option maxRecDepth 20000 in
theorem gc_L_law_L_act_17_8 : GoodIn wsL_law [Cond.code yX2_addNote cX2_addNote 5 none] := goodIn_r _ [330] (by decide +kernel) (by decide +kernel)
set_option maxRecDepth 20000 in
theorem gc_L_law_L_act_17_9 : GoodIn wsL_law [Cond.methodLink RX2 84 yX0_dropDownTo] := goodIn_r _ [138] (by decide +kernel) (by decide +kernel)
set_option maxRecDepth 20000 in
theorem gc_L_law_L_act_17_10 : GoodIn wsL_law [Cond.instanceMethod yX0_dropDownTo] := goodIn_r _ [139] (by decide +kernel) (by decide +kernel)
set_option maxRecDepth 20000 in
theorem gc_L_law_L_act_17_11 : GoodIn wsL_law [Cond.selects RX0 yX0_dropDownTo yX0_dropDownTo] := goodIn_r _ [140] (by decide +kernel) (by decide +kernel)
set_option maxRecDepth 20000 in
theorem gc_L_law_L_act_17_12 : GoodIn wsL_law [Cond.code yX0_dropDownTo cX0_dropDownTo 2 none] := goodIn_r _ [141] (by decide +kernel) (by decide +kernel)
set_option maxRecDepth 20000 in
theorem gc_L_law_L_act_17_13 : GoodIn wsL_law [Cond.methodLink RX2 184 yX0_add] := goodIn_r _ [331] (by decide +kernel) (by decide +kernel)
set_option maxRecDepth 20000 in
theorem gc_L_law_L_act_17_14 : GoodIn wsL_law [Cond.methodLink RL 100 yL_text] := goodIn_r _ [633] (by decide +kernel) (by decide +kernel)
set_option maxRecDepth 20000 in
theorem gc_L_law_L_act_17_15 : GoodIn wsL_law [Cond.static yL_text] := goodIn_r _ [634] (by decide +kernel) (by decide +kernel)
set_option maxRecDepth 20000 in
theorem gc_L_law_L_act_17_16 : GoodIn wsL_law [Cond.code yL_text cL_text 20 (some .boolean)] := goodIn_r _ [635] rfl (by decide +kernel)
set_option maxRecDepth 20000 in
theorem gc_L_law_L_act_17_17 : GoodIn wsL_law [Cond.methodLink RL 123 yX6_wipe] := goodIn_r _ [636] (by decide +kernel) (by decide +kernel)
set_option maxRecDepth 20000 in
theorem gc_L_law_L_act_17_18 : GoodIn wsL_law [Cond.instanceMethod yX6_wipe] := goodIn_r _ [637] (by decide +kernel) (by decide +kernel)
set_option maxRecDepth 20000 in
theorem gc_L_law_L_act_17_19 : GoodIn wsL_law [Cond.selects RX6 yX6_wipe yX6_wipe] := goodIn_r _ [638] (by decide +kernel) (by decide +kernel)
set_option maxRecDepth 20000 in
theorem gc_L_law_L_act_17_20 : GoodIn wsL_law [Cond.code yX6_wipe cX6_wipe 1 (some .int)] := goodIn_r _ [639] (by decide +kernel) (by decide +kernel)
set_option maxRecDepth 20000 in
theorem gc_L_law_L_act_17_21 : GoodIn wsL_law [Cond.methodLink RX6 238 yX3_clear] := goodIn_r _ [585] (by decide +kernel) (by decide +kernel)
set_option maxRecDepth 20000 in
theorem gc_L_law_L_act_17_22 : GoodIn wsL_law [Cond.instanceMethod yX3_clear] := goodIn_r _ [586] (by decide +kernel) (by decide +kernel)
set_option maxRecDepth 20000 in
theorem gc_L_law_L_act_17_23 : GoodIn wsL_law [Cond.selects RX3 yX3_clear yX3_clear] := goodIn_r _ [587] (by decide +kernel) (by decide +kernel)
theorem gc_L_law_L_act_17 : GoodIn wsL_law wsL_act_r17 := good_cons gc_L_law_L_act_17_0 (good_cons gc_L_law_L_act_17_1 (good_cons gc_L_law_L_act_17_2 (good_cons gc_L_law_L_act_17_3 (good_cons gc_L_law_L_act_17_4 (good_cons gc_L_law_L_act_17_5 (good_cons gc_L_law_L_act_17_6 (good_cons gc_L_law_L_act_17_7 (good_cons gc_L_law_L_act_17_8 (good_cons gc_L_law_L_act_17_9 (good_cons gc_L_law_L_act_17_10 (good_cons gc_L_law_L_act_17_11 (good_cons gc_L_law_L_act_17_12 (good_cons gc_L_law_L_act_17_13 (good_cons gc_L_law_L_act_17_14 (good_cons gc_L_law_L_act_17_15 (good_cons gc_L_law_L_act_17_16 (good_cons gc_L_law_L_act_17_17 (good_cons gc_L_law_L_act_17_18 (good_cons gc_L_law_L_act_17_19 (good_cons gc_L_law_L_act_17_20 (good_cons gc_L_law_L_act_17_21 (good_cons gc_L_law_L_act_17_22 (good_cons gc_L_law_L_act_17_23 (fun _ h => absurd h List.not_mem_nil))))))))))))))))))))))))
set_option maxRecDepth 20000 in
theorem gc_L_law_L_act_18_0 : GoodIn wsL_law [Cond.initialized RX3] := goodIn_r _ [19] (by decide +kernel) (by decide +kernel)
set_option maxRecDepth 20000 in
theorem gc_L_law_L_act_18_1 : GoodIn wsL_law [Cond.code yX3_clear cX3_clear 2 (some .int)] := goodIn_r _ [588] (by decide +kernel) (by decide +kernel)
set_option maxRecDepth 20000 in
theorem gc_L_law_L_act_18_2 : GoodIn wsL_law [Cond.fieldLink RX3 23 "VisaPages$Pad" "length" "I"] := goodIn_r _ [459] (by decide +kernel) (by decide +kernel)
set_option maxRecDepth 20000 in
theorem gc_L_law_L_act_18_3 : GoodIn wsL_law [Cond.methodLink RL 126 yL_type] := goodIn_r _ [640] (by decide +kernel) (by decide +kernel)
set_option maxRecDepth 20000 in
theorem gc_L_law_L_act_18_4 : GoodIn wsL_law [Cond.static yL_type] := goodIn_r _ [641] (by decide +kernel) (by decide +kernel)
set_option maxRecDepth 20000 in
theorem gc_L_law_L_act_18_5 : GoodIn wsL_law [Cond.code yL_type cL_type 11 (some .boolean)] := goodIn_r _ [642] rfl (by decide +kernel)
set_option maxRecDepth 20000 in
theorem gc_L_law_L_act_18_6 : GoodIn wsL_law [Cond.methodLink RL 119 yX6_put] := goodIn_r _ [451] (by decide +kernel) (by decide +kernel)
set_option maxRecDepth 20000 in
theorem gc_L_law_L_act_18_7 : GoodIn wsL_law [Cond.instanceMethod yX6_put] := goodIn_r _ [452] (by decide +kernel) (by decide +kernel)
set_option maxRecDepth 20000 in
theorem gc_L_law_L_act_18_8 : GoodIn wsL_law [Cond.selects RX6 yX6_put yX6_put] := goodIn_r _ [453] (by decide +kernel) (by decide +kernel)
set_option maxRecDepth 20000 in
theorem gc_L_law_L_act_18_9 : GoodIn wsL_law [Cond.code yX6_put cX6_put 3 (some .int)] := goodIn_r _ [454] (by decide +kernel) (by decide +kernel)
set_option maxRecDepth 20000 in
theorem gc_L_law_L_act_18_10 : GoodIn wsL_law [Cond.methodLink RX6 235 yX3_append] := goodIn_r _ [455] (by decide +kernel) (by decide +kernel)
set_option maxRecDepth 20000 in
theorem gc_L_law_L_act_18_11 : GoodIn wsL_law [Cond.instanceMethod yX3_append] := goodIn_r _ [456] (by decide +kernel) (by decide +kernel)
set_option maxRecDepth 20000 in
theorem gc_L_law_L_act_18_12 : GoodIn wsL_law [Cond.selects RX3 yX3_append yX3_append] := goodIn_r _ [457] (by decide +kernel) (by decide +kernel)
set_option maxRecDepth 20000 in
theorem gc_L_law_L_act_18_13 : GoodIn wsL_law [Cond.code yX3_append cX3_append 5 (some .int)] := goodIn_r _ [458] (by decide +kernel) (by decide +kernel)
set_option maxRecDepth 20000 in
theorem gc_L_law_L_act_18_14 : GoodIn wsL_law [Cond.fieldLink RX3 9 "VisaPages$Pad" "text" "[C"] := goodIn_r _ [75] (by decide +kernel) (by decide +kernel)
set_option maxRecDepth 20000 in
theorem gc_L_law_L_act_18_15 : GoodIn wsL_law [Cond.methodLink RX3 19 yX3_countSigns] := goodIn_r _ [460] (by decide +kernel) (by decide +kernel)
set_option maxRecDepth 20000 in
theorem gc_L_law_L_act_18_16 : GoodIn wsL_law [Cond.static yX3_countSigns] := goodIn_r _ [461] (by decide +kernel) (by decide +kernel)
set_option maxRecDepth 20000 in
theorem gc_L_law_L_act_18_17 : GoodIn wsL_law [Cond.code yX3_countSigns cX3_countSigns 4 (some .int)] := goodIn_r _ [462] (by decide +kernel) (by decide +kernel)
set_option maxRecDepth 20000 in
theorem gc_L_law_L_act_18_18 : GoodIn wsL_law [Cond.methodLink RX3 27 yX3_signAt] := goodIn_r _ [463] (by decide +kernel) (by decide +kernel)
set_option maxRecDepth 20000 in
theorem gc_L_law_L_act_18_19 : GoodIn wsL_law [Cond.static yX3_signAt] := goodIn_r _ [464] (by decide +kernel) (by decide +kernel)
set_option maxRecDepth 20000 in
theorem gc_L_law_L_act_18_20 : GoodIn wsL_law [Cond.code yX3_signAt cX3_signAt 3 (some .int)] := goodIn_r _ [465] (by decide +kernel) (by decide +kernel)
set_option maxRecDepth 20000 in
theorem gc_L_law_L_act_18_21 : GoodIn wsL_law [Cond.constantLong RX3 31 (255)] := goodIn_r _ [466] (by decide +kernel) (by decide +kernel)
set_option maxRecDepth 20000 in
theorem gc_L_law_L_act_18_22 : GoodIn wsL_law [Cond.methodLink RL 130 yX6_fault] := goodIn_r _ [643] (by decide +kernel) (by decide +kernel)
set_option maxRecDepth 20000 in
theorem gc_L_law_L_act_18_23 : GoodIn wsL_law [Cond.instanceMethod yX6_fault] := goodIn_r _ [644] (by decide +kernel) (by decide +kernel)
theorem gc_L_law_L_act_18 : GoodIn wsL_law wsL_act_r18 := good_cons gc_L_law_L_act_18_0 (good_cons gc_L_law_L_act_18_1 (good_cons gc_L_law_L_act_18_2 (good_cons gc_L_law_L_act_18_3 (good_cons gc_L_law_L_act_18_4 (good_cons gc_L_law_L_act_18_5 (good_cons gc_L_law_L_act_18_6 (good_cons gc_L_law_L_act_18_7 (good_cons gc_L_law_L_act_18_8 (good_cons gc_L_law_L_act_18_9 (good_cons gc_L_law_L_act_18_10 (good_cons gc_L_law_L_act_18_11 (good_cons gc_L_law_L_act_18_12 (good_cons gc_L_law_L_act_18_13 (good_cons gc_L_law_L_act_18_14 (good_cons gc_L_law_L_act_18_15 (good_cons gc_L_law_L_act_18_16 (good_cons gc_L_law_L_act_18_17 (good_cons gc_L_law_L_act_18_18 (good_cons gc_L_law_L_act_18_19 (good_cons gc_L_law_L_act_18_20 (good_cons gc_L_law_L_act_18_21 (good_cons gc_L_law_L_act_18_22 (good_cons gc_L_law_L_act_18_23 (fun _ h => absurd h List.not_mem_nil))))))))))))))))))))))))
set_option maxRecDepth 20000 in
theorem gc_L_law_L_act_19 : GoodIn wsL_law wsL_act_r19 := goodIn_r _ [645, 646, 471, 472, 473, 474, 475, 476, 477, 478, 479, 480, 481, 482, 483, 484, 485, 486, 487, 488, 489, 490, 491, 492] (by decide +kernel) (by decide +kernel)
set_option maxRecDepth 20000 in
theorem gc_L_law_L_act_20 : GoodIn wsL_law wsL_act_r20 := goodIn_r _ [493, 494, 495, 496, 497, 498, 499, 500, 501, 502, 503, 504, 505, 506, 507, 508, 509, 510, 511, 512, 513, 514, 515, 516] (by decide +kernel) (by decide +kernel)
set_option maxRecDepth 20000 in
theorem gc_L_law_L_act_21 : GoodIn wsL_law wsL_act_r21 := goodIn_r _ [517, 518, 519, 520, 521, 522, 523, 524, 525, 526, 527, 528, 529, 530, 531, 532, 533, 534, 535, 536, 537, 538, 539, 540] (by decide +kernel) (by decide +kernel)
set_option maxRecDepth 20000 in
theorem gc_L_law_L_act_22 : GoodIn wsL_law wsL_act_r22 := goodIn_r _ [541, 542, 543, 544, 545, 546, 547, 548, 549, 550, 551, 552, 553, 554, 555, 556, 557, 76, 558, 559, 560, 561, 562, 563] (by decide +kernel) (by decide +kernel)
set_option maxRecDepth 20000 in
theorem gc_L_law_L_act_23_0 : GoodIn wsL_law [Cond.selects RX3 yX3_readNeed yX3_readNeed] := goodIn_r _ [564] (by decide +kernel) (by decide +kernel)
set_option maxRecDepth 20000 in
theorem gc_L_law_L_act_23_1 : GoodIn wsL_law [Cond.code yX3_readNeed cX3_readNeed 1 (some .boolean)] := goodIn_r _ [565] (by decide +kernel) (by decide +kernel)
set_option maxRecDepth 20000 in
theorem gc_L_law_L_act_23_2 : GoodIn wsL_law [Cond.methodLink RX3 101 yX3_readItself] := goodIn_r _ [566] (by decide +kernel) (by decide +kernel)
set_option maxRecDepth 20000 in
theorem gc_L_law_L_act_23_3 : GoodIn wsL_law [Cond.instanceMethod yX3_readItself] := goodIn_r _ [567] (by decide +kernel) (by decide +kernel)
set_option maxRecDepth 20000 in
theorem gc_L_law_L_act_23_4 : GoodIn wsL_law [Cond.selects RX3 yX3_readItself yX3_readItself] := goodIn_r _ [568] (by decide +kernel) (by decide +kernel)
set_option maxRecDepth 20000 in
theorem gc_L_law_L_act_23_5 : GoodIn wsL_law [Cond.code yX3_readItself cX3_readItself 2 (some .boolean)] := goodIn_r _ [569] (by decide +kernel) (by decide +kernel)
set_option maxRecDepth 20000 in
theorem gc_L_law_L_act_23_6 : GoodIn wsL_law [Cond.methodLink RL 133 yL_print] := goodIn_r _ [647] (by decide +kernel) (by decide +kernel)
set_option maxRecDepth 20000 in
theorem gc_L_law_L_act_23_7 : GoodIn wsL_law [Cond.static yL_print] := goodIn_r _ [648] (by decide +kernel) (by decide +kernel)
set_option maxRecDepth 20000 in
theorem gc_L_law_L_act_23_8 : GoodIn wsL_law [Cond.code yL_print cL_print 5 (some .long)] := goodIn_r _ [649] rfl (by decide +kernel)
set_option maxRecDepth 20000 in
theorem gc_L_law_L_act_23_9 : GoodIn wsL_law [Cond.constantLong RL 39 (7)] := goodIn_r _ [650] (by decide +kernel) (by decide +kernel)
set_option maxRecDepth 20000 in
theorem gc_L_law_L_act_23_10 : GoodIn wsL_law [Cond.constantLong RL 41 (31)] := goodIn_r _ [651] (by decide +kernel) (by decide +kernel)
set_option maxRecDepth 20000 in
theorem gc_L_law_L_act_23_11 : GoodIn wsL_law [Cond.methodLink RL 137 yX6_carryOut] := goodIn_r _ [467] (by decide +kernel) (by decide +kernel)
set_option maxRecDepth 20000 in
theorem gc_L_law_L_act_23_12 : GoodIn wsL_law [Cond.instanceMethod yX6_carryOut] := goodIn_r _ [468] (by decide +kernel) (by decide +kernel)
set_option maxRecDepth 20000 in
theorem gc_L_law_L_act_23_13 : GoodIn wsL_law [Cond.selects RX6 yX6_carryOut yX6_carryOut] := goodIn_r _ [469] (by decide +kernel) (by decide +kernel)
set_option maxRecDepth 20000 in
theorem gc_L_law_L_act_23_14 : GoodIn wsL_law [Cond.code yX6_carryOut cX6_carryOut 2 (some .int)] := goodIn_r _ [470] (by decide +kernel) (by decide +kernel)
set_option maxRecDepth 20000 in
theorem gc_L_law_L_act_23_15 : GoodIn wsL_law [Cond.methodLink RX6 244 yX3_startReading] := goodIn_r _ [570] (by decide +kernel) (by decide +kernel)
set_option maxRecDepth 20000 in
theorem gc_L_law_L_act_23_16 : GoodIn wsL_law [Cond.methodLink RX6 247 yX3_readOrder] := goodIn_r _ [571] (by decide +kernel) (by decide +kernel)
set_option maxRecDepth 20000 in
theorem gc_L_law_L_act_23_17 : GoodIn wsL_law [Cond.methodLink RX6 251 yX2_follow] := goodIn_r _ [572] (by decide +kernel) (by decide +kernel)
set_option maxRecDepth 20000 in
theorem gc_L_law_L_act_23_18 : GoodIn wsL_law [Cond.instanceMethod yX2_follow] := goodIn_r _ [573] (by decide +kernel) (by decide +kernel)
set_option maxRecDepth 20000 in
theorem gc_L_law_L_act_23_19 : GoodIn wsL_law [Cond.selects RX2 yX2_follow yX2_follow] := goodIn_r _ [574] (by decide +kernel) (by decide +kernel)
set_option maxRecDepth 20000 in
theorem gc_L_law_L_act_23_20 : GoodIn wsL_law [Cond.code yX2_follow cX2_follow 4 (some .int)] := goodIn_r _ [575] (by decide +kernel) (by decide +kernel)
set_option maxRecDepth 20000 in
theorem gc_L_law_L_act_23_21 : GoodIn wsL_law [Cond.fieldLink RX2 187 "VisaPages$Pad" "values" "[I"] := goodIn_r _ [576] (by decide +kernel) (by decide +kernel)
set_option maxRecDepth 20000 in
theorem gc_L_law_L_act_23_22 : GoodIn wsL_law [Cond.fieldLink RX2 192 "VisaPages$Pad" "kind" "C"] := goodIn_r _ [577] (by decide +kernel) (by decide +kernel)
set_option maxRecDepth 20000 in
theorem gc_L_law_L_act_23_23 : GoodIn wsL_law [Cond.methodLink RX2 196 yX2_changeOwner] := goodIn_r _ [578] (by decide +kernel) (by decide +kernel)
theorem gc_L_law_L_act_23 : GoodIn wsL_law wsL_act_r23 := good_cons gc_L_law_L_act_23_0 (good_cons gc_L_law_L_act_23_1 (good_cons gc_L_law_L_act_23_2 (good_cons gc_L_law_L_act_23_3 (good_cons gc_L_law_L_act_23_4 (good_cons gc_L_law_L_act_23_5 (good_cons gc_L_law_L_act_23_6 (good_cons gc_L_law_L_act_23_7 (good_cons gc_L_law_L_act_23_8 (good_cons gc_L_law_L_act_23_9 (good_cons gc_L_law_L_act_23_10 (good_cons gc_L_law_L_act_23_11 (good_cons gc_L_law_L_act_23_12 (good_cons gc_L_law_L_act_23_13 (good_cons gc_L_law_L_act_23_14 (good_cons gc_L_law_L_act_23_15 (good_cons gc_L_law_L_act_23_16 (good_cons gc_L_law_L_act_23_17 (good_cons gc_L_law_L_act_23_18 (good_cons gc_L_law_L_act_23_19 (good_cons gc_L_law_L_act_23_20 (good_cons gc_L_law_L_act_23_21 (good_cons gc_L_law_L_act_23_22 (good_cons gc_L_law_L_act_23_23 (fun _ h => absurd h List.not_mem_nil))))))))))))))))))))))))
set_option maxRecDepth 20000 in
theorem gc_L_law_L_act_24 : GoodIn wsL_law wsL_act_r24 := goodIn_r _ [579, 580, 581, 582, 583, 584, 601, 602, 603, 604, 605, 606, 607, 608, 96, 97, 98, 99, 134, 135, 136, 137, 652, 653] (by decide +kernel) (by decide +kernel)
set_option maxRecDepth 20000 in
theorem gc_L_law_L_act_25 : GoodIn wsL_law wsL_act_r25 := goodIn_r _ [654, 655, 656, 657] (by decide +kernel) (by decide +kernel)
set_option maxRecDepth 20000 in
theorem gc_L_law_L_act_h : GoodIn wsL_law [.code yL_act cL_act 15 (some .boolean)] := goodIn_r _ [611] rfl (by decide +kernel)
set_option maxRecDepth 20000 in
theorem gc_L_law_L_act_x6 : GoodIn wsL_law wsX60 := goodIn_r _ [667, 668, 669, 670, 671] (by decide +kernel) (by decide +kernel)
set_option maxRecDepth 20000 in
theorem gc_L_law_L_act_x2 : GoodIn wsL_law wsX20 := goodIn_r _ [672, 673, 674, 675, 676, 677, 678, 679, 680, 681] (by decide +kernel) (by decide +kernel)
set_option maxRecDepth 20000 in
theorem gc_L_law_L_act_x4 : GoodIn wsL_law wsX40 := goodIn_r _ [692, 693, 694, 695, 696, 697, 698, 699] (by decide +kernel) (by decide +kernel)
set_option maxRecDepth 20000 in
theorem gc_L_law_L_act_x0 : GoodIn wsL_law wsX00 := goodIn_r _ [700, 701, 702, 703, 704, 705, 706] (by decide +kernel) (by decide +kernel)
set_option maxRecDepth 20000 in
theorem gc_L_law_L_act_x3 : GoodIn wsL_law wsX30 := goodIn_r _ [684, 685, 686, 687, 688, 689] (by decide +kernel) (by decide +kernel)
set_option maxRecDepth 20000 in
theorem gc_L_law_L_act_x1 : GoodIn wsL_law wsX10 := goodIn_r _ [690, 691] (by decide +kernel) (by decide +kernel)
set_option maxRecDepth 20000 in
theorem gc_L_law_L_act_x5 : GoodIn wsL_law wsX50 := goodIn_r _ [682, 683] (by decide +kernel) (by decide +kernel)
theorem ggL_law_L_act : GoodIn wsL_law wsL_act := good_cons gc_L_law_L_act_h (good_app (good_app (good_app (good_app (good_app (good_app (good_app (good_app gc_L_law_L_act_1 (good_app gc_L_law_L_act_2 (good_app gc_L_law_L_act_3 (good_app gc_L_law_L_act_4 (good_app gc_L_law_L_act_5 (good_app gc_L_law_L_act_6 (good_app gc_L_law_L_act_7 (good_app gc_L_law_L_act_8 (good_app gc_L_law_L_act_9 (good_app gc_L_law_L_act_10 (good_app gc_L_law_L_act_11 (good_app gc_L_law_L_act_12 (good_app gc_L_law_L_act_13 (good_app gc_L_law_L_act_14 (good_app gc_L_law_L_act_15 (good_app gc_L_law_L_act_16 (good_app gc_L_law_L_act_17 (good_app gc_L_law_L_act_18 (good_app gc_L_law_L_act_19 (good_app gc_L_law_L_act_20 (good_app gc_L_law_L_act_21 (good_app gc_L_law_L_act_22 (good_app gc_L_law_L_act_23 (good_app gc_L_law_L_act_24 (gc_L_law_L_act_25))))))))))))))))))))))))) gc_L_law_L_act_x6) gc_L_law_L_act_x2) gc_L_law_L_act_x4) gc_L_law_L_act_x0) gc_L_law_L_act_x3) gc_L_law_L_act_x1) gc_L_law_L_act_x5)
