set_option maxRecDepth 20000 in
theorem gL_back_X6_forge : GoodIn wsL_back (wsV RL 87 RX6 yX6_forge wsX6_forge) := goodIn_app (goodIn_of _ (by decide +kernel)) ggL_back_X6_forge
set_option maxRecDepth 20000 in
theorem gc_L_back_X6_takeBack_1 : GoodIn wsL_back wsX6_takeBack_r1 := goodIn_r _ [79, 12, 217, 218, 219, 220, 221, 222, 223, 224, 146, 21, 225, 151, 152, 153, 154, 155, 156, 36, 116, 157, 158, 159] (by decide +kernel) (by decide +kernel)
set_option maxRecDepth 20000 in
theorem gc_L_back_X6_takeBack_2 : GoodIn wsL_back wsX6_takeBack_r2 := goodIn_r _ [160, 161, 162, 163, 164, 165, 166, 42, 23, 167, 168, 128, 169, 170, 171, 172, 55, 173, 174, 175, 98, 176, 177, 178] (by decide +kernel) (by decide +kernel)
set_option maxRecDepth 20000 in
theorem gc_L_back_X6_takeBack_3 : GoodIn wsL_back wsX6_takeBack_r3 := goodIn_r _ [179, 180, 181, 182, 183, 184, 185, 186, 226, 188, 189, 190, 191, 192, 193, 194, 195, 196, 197, 198, 199, 200, 201, 202] (by decide +kernel) (by decide +kernel)
set_option maxRecDepth 20000 in
theorem gc_L_back_X6_takeBack_4 : GoodIn wsL_back wsX6_takeBack_r4 := goodIn_r _ [203, 204, 205, 44, 206, 207, 208, 209, 210, 130, 211, 212, 298, 299, 300, 301, 27, 34, 39, 40, 41, 43, 28, 10] (by decide +kernel) (by decide +kernel)
set_option maxRecDepth 20000 in
theorem gc_L_back_X6_takeBack_5 : GoodIn wsL_back wsX6_takeBack_r5 := goodIn_r _ [29, 231, 19, 20, 22, 24, 25, 26, 30, 31, 32, 33, 35, 37, 38, 16, 17, 232, 233, 234, 235, 236, 237, 238] (by decide +kernel) (by decide +kernel)
set_option maxRecDepth 20000 in
theorem gc_L_back_X6_takeBack_6 : GoodIn wsL_back wsX6_takeBack_r6 := goodIn_r _ [239, 240, 241, 242, 243, 244, 245, 246, 247, 248, 249, 250, 251, 252, 253, 254, 255, 256, 257, 258, 259, 260, 113, 114] (by decide +kernel) (by decide +kernel)
set_option maxRecDepth 20000 in
theorem gc_L_back_X6_takeBack_7 : GoodIn wsL_back wsX6_takeBack_r7 := goodIn_r _ [115, 110, 111, 261, 262, 263, 264, 265, 266, 267, 268] (by decide +kernel) (by decide +kernel)
set_option maxRecDepth 20000 in
theorem gc_L_back_X6_takeBack_h : GoodIn wsL_back [.code yX6_takeBack cX6_takeBack 2 (some .int)] := goodIn_r _ [297] (by decide +kernel) (by decide +kernel)
set_option maxRecDepth 20000 in
theorem gc_L_back_X6_takeBack_x6 : GoodIn wsL_back wsX60 := goodIn_r _ [376, 377, 378, 379, 380] (by decide +kernel) (by decide +kernel)
set_option maxRecDepth 20000 in
theorem gc_L_back_X6_takeBack_x1 : GoodIn wsL_back wsX10 := goodIn_r _ [412, 413] (by decide +kernel) (by decide +kernel)
set_option maxRecDepth 20000 in
theorem gc_L_back_X6_takeBack_x2 : GoodIn wsL_back wsX20 := goodIn_r _ [381, 382, 383, 384, 385, 386, 387, 388, 389, 390] (by decide +kernel) (by decide +kernel)
set_option maxRecDepth 20000 in
theorem gc_L_back_X6_takeBack_x4 : GoodIn wsL_back wsX40 := goodIn_r _ [391, 392, 393, 394, 395, 396, 397, 398] (by decide +kernel) (by decide +kernel)
set_option maxRecDepth 20000 in
theorem gc_L_back_X6_takeBack_x0 : GoodIn wsL_back wsX00 := goodIn_r _ [399, 400, 401, 402, 403, 404, 405] (by decide +kernel) (by decide +kernel)
theorem ggL_back_X6_takeBack : GoodIn wsL_back wsX6_takeBack := good_cons gc_L_back_X6_takeBack_h (good_app (good_app (good_app (good_app (good_app (good_app gc_L_back_X6_takeBack_1 (good_app gc_L_back_X6_takeBack_2 (good_app gc_L_back_X6_takeBack_3 (good_app gc_L_back_X6_takeBack_4 (good_app gc_L_back_X6_takeBack_5 (good_app gc_L_back_X6_takeBack_6 (gc_L_back_X6_takeBack_7))))))) gc_L_back_X6_takeBack_x6) gc_L_back_X6_takeBack_x1) gc_L_back_X6_takeBack_x2) gc_L_back_X6_takeBack_x4) gc_L_back_X6_takeBack_x0)
set_option maxRecDepth 20000 in
theorem gL_back_X6_takeBack : GoodIn wsL_back (wsV RL 69 RX6 yX6_takeBack wsX6_takeBack) := goodIn_app (goodIn_of _ (by decide +kernel)) ggL_back_X6_takeBack
set_option maxRecDepth 20000 in
theorem gc_L_back_X6_come_1 : GoodIn wsL_back wsX6_come_r1 := goodIn_r _ [79, 12, 306, 217, 218, 219, 220, 221, 222, 223, 224, 146, 21, 225, 151, 152, 153, 154, 155, 156, 36, 116, 157, 158] (by decide +kernel) (by decide +kernel)
set_option maxRecDepth 20000 in
theorem gc_L_back_X6_come_2 : GoodIn wsL_back wsX6_come_r2 := goodIn_r _ [159, 160, 161, 162, 163, 164, 165, 166, 42, 23, 167, 168, 128, 169, 170, 171, 172, 55, 173, 174, 175, 98, 176, 177] (by decide +kernel) (by decide +kernel)
set_option maxRecDepth 20000 in
theorem gc_L_back_X6_come_3 : GoodIn wsL_back wsX6_come_r3 := goodIn_r _ [178, 179, 180, 181, 182, 183, 184, 185, 186, 226, 188, 189, 190, 191, 192, 193, 194, 195, 196, 197, 198, 199, 200, 201] (by decide +kernel) (by decide +kernel)
set_option maxRecDepth 20000 in
theorem gc_L_back_X6_come_4 : GoodIn wsL_back wsX6_come_r4 := goodIn_r _ [202, 203, 204, 205, 44, 206, 207, 208, 209, 210, 130, 211, 212, 307, 308, 309, 310, 311, 312, 110, 10, 111, 313, 314] (by decide +kernel) (by decide +kernel)
set_option maxRecDepth 20000 in
theorem gc_L_back_X6_come_5 : GoodIn wsL_back wsX6_come_r5 := goodIn_r _ [315, 316, 317, 318, 237, 238, 239, 240, 241, 242, 243, 244, 245, 246, 247, 248, 28, 29, 319, 320, 321, 322, 323, 126] (by decide +kernel) (by decide +kernel)
set_option maxRecDepth 20000 in
theorem gc_L_back_X6_come_6 : GoodIn wsL_back wsX6_come_r6 := goodIn_r _ [127, 129, 324, 325, 326, 327, 328, 329, 330, 331, 332, 333, 334, 335, 336, 337, 338, 339, 340, 341, 342, 343, 344, 345] (by decide +kernel) (by decide +kernel)
set_option maxRecDepth 20000 in
theorem gc_L_back_X6_come_7 : GoodIn wsL_back wsX6_come_r7 := goodIn_r _ [113, 114, 115, 346, 40, 41, 43, 347, 348, 349, 350, 351, 352, 353, 354, 31, 32, 33, 25, 34, 35, 37, 38, 39] (by decide +kernel) (by decide +kernel)
set_option maxRecDepth 20000 in
theorem gc_L_back_X6_come_8 : GoodIn wsL_back wsX6_come_r8 := goodIn_r _ [16, 17, 355, 356, 357, 358, 260, 359, 360, 361, 362, 363, 261, 262, 263, 264, 265, 266, 267, 268] (by decide +kernel) (by decide +kernel)
set_option maxRecDepth 20000 in
theorem gc_L_back_X6_come_h : GoodIn wsL_back [.code yX6_come cX6_come 4 (some .int)] := goodIn_r _ [305] (by decide +kernel) (by decide +kernel)
set_option maxRecDepth 20000 in
theorem gc_L_back_X6_come_x6 : GoodIn wsL_back wsX60 := goodIn_r _ [376, 377, 378, 379, 380] (by decide +kernel) (by decide +kernel)
set_option maxRecDepth 20000 in
theorem gc_L_back_X6_come_x1 : GoodIn wsL_back wsX10 := goodIn_r _ [412, 413] (by decide +kernel) (by decide +kernel)
set_option maxRecDepth 20000 in
theorem gc_L_back_X6_come_x2 : GoodIn wsL_back wsX20 := goodIn_r _ [381, 382, 383, 384, 385, 386, 387, 388, 389, 390] (by decide +kernel) (by decide +kernel)
set_option maxRecDepth 20000 in
theorem gc_L_back_X6_come_x4 : GoodIn wsL_back wsX40 := goodIn_r _ [391, 392, 393, 394, 395, 396, 397, 398] (by decide +kernel) (by decide +kernel)
set_option maxRecDepth 20000 in
theorem gc_L_back_X6_come_x0 : GoodIn wsL_back wsX00 := goodIn_r _ [399, 400, 401, 402, 403, 404, 405] (by decide +kernel) (by decide +kernel)
set_option maxRecDepth 20000 in
theorem gc_L_back_X6_come_x5 : GoodIn wsL_back wsX50 := goodIn_r _ [414, 415] (by decide +kernel) (by decide +kernel)
theorem ggL_back_X6_come : GoodIn wsL_back wsX6_come := good_cons gc_L_back_X6_come_h (good_app (good_app (good_app (good_app (good_app (good_app (good_app gc_L_back_X6_come_1 (good_app gc_L_back_X6_come_2 (good_app gc_L_back_X6_come_3 (good_app gc_L_back_X6_come_4 (good_app gc_L_back_X6_come_5 (good_app gc_L_back_X6_come_6 (good_app gc_L_back_X6_come_7 (gc_L_back_X6_come_8)))))))) gc_L_back_X6_come_x6) gc_L_back_X6_come_x1) gc_L_back_X6_come_x2) gc_L_back_X6_come_x4) gc_L_back_X6_come_x0) gc_L_back_X6_come_x5)
set_option maxRecDepth 20000 in
theorem gL_back_X6_come : GoodIn wsL_back (wsV RL 117 RX6 yX6_come wsX6_come) := goodIn_app (goodIn_of _ (by decide +kernel)) ggL_back_X6_come
set_option maxRecDepth 20000 in
theorem ggL_back_X6_undo : GoodIn wsL_back wsX6_undo := goodIn_r _ [367, 79, 12, 368, 369, 370, 220, 371, 223, 222, 226, 188, 189, 21, 190, 36, 191, 192, 193, 194, 116, 163, 164, 23, 169, 195, 196, 197, 198, 199, 200, 201, 42, 202, 55, 203, 173, 174, 175, 98, 204, 205, 44, 206, 207, 208, 128, 209, 179, 210, 180, 181, 182, 130, 211, 212, 376, 377, 378, 379, 380, 412, 413, 381, 382, 383, 384, 385, 386, 387, 388, 389, 390, 391, 392, 393, 394, 395, 396, 397, 398, 399, 400, 401, 402, 403, 404, 405] (by decide +kernel) (by decide +kernel)
set_option maxRecDepth 20000 in
theorem gL_back_X6_undo : GoodIn wsL_back (wsV RL 140 RX6 yX6_undo wsX6_undo) := goodIn_app (goodIn_of _ (by decide +kernel)) ggL_back_X6_undo
set_option maxRecDepth 20000 in
theorem gc_L_back_X6_restore_1 : GoodIn wsL_back wsX6_restore_r1 := goodIn_r _ [144, 79, 12, 14, 67, 147, 148, 10, 149, 217, 218, 219, 220, 221, 222, 223, 224, 146, 21, 225, 151, 152, 153, 154] (by decide +kernel) (by decide +kernel)
set_option maxRecDepth 20000 in
theorem gc_L_back_X6_restore_2 : GoodIn wsL_back wsX6_restore_r2 := goodIn_r _ [155, 156, 36, 116, 157, 158, 159, 160, 161, 162, 163, 164, 165, 166, 42, 23, 167, 168, 128, 169, 170, 171, 172, 55] (by decide +kernel) (by decide +kernel)
set_option maxRecDepth 20000 in
theorem gc_L_back_X6_restore_3 : GoodIn wsL_back wsX6_restore_r3 := goodIn_r _ [173, 174, 175, 98, 176, 177, 178, 179, 180, 181, 182, 183, 184, 185, 186, 226, 188, 189, 190, 191, 192, 193, 194, 195] (by decide +kernel) (by decide +kernel)
set_option maxRecDepth 20000 in
theorem gc_L_back_X6_restore_4 : GoodIn wsL_back wsX6_restore_r4 := goodIn_r _ [196, 197, 198, 199, 200, 201, 202, 203, 204, 205, 44, 206, 207, 208, 209, 210, 130, 211, 212, 187, 261, 262, 263, 264] (by decide +kernel) (by decide +kernel)
set_option maxRecDepth 20000 in
theorem gc_L_back_X6_restore_5 : GoodIn wsL_back wsX6_restore_r5 := goodIn_r _ [265, 266, 267, 268] (by decide +kernel) (by decide +kernel)
set_option maxRecDepth 20000 in
theorem gc_L_back_X6_restore_h : GoodIn wsL_back [.code yX6_restore cX6_restore 3 (some .int)] := goodIn_r _ [375] (by decide +kernel) (by decide +kernel)
set_option maxRecDepth 20000 in
theorem gc_L_back_X6_restore_x6 : GoodIn wsL_back wsX60 := goodIn_r _ [376, 377, 378, 379, 380] (by decide +kernel) (by decide +kernel)
set_option maxRecDepth 20000 in
theorem gc_L_back_X6_restore_x2 : GoodIn wsL_back wsX20 := goodIn_r _ [381, 382, 383, 384, 385, 386, 387, 388, 389, 390] (by decide +kernel) (by decide +kernel)
set_option maxRecDepth 20000 in
theorem gc_L_back_X6_restore_x4 : GoodIn wsL_back wsX40 := goodIn_r _ [391, 392, 393, 394, 395, 396, 397, 398] (by decide +kernel) (by decide +kernel)
set_option maxRecDepth 20000 in
theorem gc_L_back_X6_restore_x1 : GoodIn wsL_back wsX10 := goodIn_r _ [412, 413] (by decide +kernel) (by decide +kernel)
set_option maxRecDepth 20000 in
theorem gc_L_back_X6_restore_x0 : GoodIn wsL_back wsX00 := goodIn_r _ [399, 400, 401, 402, 403, 404, 405] (by decide +kernel) (by decide +kernel)
theorem ggL_back_X6_restore : GoodIn wsL_back wsX6_restore := good_cons gc_L_back_X6_restore_h (good_app (good_app (good_app (good_app (good_app (good_app gc_L_back_X6_restore_1 (good_app gc_L_back_X6_restore_2 (good_app gc_L_back_X6_restore_3 (good_app gc_L_back_X6_restore_4 (gc_L_back_X6_restore_5))))) gc_L_back_X6_restore_x6) gc_L_back_X6_restore_x2) gc_L_back_X6_restore_x4) gc_L_back_X6_restore_x1) gc_L_back_X6_restore_x0)
set_option maxRecDepth 20000 in
theorem gL_back_X6_restore : GoodIn wsL_back (wsV RL 159 RX6 yX6_restore wsX6_restore) := goodIn_app (goodIn_of _ (by decide +kernel)) ggL_back_X6_restore
set_option maxRecDepth 20000 in
theorem ggL_refused_L_up : GoodIn wsL_refused wsL_up := goodIn_r _ [6, 7] (by decide +kernel) (by decide +kernel)
set_option maxRecDepth 20000 in
theorem gL_refused_L_up : GoodIn wsL_refused (va_wsS RL 22 yL_up wsL_up) := goodIn_app (goodIn_of _ (by decide +kernel)) ggL_refused_L_up
set_option maxRecDepth 20000 in
theorem gc_L_refused_X6_set_1 : GoodIn wsL_refused wsX6_set_r1 := goodIn_r _ [13, 14, 15, 16, 17, 18, 19, 20, 21, 22, 23, 24, 25, 26, 27, 28, 29, 30, 31, 32, 33, 34, 35, 36] (by decide +kernel) (by decide +kernel)
set_option maxRecDepth 20000 in
theorem gc_L_refused_X6_set_2 : GoodIn wsL_refused wsX6_set_r2 := goodIn_r _ [37, 38, 39, 40, 41, 42, 43, 44, 45, 46, 47, 48, 49, 50, 51, 52, 53, 54, 55, 56, 57, 58, 59, 60] (by decide +kernel) (by decide +kernel)
set_option maxRecDepth 20000 in
theorem gc_L_refused_X6_set_3 : GoodIn wsL_refused wsX6_set_r3 := goodIn_r _ [61, 62, 63, 64, 65, 66, 67, 68, 69, 70, 71, 72, 73, 74, 75, 76, 77, 78, 79, 80, 81, 82, 83, 84] (by decide +kernel) (by decide +kernel)
set_option maxRecDepth 20000 in
theorem gc_L_refused_X6_set_4 : GoodIn wsL_refused wsX6_set_r4 := goodIn_r _ [85, 86, 87, 88, 89, 90, 91, 92, 93, 94, 95, 96, 97, 98, 99, 100, 101, 102, 103, 104, 105, 106, 107, 108] (by decide +kernel) (by decide +kernel)
set_option maxRecDepth 20000 in
theorem gc_L_refused_X6_set_5 : GoodIn wsL_refused wsX6_set_r5 := goodIn_r _ [109, 11, 110, 111, 112, 113, 114, 115, 116, 117, 118] (by decide +kernel) (by decide +kernel)
set_option maxRecDepth 20000 in
theorem gc_L_refused_X6_set_h : GoodIn wsL_refused [.code yX6_set cX6_set 3 (some .int)] := goodIn_r _ [12] (by decide +kernel) (by decide +kernel)
set_option maxRecDepth 20000 in
theorem gc_L_refused_X6_set_x6 : GoodIn wsL_refused wsX60 := goodIn_r _ [581, 582, 583, 584, 585] (by decide +kernel) (by decide +kernel)
set_option maxRecDepth 20000 in
theorem gc_L_refused_X6_set_x1 : GoodIn wsL_refused wsX10 := goodIn_r _ [586, 587] (by decide +kernel) (by decide +kernel)
set_option maxRecDepth 20000 in
theorem gc_L_refused_X6_set_x2 : GoodIn wsL_refused wsX20 := goodIn_r _ [588, 589, 590, 591, 592, 593, 594, 595, 596, 597] (by decide +kernel) (by decide +kernel)
set_option maxRecDepth 20000 in
theorem gc_L_refused_X6_set_x4 : GoodIn wsL_refused wsX40 := goodIn_r _ [598, 599, 600, 601, 602, 603, 604, 605] (by decide +kernel) (by decide +kernel)
set_option maxRecDepth 20000 in
theorem gc_L_refused_X6_set_x0 : GoodIn wsL_refused wsX00 := goodIn_r _ [606, 607, 608, 609, 610, 611, 612] (by decide +kernel) (by decide +kernel)
theorem ggL_refused_X6_set : GoodIn wsL_refused wsX6_set := good_cons gc_L_refused_X6_set_h (good_app (good_app (good_app (good_app (good_app (good_app gc_L_refused_X6_set_1 (good_app gc_L_refused_X6_set_2 (good_app gc_L_refused_X6_set_3 (good_app gc_L_refused_X6_set_4 (gc_L_refused_X6_set_5))))) gc_L_refused_X6_set_x6) gc_L_refused_X6_set_x1) gc_L_refused_X6_set_x2) gc_L_refused_X6_set_x4) gc_L_refused_X6_set_x0)
set_option maxRecDepth 20000 in
theorem gL_refused_X6_set : GoodIn wsL_refused (wsV RL 26 RX6 yX6_set wsX6_set) := goodIn_app (goodIn_of _ (by decide +kernel)) ggL_refused_X6_set
set_option maxRecDepth 20000 in
theorem gc_L_refused_X6_own_1 : GoodIn wsL_refused wsX6_own_r1 := goodIn_r _ [13, 14, 15, 16, 17, 18, 19, 20, 21, 22, 23, 24, 25, 26, 27, 28, 29, 30, 31, 32, 33, 34, 35, 36] (by decide +kernel) (by decide +kernel)
set_option maxRecDepth 20000 in
theorem gc_L_refused_X6_own_2 : GoodIn wsL_refused wsX6_own_r2 := goodIn_r _ [37, 38, 39, 40, 41, 42, 43, 44, 45, 46, 47, 48, 49, 50, 51, 52, 53, 54, 55, 56, 57, 58, 59, 60] (by decide +kernel) (by decide +kernel)
set_option maxRecDepth 20000 in
theorem gc_L_refused_X6_own_3 : GoodIn wsL_refused wsX6_own_r3 := goodIn_r _ [61, 62, 63, 64, 65, 66, 67, 68, 69, 70, 71, 72, 73, 74, 75, 76, 77, 78, 79, 80, 81, 82, 83, 84] (by decide +kernel) (by decide +kernel)
set_option maxRecDepth 20000 in
theorem gc_L_refused_X6_own_4 : GoodIn wsL_refused wsX6_own_r4 := goodIn_r _ [85, 86, 87, 88, 89, 90, 91, 92, 93, 94, 95, 96, 123, 124, 125, 126, 127, 11, 128, 129, 130, 131, 132, 133] (by decide +kernel) (by decide +kernel)
set_option maxRecDepth 20000 in
theorem gc_L_refused_X6_own_5 : GoodIn wsL_refused wsX6_own_r5 := goodIn_r _ [134, 135, 136, 137, 138, 109, 110, 139, 140, 141, 142, 143, 144, 145, 146, 147, 148, 149, 150, 151, 152, 153, 154, 155] (by decide +kernel) (by decide +kernel)
set_option maxRecDepth 20000 in
theorem gc_L_refused_X6_own_6 : GoodIn wsL_refused wsX6_own_r6 := goodIn_r _ [156, 157, 158, 159, 160, 161, 162, 163, 105, 106, 107, 108, 164, 165, 166, 167, 168, 169, 170, 171, 172, 173, 174, 175] (by decide +kernel) (by decide +kernel)
set_option maxRecDepth 20000 in
theorem gc_L_refused_X6_own_7 : GoodIn wsL_refused wsX6_own_r7 := goodIn_r _ [176, 177, 178, 179, 180, 111, 112, 113, 114, 115, 116, 117, 118] (by decide +kernel) (by decide +kernel)
set_option maxRecDepth 20000 in
theorem gc_L_refused_X6_own_h : GoodIn wsL_refused [.code yX6_own cX6_own 3 (some .int)] := goodIn_r _ [122] (by decide +kernel) (by decide +kernel)
set_option maxRecDepth 20000 in
theorem gc_L_refused_X6_own_x6 : GoodIn wsL_refused wsX60 := goodIn_r _ [581, 582, 583, 584, 585] (by decide +kernel) (by decide +kernel)
set_option maxRecDepth 20000 in
theorem gc_L_refused_X6_own_x1 : GoodIn wsL_refused wsX10 := goodIn_r _ [586, 587] (by decide +kernel) (by decide +kernel)
set_option maxRecDepth 20000 in
theorem gc_L_refused_X6_own_x2 : GoodIn wsL_refused wsX20 := goodIn_r _ [588, 589, 590, 591, 592, 593, 594, 595, 596, 597] (by decide +kernel) (by decide +kernel)
set_option maxRecDepth 20000 in
theorem gc_L_refused_X6_own_x4 : GoodIn wsL_refused wsX40 := goodIn_r _ [598, 599, 600, 601, 602, 603, 604, 605] (by decide +kernel) (by decide +kernel)
set_option maxRecDepth 20000 in
theorem gc_L_refused_X6_own_x0 : GoodIn wsL_refused wsX00 := goodIn_r _ [606, 607, 608, 609, 610, 611, 612] (by decide +kernel) (by decide +kernel)
theorem ggL_refused_X6_own : GoodIn wsL_refused wsX6_own := good_cons gc_L_refused_X6_own_h (good_app (good_app (good_app (good_app (good_app (good_app gc_L_refused_X6_own_1 (good_app gc_L_refused_X6_own_2 (good_app gc_L_refused_X6_own_3 (good_app gc_L_refused_X6_own_4 (good_app gc_L_refused_X6_own_5 (good_app gc_L_refused_X6_own_6 (gc_L_refused_X6_own_7))))))) gc_L_refused_X6_own_x6) gc_L_refused_X6_own_x1) gc_L_refused_X6_own_x2) gc_L_refused_X6_own_x4) gc_L_refused_X6_own_x0)
set_option maxRecDepth 20000 in
theorem gL_refused_X6_own : GoodIn wsL_refused (wsV RL 108 RX6 yX6_own wsX6_own) := goodIn_app (goodIn_of _ (by decide +kernel)) ggL_refused_X6_own
set_option maxRecDepth 20000 in
theorem gc_L_refused_X6_stamp_1 : GoodIn wsL_refused wsX6_stamp_r1 := goodIn_r _ [13, 14, 15, 16, 17, 18, 19, 20, 21, 22, 23, 24, 25, 26, 27, 28, 29, 30, 31, 32, 33, 34, 35, 36] (by decide +kernel) (by decide +kernel)
set_option maxRecDepth 20000 in
theorem gc_L_refused_X6_stamp_2 : GoodIn wsL_refused wsX6_stamp_r2 := goodIn_r _ [37, 38, 39, 40, 41, 42, 43, 44, 45, 46, 47, 48, 49, 50, 51, 52, 53, 54, 55, 56, 57, 58, 59, 60] (by decide +kernel) (by decide +kernel)
set_option maxRecDepth 20000 in
theorem gc_L_refused_X6_stamp_3 : GoodIn wsL_refused wsX6_stamp_r3 := goodIn_r _ [61, 62, 63, 64, 65, 66, 67, 68, 69, 70, 71, 72, 73, 74, 75, 76, 77, 78, 79, 80, 81, 82, 83, 84] (by decide +kernel) (by decide +kernel)
set_option maxRecDepth 20000 in
theorem gc_L_refused_X6_stamp_4 : GoodIn wsL_refused wsX6_stamp_r4 := goodIn_r _ [85, 86, 87, 88, 89, 90, 91, 92, 93, 94, 95, 96, 185, 186, 187, 188, 129, 11, 130, 127, 128, 189, 190, 191] (by decide +kernel) (by decide +kernel)
set_option maxRecDepth 20000 in
theorem gc_L_refused_X6_stamp_5 : GoodIn wsL_refused wsX6_stamp_r5 := goodIn_r _ [192, 193, 194, 195, 196, 197, 198, 199, 111, 112, 113, 114, 115, 116, 117, 118] (by decide +kernel) (by decide +kernel)
set_option maxRecDepth 20000 in
theorem gc_L_refused_X6_stamp_h : GoodIn wsL_refused [.code yX6_stamp cX6_stamp 5 (some .int)] := goodIn_r _ [184] (by decide +kernel) (by decide +kernel)
set_option maxRecDepth 20000 in
theorem gc_L_refused_X6_stamp_x6 : GoodIn wsL_refused wsX60 := goodIn_r _ [581, 582, 583, 584, 585] (by decide +kernel) (by decide +kernel)
set_option maxRecDepth 20000 in
theorem gc_L_refused_X6_stamp_x1 : GoodIn wsL_refused wsX10 := goodIn_r _ [586, 587] (by decide +kernel) (by decide +kernel)
set_option maxRecDepth 20000 in
theorem gc_L_refused_X6_stamp_x2 : GoodIn wsL_refused wsX20 := goodIn_r _ [588, 589, 590, 591, 592, 593, 594, 595, 596, 597] (by decide +kernel) (by decide +kernel)
set_option maxRecDepth 20000 in
theorem gc_L_refused_X6_stamp_x4 : GoodIn wsL_refused wsX40 := goodIn_r _ [598, 599, 600, 601, 602, 603, 604, 605] (by decide +kernel) (by decide +kernel)
set_option maxRecDepth 20000 in
theorem gc_L_refused_X6_stamp_x0 : GoodIn wsL_refused wsX00 := goodIn_r _ [606, 607, 608, 609, 610, 611, 612] (by decide +kernel) (by decide +kernel)
theorem ggL_refused_X6_stamp : GoodIn wsL_refused wsX6_stamp := good_cons gc_L_refused_X6_stamp_h (good_app (good_app (good_app (good_app (good_app (good_app gc_L_refused_X6_stamp_1 (good_app gc_L_refused_X6_stamp_2 (good_app gc_L_refused_X6_stamp_3 (good_app gc_L_refused_X6_stamp_4 (gc_L_refused_X6_stamp_5))))) gc_L_refused_X6_stamp_x6) gc_L_refused_X6_stamp_x1) gc_L_refused_X6_stamp_x2) gc_L_refused_X6_stamp_x4) gc_L_refused_X6_stamp_x0)
set_option maxRecDepth 20000 in
theorem gL_refused_X6_stamp : GoodIn wsL_refused (wsV RL 72 RX6 yX6_stamp wsX6_stamp) := goodIn_app (goodIn_of _ (by decide +kernel)) ggL_refused_X6_stamp
set_option maxRecDepth 20000 in
theorem gc_L_refused_X6_pass_1 : GoodIn wsL_refused wsX6_pass_r1 := goodIn_r _ [13, 14, 15, 16, 17, 18, 19, 20, 21, 22, 23, 24, 25, 26, 27, 28, 29, 30, 31, 32, 33, 34, 35, 36] (by decide +kernel) (by decide +kernel)
set_option maxRecDepth 20000 in
theorem gc_L_refused_X6_pass_2 : GoodIn wsL_refused wsX6_pass_r2 := goodIn_r _ [37, 38, 39, 40, 41, 42, 43, 44, 45, 46, 47, 48, 49, 50, 51, 52, 53, 54, 55, 56, 57, 58, 59, 60] (by decide +kernel) (by decide +kernel)
set_option maxRecDepth 20000 in
theorem gc_L_refused_X6_pass_3 : GoodIn wsL_refused wsX6_pass_r3 := goodIn_r _ [61, 62, 63, 64, 65, 66, 67, 68, 69, 70, 71, 72, 73, 74, 75, 76, 77, 78, 79, 80, 81, 82, 83, 84] (by decide +kernel) (by decide +kernel)
set_option maxRecDepth 20000 in
theorem gc_L_refused_X6_pass_4 : GoodIn wsL_refused wsX6_pass_r4 := goodIn_r _ [85, 86, 87, 88, 89, 90, 91, 92, 93, 94, 95, 96, 204, 205, 206, 207, 145, 146, 143, 147, 148, 149, 150, 129] (by decide +kernel) (by decide +kernel)
set_option maxRecDepth 20000 in
theorem gc_L_refused_X6_pass_5 : GoodIn wsL_refused wsX6_pass_r5 := goodIn_r _ [11, 130, 189, 190, 191, 192, 193, 194, 131, 132, 133, 134, 135, 136, 137, 138, 109, 110, 139, 140, 141, 142, 144, 127] (by decide +kernel) (by decide +kernel)
set_option maxRecDepth 20000 in
theorem gc_L_refused_X6_pass_6 : GoodIn wsL_refused wsX6_pass_r6 := goodIn_r _ [128, 195, 196, 197, 198, 199, 111, 112, 113, 114, 115, 116, 117, 118] (by decide +kernel) (by decide +kernel)
set_option maxRecDepth 20000 in
theorem gc_L_refused_X6_pass_h : GoodIn wsL_refused [.code yX6_pass cX6_pass 4 (some .int)] := goodIn_r _ [203] (by decide +kernel) (by decide +kernel)
set_option maxRecDepth 20000 in
theorem gc_L_refused_X6_pass_x6 : GoodIn wsL_refused wsX60 := goodIn_r _ [581, 582, 583, 584, 585] (by decide +kernel) (by decide +kernel)
set_option maxRecDepth 20000 in
theorem gc_L_refused_X6_pass_x1 : GoodIn wsL_refused wsX10 := goodIn_r _ [586, 587] (by decide +kernel) (by decide +kernel)
set_option maxRecDepth 20000 in
theorem gc_L_refused_X6_pass_x2 : GoodIn wsL_refused wsX20 := goodIn_r _ [588, 589, 590, 591, 592, 593, 594, 595, 596, 597] (by decide +kernel) (by decide +kernel)
set_option maxRecDepth 20000 in
theorem gc_L_refused_X6_pass_x4 : GoodIn wsL_refused wsX40 := goodIn_r _ [598, 599, 600, 601, 602, 603, 604, 605] (by decide +kernel) (by decide +kernel)
set_option maxRecDepth 20000 in
theorem gc_L_refused_X6_pass_x0 : GoodIn wsL_refused wsX00 := goodIn_r _ [606, 607, 608, 609, 610, 611, 612] (by decide +kernel) (by decide +kernel)
theorem ggL_refused_X6_pass : GoodIn wsL_refused wsX6_pass := good_cons gc_L_refused_X6_pass_h (good_app (good_app (good_app (good_app (good_app (good_app gc_L_refused_X6_pass_1 (good_app gc_L_refused_X6_pass_2 (good_app gc_L_refused_X6_pass_3 (good_app gc_L_refused_X6_pass_4 (good_app gc_L_refused_X6_pass_5 (gc_L_refused_X6_pass_6)))))) gc_L_refused_X6_pass_x6) gc_L_refused_X6_pass_x1) gc_L_refused_X6_pass_x2) gc_L_refused_X6_pass_x4) gc_L_refused_X6_pass_x0)
set_option maxRecDepth 20000 in
theorem gL_refused_X6_pass : GoodIn wsL_refused (wsV RL 80 RX6 yX6_pass wsX6_pass) := goodIn_app (goodIn_of _ (by decide +kernel)) ggL_refused_X6_pass
set_option maxRecDepth 20000 in
theorem gc_L_refused_X6_forge_1 : GoodIn wsL_refused wsX6_forge_r1 := goodIn_r _ [13, 14, 15, 16, 17, 18, 19, 20, 21, 22, 23, 24, 25, 26, 27, 28, 29, 30, 31, 32, 33, 34, 35, 36] (by decide +kernel) (by decide +kernel)
set_option maxRecDepth 20000 in
theorem gc_L_refused_X6_forge_2 : GoodIn wsL_refused wsX6_forge_r2 := goodIn_r _ [37, 38, 39, 40, 41, 42, 43, 44, 45, 46, 47, 48, 49, 50, 51, 52, 53, 54, 55, 56, 57, 58, 59, 60] (by decide +kernel) (by decide +kernel)
set_option maxRecDepth 20000 in
theorem gc_L_refused_X6_forge_3 : GoodIn wsL_refused wsX6_forge_r3 := goodIn_r _ [61, 62, 63, 64, 65, 66, 67, 68, 69, 70, 71, 72, 73, 74, 75, 76, 77, 78, 79, 80, 81, 82, 83, 84] (by decide +kernel) (by decide +kernel)
set_option maxRecDepth 20000 in
theorem gc_L_refused_X6_forge_4 : GoodIn wsL_refused wsX6_forge_r4 := goodIn_r _ [85, 86, 87, 88, 89, 90, 91, 92, 93, 94, 95, 96, 212, 213, 214, 215, 129, 11, 130, 127, 128, 147, 148, 149] (by decide +kernel) (by decide +kernel)
set_option maxRecDepth 20000 in
theorem gc_L_refused_X6_forge_5 : GoodIn wsL_refused wsX6_forge_r5 := goodIn_r _ [150, 189, 190, 191, 192, 193, 194, 195, 196, 197, 198, 199, 111, 112, 113, 114, 115, 116, 117, 118] (by decide +kernel) (by decide +kernel)
set_option maxRecDepth 20000 in
theorem gc_L_refused_X6_forge_h : GoodIn wsL_refused [.code yX6_forge cX6_forge 6 (some .int)] := goodIn_r _ [211] (by decide +kernel) (by decide +kernel)
set_option maxRecDepth 20000 in
theorem gc_L_refused_X6_forge_x6 : GoodIn wsL_refused wsX60 := goodIn_r _ [581, 582, 583, 584, 585] (by decide +kernel) (by decide +kernel)
set_option maxRecDepth 20000 in
theorem gc_L_refused_X6_forge_x1 : GoodIn wsL_refused wsX10 := goodIn_r _ [586, 587] (by decide +kernel) (by decide +kernel)
set_option maxRecDepth 20000 in
theorem gc_L_refused_X6_forge_x2 : GoodIn wsL_refused wsX20 := goodIn_r _ [588, 589, 590, 591, 592, 593, 594, 595, 596, 597] (by decide +kernel) (by decide +kernel)
set_option maxRecDepth 20000 in
theorem gc_L_refused_X6_forge_x4 : GoodIn wsL_refused wsX40 := goodIn_r _ [598, 599, 600, 601, 602, 603, 604, 605] (by decide +kernel) (by decide +kernel)
set_option maxRecDepth 20000 in
theorem gc_L_refused_X6_forge_x0 : GoodIn wsL_refused wsX00 := goodIn_r _ [606, 607, 608, 609, 610, 611, 612] (by decide +kernel) (by decide +kernel)
theorem ggL_refused_X6_forge : GoodIn wsL_refused wsX6_forge := good_cons gc_L_refused_X6_forge_h (good_app (good_app (good_app (good_app (good_app (good_app gc_L_refused_X6_forge_1 (good_app gc_L_refused_X6_forge_2 (good_app gc_L_refused_X6_forge_3 (good_app gc_L_refused_X6_forge_4 (gc_L_refused_X6_forge_5))))) gc_L_refused_X6_forge_x6) gc_L_refused_X6_forge_x1) gc_L_refused_X6_forge_x2) gc_L_refused_X6_forge_x4) gc_L_refused_X6_forge_x0)
set_option maxRecDepth 20000 in
theorem gL_refused_X6_forge : GoodIn wsL_refused (wsV RL 87 RX6 yX6_forge wsX6_forge) := goodIn_app (goodIn_of _ (by decide +kernel)) ggL_refused_X6_forge
set_option maxRecDepth 20000 in
theorem gc_L_refused_X6_takeBack_1 : GoodIn wsL_refused wsX6_takeBack_r1 := goodIn_r _ [13, 14, 15, 16, 17, 18, 19, 20, 21, 22, 23, 24, 25, 26, 27, 28, 29, 30, 31, 32, 33, 34, 35, 36] (by decide +kernel) (by decide +kernel)
set_option maxRecDepth 20000 in
theorem gc_L_refused_X6_takeBack_2 : GoodIn wsL_refused wsX6_takeBack_r2 := goodIn_r _ [37, 38, 39, 40, 41, 42, 43, 44, 45, 46, 47, 48, 49, 50, 51, 52, 53, 54, 55, 56, 57, 58, 59, 60] (by decide +kernel) (by decide +kernel)
set_option maxRecDepth 20000 in
theorem gc_L_refused_X6_takeBack_3 : GoodIn wsL_refused wsX6_takeBack_r3 := goodIn_r _ [61, 62, 63, 64, 65, 66, 67, 68, 69, 70, 71, 72, 73, 74, 75, 76, 77, 78, 79, 80, 81, 82, 83, 84] (by decide +kernel) (by decide +kernel)
set_option maxRecDepth 20000 in
theorem gc_L_refused_X6_takeBack_4 : GoodIn wsL_refused wsX6_takeBack_r4 := goodIn_r _ [85, 86, 87, 88, 89, 90, 91, 92, 93, 94, 95, 96, 220, 221, 222, 223, 138, 143, 147, 148, 149, 150, 109, 11] (by decide +kernel) (by decide +kernel)
set_option maxRecDepth 20000 in
theorem gc_L_refused_X6_takeBack_5 : GoodIn wsL_refused wsX6_takeBack_r5 := goodIn_r _ [110, 131, 132, 133, 134, 135, 136, 137, 139, 140, 141, 142, 144, 145, 146, 127, 128, 151, 152, 153, 154, 155, 156, 157] (by decide +kernel) (by decide +kernel)
set_option maxRecDepth 20000 in
theorem gc_L_refused_X6_takeBack_6 : GoodIn wsL_refused wsX6_takeBack_r6 := goodIn_r _ [158, 159, 160, 161, 162, 163, 105, 106, 107, 108, 164, 165, 166, 167, 168, 169, 170, 171, 172, 173, 174, 175, 176, 177] (by decide +kernel) (by decide +kernel)
set_option maxRecDepth 20000 in
theorem gc_L_refused_X6_takeBack_7 : GoodIn wsL_refused wsX6_takeBack_r7 := goodIn_r _ [178, 179, 180, 111, 112, 113, 114, 115, 116, 117, 118] (by decide +kernel) (by decide +kernel)
set_option maxRecDepth 20000 in
theorem gc_L_refused_X6_takeBack_h : GoodIn wsL_refused [.code yX6_takeBack cX6_takeBack 2 (some .int)] := goodIn_r _ [219] (by decide +kernel) (by decide +kernel)
set_option maxRecDepth 20000 in
theorem gc_L_refused_X6_takeBack_x6 : GoodIn wsL_refused wsX60 := goodIn_r _ [581, 582, 583, 584, 585] (by decide +kernel) (by decide +kernel)
set_option maxRecDepth 20000 in
theorem gc_L_refused_X6_takeBack_x1 : GoodIn wsL_refused wsX10 := goodIn_r _ [586, 587] (by decide +kernel) (by decide +kernel)
set_option maxRecDepth 20000 in
theorem gc_L_refused_X6_takeBack_x2 : GoodIn wsL_refused wsX20 := goodIn_r _ [588, 589, 590, 591, 592, 593, 594, 595, 596, 597] (by decide +kernel) (by decide +kernel)
set_option maxRecDepth 20000 in
theorem gc_L_refused_X6_takeBack_x4 : GoodIn wsL_refused wsX40 := goodIn_r _ [598, 599, 600, 601, 602, 603, 604, 605] (by decide +kernel) (by decide +kernel)
set_option maxRecDepth 20000 in
theorem gc_L_refused_X6_takeBack_x0 : GoodIn wsL_refused wsX00 := goodIn_r _ [606, 607, 608, 609, 610, 611, 612] (by decide +kernel) (by decide +kernel)
theorem ggL_refused_X6_takeBack : GoodIn wsL_refused wsX6_takeBack := good_cons gc_L_refused_X6_takeBack_h (good_app (good_app (good_app (good_app (good_app (good_app gc_L_refused_X6_takeBack_1 (good_app gc_L_refused_X6_takeBack_2 (good_app gc_L_refused_X6_takeBack_3 (good_app gc_L_refused_X6_takeBack_4 (good_app gc_L_refused_X6_takeBack_5 (good_app gc_L_refused_X6_takeBack_6 (gc_L_refused_X6_takeBack_7))))))) gc_L_refused_X6_takeBack_x6) gc_L_refused_X6_takeBack_x1) gc_L_refused_X6_takeBack_x2) gc_L_refused_X6_takeBack_x4) gc_L_refused_X6_takeBack_x0)
set_option maxRecDepth 20000 in
theorem gL_refused_X6_takeBack : GoodIn wsL_refused (wsV RL 69 RX6 yX6_takeBack wsX6_takeBack) := goodIn_app (goodIn_of _ (by decide +kernel)) ggL_refused_X6_takeBack
set_option maxRecDepth 20000 in
theorem gc_L_refused_X6_door_1 : GoodIn wsL_refused wsX6_door_r1 := goodIn_r _ [13, 14, 15, 16, 17, 18, 19, 20, 21, 22, 23, 24, 25, 26, 27, 28, 29, 30, 31, 32, 33, 34, 35, 36] (by decide +kernel) (by decide +kernel)
set_option maxRecDepth 20000 in
theorem gc_L_refused_X6_door_2 : GoodIn wsL_refused wsX6_door_r2 := goodIn_r _ [37, 38, 39, 40, 41, 42, 43, 44, 45, 46, 47, 48, 49, 50, 51, 52, 53, 54, 55, 56, 57, 58, 59, 60] (by decide +kernel) (by decide +kernel)
set_option maxRecDepth 20000 in
theorem gc_L_refused_X6_door_3 : GoodIn wsL_refused wsX6_door_r3 := goodIn_r _ [61, 62, 63, 64, 65, 66, 67, 68, 69, 70, 71, 72, 73, 74, 75, 76, 77, 78, 79, 80, 81, 82, 83, 84] (by decide +kernel) (by decide +kernel)
set_option maxRecDepth 20000 in
theorem gc_L_refused_X6_door_4 : GoodIn wsL_refused wsX6_door_r4 := goodIn_r _ [85, 86, 87, 88, 89, 90, 91, 92, 93, 94, 95, 96, 228, 229, 230, 231, 179, 11, 180, 147, 148, 149, 150, 232] (by decide +kernel) (by decide +kernel)
set_option maxRecDepth 20000 in
theorem gc_L_refused_X6_door_5 : GoodIn wsL_refused wsX6_door_r5 := goodIn_r _ [233, 234, 235, 160, 161, 162, 163, 105, 106, 107, 108, 109, 110, 111, 112, 113, 114, 115, 116, 117, 118] (by decide +kernel) (by decide +kernel)
set_option maxRecDepth 20000 in
theorem gc_L_refused_X6_door_h : GoodIn wsL_refused [.code yX6_door cX6_door 4 (some .int)] := goodIn_r _ [227] (by decide +kernel) (by decide +kernel)
set_option maxRecDepth 20000 in
theorem gc_L_refused_X6_door_x6 : GoodIn wsL_refused wsX60 := goodIn_r _ [581, 582, 583, 584, 585] (by decide +kernel) (by decide +kernel)
set_option maxRecDepth 20000 in
theorem gc_L_refused_X6_door_x1 : GoodIn wsL_refused wsX10 := goodIn_r _ [586, 587] (by decide +kernel) (by decide +kernel)
set_option maxRecDepth 20000 in
theorem gc_L_refused_X6_door_x2 : GoodIn wsL_refused wsX20 := goodIn_r _ [588, 589, 590, 591, 592, 593, 594, 595, 596, 597] (by decide +kernel) (by decide +kernel)
set_option maxRecDepth 20000 in
theorem gc_L_refused_X6_door_x4 : GoodIn wsL_refused wsX40 := goodIn_r _ [598, 599, 600, 601, 602, 603, 604, 605] (by decide +kernel) (by decide +kernel)
set_option maxRecDepth 20000 in
theorem gc_L_refused_X6_door_x0 : GoodIn wsL_refused wsX00 := goodIn_r _ [606, 607, 608, 609, 610, 611, 612] (by decide +kernel) (by decide +kernel)
theorem ggL_refused_X6_door : GoodIn wsL_refused wsX6_door := good_cons gc_L_refused_X6_door_h (good_app (good_app (good_app (good_app (good_app (good_app gc_L_refused_X6_door_1 (good_app gc_L_refused_X6_door_2 (good_app gc_L_refused_X6_door_3 (good_app gc_L_refused_X6_door_4 (gc_L_refused_X6_door_5))))) gc_L_refused_X6_door_x6) gc_L_refused_X6_door_x1) gc_L_refused_X6_door_x2) gc_L_refused_X6_door_x4) gc_L_refused_X6_door_x0)
set_option maxRecDepth 20000 in
theorem gL_refused_X6_door : GoodIn wsL_refused (wsV RL 91 RX6 yX6_door wsX6_door) := goodIn_app (goodIn_of _ (by decide +kernel)) ggL_refused_X6_door
set_option maxRecDepth 20000 in
theorem gc_L_refused_X6_come_1 : GoodIn wsL_refused wsX6_come_r1 := goodIn_r _ [13, 14, 240, 15, 16, 17, 18, 19, 20, 21, 22, 23, 24, 25, 26, 27, 28, 29, 30, 31, 32, 33, 34, 35] (by decide +kernel) (by decide +kernel)
set_option maxRecDepth 20000 in
theorem gc_L_refused_X6_come_2 : GoodIn wsL_refused wsX6_come_r2 := goodIn_r _ [36, 37, 38, 39, 40, 41, 42, 43, 44, 45, 46, 47, 48, 49, 50, 51, 52, 53, 54, 55, 56, 57, 58, 59] (by decide +kernel) (by decide +kernel)
set_option maxRecDepth 20000 in
theorem gc_L_refused_X6_come_3 : GoodIn wsL_refused wsX6_come_r3 := goodIn_r _ [60, 61, 62, 63, 64, 65, 66, 67, 68, 69, 70, 71, 72, 73, 74, 75, 76, 77, 78, 79, 80, 81, 82, 83] (by decide +kernel) (by decide +kernel)
set_option maxRecDepth 20000 in
theorem gc_L_refused_X6_come_4 : GoodIn wsL_refused wsX6_come_r4 := goodIn_r _ [84, 85, 86, 87, 88, 89, 90, 91, 92, 93, 94, 95, 96, 241, 242, 243, 244, 245, 246, 179, 11, 180, 247, 248] (by decide +kernel) (by decide +kernel)
set_option maxRecDepth 20000 in
theorem gc_L_refused_X6_come_5 : GoodIn wsL_refused wsX6_come_r5 := goodIn_r _ [249, 250, 251, 252, 156, 157, 158, 159, 160, 161, 162, 163, 105, 106, 107, 108, 109, 110, 253, 254, 255, 256, 257, 258] (by decide +kernel) (by decide +kernel)
set_option maxRecDepth 20000 in
theorem gc_L_refused_X6_come_6 : GoodIn wsL_refused wsX6_come_r6 := goodIn_r _ [259, 260, 261, 262, 263, 264, 265, 266, 267, 268, 269, 270, 271, 272, 273, 274, 275, 276, 277, 278, 279, 280, 281, 282] (by decide +kernel) (by decide +kernel)
set_option maxRecDepth 20000 in
theorem gc_L_refused_X6_come_7 : GoodIn wsL_refused wsX6_come_r7 := goodIn_r _ [176, 177, 178, 283, 148, 149, 150, 284, 285, 286, 287, 288, 289, 290, 291, 140, 141, 142, 136, 143, 144, 145, 146, 147] (by decide +kernel) (by decide +kernel)
set_option maxRecDepth 20000 in
theorem gc_L_refused_X6_come_8 : GoodIn wsL_refused wsX6_come_r8 := goodIn_r _ [127, 128, 292, 293, 294, 295, 175, 101, 102, 103, 104, 296, 111, 112, 113, 114, 115, 116, 117, 118] (by decide +kernel) (by decide +kernel)
set_option maxRecDepth 20000 in
theorem gc_L_refused_X6_come_h : GoodIn wsL_refused [.code yX6_come cX6_come 4 (some .int)] := goodIn_r _ [239] (by decide +kernel) (by decide +kernel)
set_option maxRecDepth 20000 in
theorem gc_L_refused_X6_come_x6 : GoodIn wsL_refused wsX60 := goodIn_r _ [581, 582, 583, 584, 585] (by decide +kernel) (by decide +kernel)
set_option maxRecDepth 20000 in
theorem gc_L_refused_X6_come_x1 : GoodIn wsL_refused wsX10 := goodIn_r _ [586, 587] (by decide +kernel) (by decide +kernel)
set_option maxRecDepth 20000 in
theorem gc_L_refused_X6_come_x2 : GoodIn wsL_refused wsX20 := goodIn_r _ [588, 589, 590, 591, 592, 593, 594, 595, 596, 597] (by decide +kernel) (by decide +kernel)
set_option maxRecDepth 20000 in
theorem gc_L_refused_X6_come_x4 : GoodIn wsL_refused wsX40 := goodIn_r _ [598, 599, 600, 601, 602, 603, 604, 605] (by decide +kernel) (by decide +kernel)
set_option maxRecDepth 20000 in
theorem gc_L_refused_X6_come_x0 : GoodIn wsL_refused wsX00 := goodIn_r _ [606, 607, 608, 609, 610, 611, 612] (by decide +kernel) (by decide +kernel)
set_option maxRecDepth 20000 in
theorem gc_L_refused_X6_come_x5 : GoodIn wsL_refused wsX50 := goodIn_r _ [613, 614] (by decide +kernel) (by decide +kernel)
theorem ggL_refused_X6_come : GoodIn wsL_refused wsX6_come := good_cons gc_L_refused_X6_come_h (good_app (good_app (good_app (good_app (good_app (good_app (good_app gc_L_refused_X6_come_1 (good_app gc_L_refused_X6_come_2 (good_app gc_L_refused_X6_come_3 (good_app gc_L_refused_X6_come_4 (good_app gc_L_refused_X6_come_5 (good_app gc_L_refused_X6_come_6 (good_app gc_L_refused_X6_come_7 (gc_L_refused_X6_come_8)))))))) gc_L_refused_X6_come_x6) gc_L_refused_X6_come_x1) gc_L_refused_X6_come_x2) gc_L_refused_X6_come_x4) gc_L_refused_X6_come_x0) gc_L_refused_X6_come_x5)
set_option maxRecDepth 20000 in
theorem gL_refused_X6_come : GoodIn wsL_refused (wsV RL 117 RX6 yX6_come wsX6_come) := goodIn_app (goodIn_of _ (by decide +kernel)) ggL_refused_X6_come
set_option maxRecDepth 20000 in
theorem ggL_refused_X6_ofPage : GoodIn wsL_refused wsX6_ofPage := goodIn_r _ [300, 14, 301, 302, 303, 127, 11, 128, 304, 132, 133, 24, 134, 45, 135, 136, 137, 138, 109, 110, 139, 140, 141, 142, 143, 144, 32, 145, 146, 147, 148, 149, 44, 150, 88, 305, 306, 307, 308, 129, 130, 309, 310, 311, 312, 53, 313, 314, 315, 316, 317, 318, 319, 581, 582, 583, 584, 585, 588, 589, 590, 591, 592, 593, 594, 595, 596, 597, 598, 599, 600, 601, 602, 603, 604, 605] (by decide +kernel) (by decide +kernel)
set_option maxRecDepth 20000 in
theorem gL_refused_X6_ofPage : GoodIn wsL_refused (wsV RL 43 RX6 yX6_ofPage wsX6_ofPage) := goodIn_app (goodIn_of _ (by decide +kernel)) ggL_refused_X6_ofPage
set_option maxRecDepth 20000 in
theorem ggL_refused_X6_ofStamp : GoodIn wsL_refused wsX6_ofStamp := goodIn_r _ [323, 14, 302, 324, 325, 326, 327, 328, 329, 330, 331, 148, 149, 44, 150, 88, 332, 109, 11, 110, 304, 132, 133, 24, 134, 45, 135, 136, 137, 138, 139, 140, 141, 142, 143, 144, 32, 145, 146, 147, 127, 128, 333, 334, 335, 336, 57, 337, 338, 339, 340, 341, 342, 314, 315, 316, 317, 318, 319, 581, 582, 583, 584, 585, 588, 589, 590, 591, 592, 593, 594, 595, 596, 597, 598, 599, 600, 601, 602, 603, 604, 605] (by decide +kernel) (by decide +kernel)
set_option maxRecDepth 20000 in
theorem gL_refused_X6_ofStamp : GoodIn wsL_refused (wsV RL 50 RX6 yX6_ofStamp wsX6_ofStamp) := goodIn_app (goodIn_of _ (by decide +kernel)) ggL_refused_X6_ofStamp
set_option maxRecDepth 20000 in
theorem ggL_refused_X6_leads : GoodIn wsL_refused wsX6_leads := goodIn_r _ [346, 14, 347, 179, 11, 180, 348, 176, 177, 24, 178, 33, 581, 582, 583, 584, 585, 588, 589, 590, 591, 592, 593, 594, 595, 596, 597] (by decide +kernel) (by decide +kernel)
set_option maxRecDepth 20000 in
theorem gL_refused_X6_leads : GoodIn wsL_refused (wsV RL 53 RX6 yX6_leads wsX6_leads) := goodIn_app (goodIn_of _ (by decide +kernel)) ggL_refused_X6_leads
set_option maxRecDepth 20000 in
theorem ggL_refused_X6_note : GoodIn wsL_refused wsX6_note := goodIn_r _ [352, 14, 353, 354, 355, 356, 357, 358, 258, 259, 48, 260, 94, 581, 582, 583, 584, 585, 588, 589, 590, 591, 592, 593, 594, 595, 596, 597, 606, 607, 608, 609, 610, 611, 612] (by decide +kernel) (by decide +kernel)
set_option maxRecDepth 20000 in
theorem gL_refused_X6_note : GoodIn wsL_refused (wsV RL 56 RX6 yX6_note wsX6_note) := goodIn_app (goodIn_of _ (by decide +kernel)) ggL_refused_X6_note
set_option maxRecDepth 20000 in
theorem ggL_refused_X6_count : GoodIn wsL_refused wsX6_count := goodIn_r _ [362, 14, 302, 363, 353, 364, 365, 366, 367, 368, 369, 370, 371, 372, 373, 13, 374, 304, 132, 133, 24, 134, 45, 135, 136, 137, 138, 109, 11, 110, 139, 140, 141, 142, 143, 144, 32, 145, 146, 147, 148, 149, 44, 150, 88, 127, 128, 313, 314, 315, 316, 317, 318, 319, 581, 582, 583, 584, 585, 588, 589, 590, 591, 592, 593, 594, 595, 596, 597, 598, 599, 600, 601, 602, 603, 604, 605, 606, 607, 608, 609, 610, 611, 612, 615, 616, 617, 618, 619, 620, 586, 587] (by decide +kernel) (by decide +kernel)
set_option maxRecDepth 20000 in
theorem gL_refused_X6_count : GoodIn wsL_refused (wsV RL 46 RX6 yX6_count wsX6_count) := goodIn_app (goodIn_of _ (by decide +kernel)) ggL_refused_X6_count
set_option maxRecDepth 20000 in
theorem ggL_refused_X6_ended : GoodIn wsL_refused wsX6_ended := goodIn_r _ [378, 14, 379, 581, 582, 583, 584, 585, 588, 589, 590, 591, 592, 593, 594, 595, 596, 597] (by decide +kernel) (by decide +kernel)
set_option maxRecDepth 20000 in
theorem gL_refused_X6_ended : GoodIn wsL_refused (wsV RL 59 RX6 yX6_ended wsX6_ended) := goodIn_app (goodIn_of _ (by decide +kernel)) ggL_refused_X6_ended
set_option maxRecDepth 20000 in
theorem ggL_refused_X6_walk : GoodIn wsL_refused wsX6_walk := goodIn_r _ [383, 240, 14, 384, 385, 347, 179, 11, 180, 386, 247, 248, 387, 274, 275, 276, 277, 278, 279, 280, 281, 282, 176, 177, 24, 178, 33, 283, 148, 149, 44, 150, 88, 284, 285, 286, 287, 288, 289, 290, 109, 110, 291, 140, 141, 142, 45, 136, 143, 144, 32, 145, 146, 147, 127, 128, 581, 582, 583, 584, 585, 613, 614, 588, 589, 590, 591, 592, 593, 594, 595, 596, 597, 598, 599, 600, 601, 602, 603, 604, 605] (by decide +kernel) (by decide +kernel)
set_option maxRecDepth 20000 in
theorem gL_refused_X6_walk : GoodIn wsL_refused (wsV RL 115 RX6 yX6_walk wsX6_walk) := goodIn_app (goodIn_of _ (by decide +kernel)) ggL_refused_X6_walk
set_option maxRecDepth 20000 in
theorem ggL_refused_X6_hides : GoodIn wsL_refused wsX6_hides := goodIn_r _ [391, 14, 302, 331, 148, 149, 44, 150, 88, 304, 132, 133, 24, 134, 45, 135, 136, 137, 138, 109, 11, 110, 139, 140, 141, 142, 143, 144, 32, 145, 146, 147, 127, 128, 392, 393, 394, 395, 396, 306, 307, 308, 129, 130, 131, 581, 582, 583, 584, 585, 588, 589, 590, 591, 592, 593, 594, 595, 596, 597, 598, 599, 600, 601, 602, 603, 604, 605] (by decide +kernel) (by decide +kernel)
set_option maxRecDepth 20000 in
theorem gL_refused_X6_hides : GoodIn wsL_refused (wsV RL 146 RX6 yX6_hides wsX6_hides) := goodIn_app (goodIn_of _ (by decide +kernel)) ggL_refused_X6_hides
set_option maxRecDepth 20000 in
theorem ggL_refused_X6_needless : GoodIn wsL_refused wsX6_needless := goodIn_r _ [400, 14, 401, 303, 127, 11, 128, 402, 403, 404, 24, 405, 45, 135, 131, 132, 133, 134, 136, 137, 138, 109, 110, 139, 140, 141, 142, 143, 144, 32, 145, 146, 147, 148, 149, 44, 150, 88, 406, 310, 311, 312, 53, 407, 393, 394, 395, 396, 306, 307, 308, 129, 130, 581, 582, 583, 584, 585, 588, 589, 590, 591, 592, 593, 594, 595, 596, 597, 598, 599, 600, 601, 602, 603, 604, 605] (by decide +kernel) (by decide +kernel)
set_option maxRecDepth 20000 in
theorem gL_refused_X6_needless : GoodIn wsL_refused (wsV RL 152 RX6 yX6_needless wsX6_needless) := goodIn_app (goodIn_of _ (by decide +kernel)) ggL_refused_X6_needless
set_option maxRecDepth 20000 in
theorem ggL_refused_X6_longest : GoodIn wsL_refused wsX6_longest := goodIn_r _ [411, 14, 412, 413, 414, 24, 415, 45, 135, 131, 132, 133, 134, 136, 137, 138, 109, 11, 110, 139, 140, 141, 142, 143, 144, 32, 145, 146, 147, 148, 149, 44, 150, 88, 127, 128, 416, 334, 335, 336, 57, 337, 581, 582, 583, 584, 585, 588, 589, 590, 591, 592, 593, 594, 595, 596, 597, 598, 599, 600, 601, 602, 603, 604, 605] (by decide +kernel) (by decide +kernel)
set_option maxRecDepth 20000 in
theorem gL_refused_X6_longest : GoodIn wsL_refused (wsV RL 149 RX6 yX6_longest wsX6_longest) := goodIn_app (goodIn_of _ (by decide +kernel)) ggL_refused_X6_longest
set_option maxRecDepth 20000 in
theorem ggL_refused_X6_put : GoodIn wsL_refused wsX6_put := goodIn_r _ [420, 372, 421, 422, 423, 424, 425, 426, 427, 428, 429, 430, 431, 432, 433, 434, 581, 582, 583, 584, 585, 615, 616, 617, 618, 619, 620] (by decide +kernel) (by decide +kernel)
set_option maxRecDepth 20000 in
theorem gL_refused_X6_put : GoodIn wsL_refused (wsV RL 119 RX6 yX6_put wsX6_put) := goodIn_app (goodIn_of _ (by decide +kernel)) ggL_refused_X6_put
set_option maxRecDepth 20000 in
theorem gc_L_refused_X6_carryOut_1 : GoodIn wsL_refused wsX6_carryOut_r1 := goodIn_r _ [372, 13, 14, 240, 439, 440, 441, 424, 442, 443, 426, 427, 444, 445, 446, 447, 448, 449, 450, 451, 452, 453, 454, 455] (by decide +kernel) (by decide +kernel)
set_option maxRecDepth 20000 in
theorem gc_L_refused_X6_carryOut_2 : GoodIn wsL_refused wsX6_carryOut_r2 := goodIn_r _ [456, 457, 458, 459, 460, 461, 462, 463, 464, 465, 466, 467, 468, 469, 470, 471, 472, 473, 474, 475, 476, 477, 478, 479] (by decide +kernel) (by decide +kernel)
set_option maxRecDepth 20000 in
theorem gc_L_refused_X6_carryOut_3 : GoodIn wsL_refused wsX6_carryOut_r3 := goodIn_r _ [480, 481, 482, 483, 484, 485, 486, 487, 488, 489, 490, 491, 492, 493, 494, 495, 496, 497, 498, 499, 500, 501, 502, 503] (by decide +kernel) (by decide +kernel)
set_option maxRecDepth 20000 in
theorem gc_L_refused_X6_carryOut_4 : GoodIn wsL_refused wsX6_carryOut_r4 := goodIn_r _ [504, 505, 506, 507, 508, 509, 510, 511, 512, 513, 514, 515, 516, 517, 518, 519, 520, 521, 522, 523, 524, 525, 526, 527] (by decide +kernel) (by decide +kernel)
set_option maxRecDepth 20000 in
theorem gc_L_refused_X6_carryOut_5 : GoodIn wsL_refused wsX6_carryOut_r5 := goodIn_r _ [528, 529, 530, 531, 532, 533, 534, 535, 536, 537, 538, 15, 16, 17, 18, 19, 20, 21, 22, 23, 24, 25, 26, 27] (by decide +kernel) (by decide +kernel)
set_option maxRecDepth 20000 in
theorem gc_L_refused_X6_carryOut_6 : GoodIn wsL_refused wsX6_carryOut_r6 := goodIn_r _ [28, 29, 30, 31, 32, 33, 34, 35, 36, 37, 38, 39, 40, 41, 42, 43, 44, 45, 46, 47, 48, 49, 50, 51] (by decide +kernel) (by decide +kernel)
set_option maxRecDepth 20000 in
theorem gc_L_refused_X6_carryOut_7 : GoodIn wsL_refused wsX6_carryOut_r7 := goodIn_r _ [52, 53, 54, 55, 56, 57, 58, 59, 60, 61, 62, 63, 64, 65, 66, 67, 68, 69, 70, 71, 72, 73, 74, 75] (by decide +kernel) (by decide +kernel)
set_option maxRecDepth 20000 in
theorem gc_L_refused_X6_carryOut_8 : GoodIn wsL_refused wsX6_carryOut_r8 := goodIn_r _ [76, 77, 78, 79, 80, 81, 82, 83, 84, 85, 86, 87, 88, 89, 90, 91, 92, 93, 94, 95, 96, 539, 540, 541] (by decide +kernel) (by decide +kernel)
set_option maxRecDepth 20000 in
theorem gc_L_refused_X6_carryOut_9 : GoodIn wsL_refused wsX6_carryOut_r9 := goodIn_r _ [542, 543, 544, 545, 546, 547, 124, 125, 126, 127, 11, 128, 129, 130, 131, 132, 133, 134, 135, 136, 137, 138, 109, 110] (by decide +kernel) (by decide +kernel)
set_option maxRecDepth 20000 in
theorem gc_L_refused_X6_carryOut_10 : GoodIn wsL_refused wsX6_carryOut_r10 := goodIn_r _ [139, 140, 141, 142, 143, 144, 145, 146, 147, 148, 149, 150, 151, 152, 153, 154, 155, 156, 157, 158, 159, 160, 161, 162] (by decide +kernel) (by decide +kernel)
set_option maxRecDepth 20000 in
theorem gc_L_refused_X6_carryOut_11 : GoodIn wsL_refused wsX6_carryOut_r11 := goodIn_r _ [163, 105, 106, 107, 108, 164, 165, 166, 167, 168, 169, 170, 171, 172, 173, 174, 175, 176, 177, 178, 179, 180, 548, 186] (by decide +kernel) (by decide +kernel)
set_option maxRecDepth 20000 in
theorem gc_L_refused_X6_carryOut_12 : GoodIn wsL_refused wsX6_carryOut_r12 := goodIn_r _ [187, 188, 189, 190, 191, 192, 193, 194, 195, 196, 197, 198, 199, 549, 205, 206, 207, 550, 221, 222, 223, 551, 229, 230] (by decide +kernel) (by decide +kernel)
set_option maxRecDepth 20000 in
theorem gc_L_refused_X6_carryOut_13 : GoodIn wsL_refused wsX6_carryOut_r13 := goodIn_r _ [231, 232, 233, 234, 235, 552, 242, 243, 244, 245, 246, 247, 248, 249, 250, 251, 252, 253, 254, 255, 256, 257, 258, 259] (by decide +kernel) (by decide +kernel)
set_option maxRecDepth 20000 in
theorem gc_L_refused_X6_carryOut_14 : GoodIn wsL_refused wsX6_carryOut_r14 := goodIn_r _ [260, 261, 262, 263, 264, 265, 266, 267, 268, 269, 270, 271, 272, 273, 274, 275, 276, 277, 278, 279, 280, 281, 282, 283] (by decide +kernel) (by decide +kernel)
set_option maxRecDepth 20000 in
theorem gc_L_refused_X6_carryOut_15 : GoodIn wsL_refused wsX6_carryOut_r15 := goodIn_r _ [284, 285, 286, 287, 288, 289, 290, 291, 292, 293, 294, 295, 101, 102, 103, 104, 296, 553, 554, 555, 556, 557, 111, 112] (by decide +kernel) (by decide +kernel)
set_option maxRecDepth 20000 in
theorem gc_L_refused_X6_carryOut_16 : GoodIn wsL_refused wsX6_carryOut_r16 := goodIn_r _ [113, 114, 115, 116, 117, 118] (by decide +kernel) (by decide +kernel)
set_option maxRecDepth 20000 in
theorem gc_L_refused_X6_carryOut_h : GoodIn wsL_refused [.code yX6_carryOut cX6_carryOut 2 (some .int)] := goodIn_r _ [438] (by decide +kernel) (by decide +kernel)
set_option maxRecDepth 20000 in
theorem gc_L_refused_X6_carryOut_x6 : GoodIn wsL_refused wsX60 := goodIn_r _ [581, 582, 583, 584, 585] (by decide +kernel) (by decide +kernel)
set_option maxRecDepth 20000 in
theorem gc_L_refused_X6_carryOut_x3 : GoodIn wsL_refused wsX30 := goodIn_r _ [615, 616, 617, 618, 619, 620] (by decide +kernel) (by decide +kernel)
set_option maxRecDepth 20000 in
theorem gc_L_refused_X6_carryOut_x1 : GoodIn wsL_refused wsX10 := goodIn_r _ [586, 587] (by decide +kernel) (by decide +kernel)
set_option maxRecDepth 20000 in
theorem gc_L_refused_X6_carryOut_x2 : GoodIn wsL_refused wsX20 := goodIn_r _ [588, 589, 590, 591, 592, 593, 594, 595, 596, 597] (by decide +kernel) (by decide +kernel)
set_option maxRecDepth 20000 in
theorem gc_L_refused_X6_carryOut_x4 : GoodIn wsL_refused wsX40 := goodIn_r _ [598, 599, 600, 601, 602, 603, 604, 605] (by decide +kernel) (by decide +kernel)
set_option maxRecDepth 20000 in
theorem gc_L_refused_X6_carryOut_x0 : GoodIn wsL_refused wsX00 := goodIn_r _ [606, 607, 608, 609, 610, 611, 612] (by decide +kernel) (by decide +kernel)
set_option maxRecDepth 20000 in
theorem gc_L_refused_X6_carryOut_x5 : GoodIn wsL_refused wsX50 := goodIn_r _ [613, 614] (by decide +kernel) (by decide +kernel)
theorem ggL_refused_X6_carryOut : GoodIn wsL_refused wsX6_carryOut := good_cons gc_L_refused_X6_carryOut_h (good_app (good_app (good_app (good_app (good_app (good_app (good_app (good_app gc_L_refused_X6_carryOut_1 (good_app gc_L_refused_X6_carryOut_2 (good_app gc_L_refused_X6_carryOut_3 (good_app gc_L_refused_X6_carryOut_4 (good_app gc_L_refused_X6_carryOut_5 (good_app gc_L_refused_X6_carryOut_6 (good_app gc_L_refused_X6_carryOut_7 (good_app gc_L_refused_X6_carryOut_8 (good_app gc_L_refused_X6_carryOut_9 (good_app gc_L_refused_X6_carryOut_10 (good_app gc_L_refused_X6_carryOut_11 (good_app gc_L_refused_X6_carryOut_12 (good_app gc_L_refused_X6_carryOut_13 (good_app gc_L_refused_X6_carryOut_14 (good_app gc_L_refused_X6_carryOut_15 (gc_L_refused_X6_carryOut_16)))))))))))))))) gc_L_refused_X6_carryOut_x6) gc_L_refused_X6_carryOut_x3) gc_L_refused_X6_carryOut_x1) gc_L_refused_X6_carryOut_x2) gc_L_refused_X6_carryOut_x4) gc_L_refused_X6_carryOut_x0) gc_L_refused_X6_carryOut_x5)
set_option maxRecDepth 20000 in
theorem gL_refused_X6_carryOut : GoodIn wsL_refused (wsV RL 137 RX6 yX6_carryOut wsX6_carryOut) := goodIn_app (goodIn_of _ (by decide +kernel)) ggL_refused_X6_carryOut
set_option maxRecDepth 20000 in
theorem ggL_refused_X6_save : GoodIn wsL_refused wsX6_save := goodIn_r _ [561, 562, 563, 23, 24, 14, 302, 363, 564, 565, 11, 566, 567, 26, 27, 28, 29, 30, 31, 32, 33, 34, 35, 36, 37, 38, 39, 40, 41, 42, 43, 44, 45, 46, 47, 48, 49, 50, 51, 52, 53, 54, 55, 56, 57, 58, 59, 60, 61, 62, 63, 64, 65, 66, 67, 68, 568, 70, 71, 72, 73, 74, 75, 76, 77, 78, 79, 80, 81, 82, 83, 84, 85, 86, 87, 88, 89, 90, 91, 92, 93, 94, 95, 96, 581, 582, 583, 584, 585, 588, 589, 590, 591, 592, 593, 594, 595, 596, 597, 598, 599, 600, 601, 602, 603, 604, 605, 606, 607, 608, 609, 610, 611, 612] (by decide +kernel) (by decide +kernel)
set_option maxRecDepth 20000 in
theorem gL_refused_X6_save : GoodIn wsL_refused (wsV RL 156 RX6 yX6_save wsX6_save) := goodIn_app (goodIn_of _ (by decide +kernel)) ggL_refused_X6_save
set_option maxRecDepth 20000 in
theorem gc_L_refused_X6_restore_1 : GoodIn wsL_refused wsX6_restore_r1 := goodIn_r _ [562, 13, 14, 302, 363, 564, 565, 11, 566, 15, 16, 17, 18, 19, 20, 21, 22, 23, 24, 25, 26, 27, 28, 29] (by decide +kernel) (by decide +kernel)
set_option maxRecDepth 20000 in
theorem gc_L_refused_X6_restore_2 : GoodIn wsL_refused wsX6_restore_r2 := goodIn_r _ [30, 31, 32, 33, 34, 35, 36, 37, 38, 39, 40, 41, 42, 43, 44, 45, 46, 47, 48, 49, 50, 51, 52, 53] (by decide +kernel) (by decide +kernel)
set_option maxRecDepth 20000 in
theorem gc_L_refused_X6_restore_3 : GoodIn wsL_refused wsX6_restore_r3 := goodIn_r _ [54, 55, 56, 57, 58, 59, 60, 61, 62, 63, 64, 65, 66, 67, 68, 69, 70, 71, 72, 73, 74, 75, 76, 77] (by decide +kernel) (by decide +kernel)
set_option maxRecDepth 20000 in
theorem gc_L_refused_X6_restore_4 : GoodIn wsL_refused wsX6_restore_r4 := goodIn_r _ [78, 79, 80, 81, 82, 83, 84, 85, 86, 87, 88, 89, 90, 91, 92, 93, 94, 95, 96, 568, 111, 112, 113, 114] (by decide +kernel) (by decide +kernel)
set_option maxRecDepth 20000 in
theorem gc_L_refused_X6_restore_5 : GoodIn wsL_refused wsX6_restore_r5 := goodIn_r _ [115, 116, 117, 118] (by decide +kernel) (by decide +kernel)
set_option maxRecDepth 20000 in
theorem gc_L_refused_X6_restore_h : GoodIn wsL_refused [.code yX6_restore cX6_restore 3 (some .int)] := goodIn_r _ [572] (by decide +kernel) (by decide +kernel)
set_option maxRecDepth 20000 in
theorem gc_L_refused_X6_restore_x6 : GoodIn wsL_refused wsX60 := goodIn_r _ [581, 582, 583, 584, 585] (by decide +kernel) (by decide +kernel)
set_option maxRecDepth 20000 in
theorem gc_L_refused_X6_restore_x2 : GoodIn wsL_refused wsX20 := goodIn_r _ [588, 589, 590, 591, 592, 593, 594, 595, 596, 597] (by decide +kernel) (by decide +kernel)
set_option maxRecDepth 20000 in
theorem gc_L_refused_X6_restore_x4 : GoodIn wsL_refused wsX40 := goodIn_r _ [598, 599, 600, 601, 602, 603, 604, 605] (by decide +kernel) (by decide +kernel)
set_option maxRecDepth 20000 in
theorem gc_L_refused_X6_restore_x1 : GoodIn wsL_refused wsX10 := goodIn_r _ [586, 587] (by decide +kernel) (by decide +kernel)
set_option maxRecDepth 20000 in
theorem gc_L_refused_X6_restore_x0 : GoodIn wsL_refused wsX00 := goodIn_r _ [606, 607, 608, 609, 610, 611, 612] (by decide +kernel) (by decide +kernel)
theorem ggL_refused_X6_restore : GoodIn wsL_refused wsX6_restore := good_cons gc_L_refused_X6_restore_h (good_app (good_app (good_app (good_app (good_app (good_app gc_L_refused_X6_restore_1 (good_app gc_L_refused_X6_restore_2 (good_app gc_L_refused_X6_restore_3 (good_app gc_L_refused_X6_restore_4 (gc_L_refused_X6_restore_5))))) gc_L_refused_X6_restore_x6) gc_L_refused_X6_restore_x2) gc_L_refused_X6_restore_x4) gc_L_refused_X6_restore_x1) gc_L_refused_X6_restore_x0)
set_option maxRecDepth 20000 in
theorem gL_refused_X6_restore : GoodIn wsL_refused (wsV RL 159 RX6 yX6_restore wsX6_restore) := goodIn_app (goodIn_of _ (by decide +kernel)) ggL_refused_X6_restore
set_option maxRecDepth 20000 in
theorem ggL_refused_X6_undo : GoodIn wsL_refused wsX6_undo := goodIn_r _ [576, 13, 14, 577, 578, 579, 18, 580, 21, 20, 69, 70, 71, 24, 72, 32, 73, 74, 75, 76, 33, 40, 41, 45, 49, 77, 78, 79, 80, 81, 82, 83, 44, 84, 53, 85, 54, 55, 56, 57, 86, 87, 88, 89, 90, 91, 48, 92, 61, 93, 62, 63, 64, 94, 95, 96, 581, 582, 583, 584, 585, 586, 587, 588, 589, 590, 591, 592, 593, 594, 595, 596, 597, 598, 599, 600, 601, 602, 603, 604, 605, 606, 607, 608, 609, 610, 611, 612] (by decide +kernel) (by decide +kernel)
set_option maxRecDepth 20000 in
theorem gL_refused_X6_undo : GoodIn wsL_refused (wsV RL 140 RX6 yX6_undo wsX6_undo) := goodIn_app (goodIn_of _ (by decide +kernel)) ggL_refused_X6_undo
