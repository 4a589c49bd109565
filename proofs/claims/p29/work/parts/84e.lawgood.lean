set_option maxRecDepth 20000 in
theorem gL_text_X6_stamp : GoodIn wsL_text (wsV RL 72 RX6 yX6_stamp wsX6_stamp) := goodIn_app (goodIn_of _ (by decide +kernel)) ggL_text_X6_stamp
set_option maxRecDepth 20000 in
theorem gc_L_text_X6_pass_1 : GoodIn wsL_text wsX6_pass_r1 := goodIn_r _ [216, 150, 278, 279, 280, 281, 282, 283, 284, 285, 286, 159, 287, 288, 289, 290, 291, 292, 293, 174, 253, 294, 295, 296] (by decide +kernel) (by decide +kernel)
set_option maxRecDepth 20000 in
theorem gc_L_text_X6_pass_2 : GoodIn wsL_text wsX6_pass_r2 := goodIn_r _ [297, 298, 299, 300, 301, 302, 303, 180, 161, 304, 305, 265, 306, 307, 308, 309, 193, 310, 311, 312, 235, 313, 314, 315] (by decide +kernel) (by decide +kernel)
set_option maxRecDepth 20000 in
theorem gc_L_text_X6_pass_3 : GoodIn wsL_text wsX6_pass_r3 := goodIn_r _ [316, 317, 318, 319, 320, 321, 322, 323, 324, 325, 326, 327, 328, 329, 330, 331, 332, 333, 334, 335, 336, 337, 338, 339] (by decide +kernel) (by decide +kernel)
set_option maxRecDepth 20000 in
theorem gc_L_text_X6_pass_4 : GoodIn wsL_text wsX6_pass_r4 := goodIn_r _ [340, 341, 342, 182, 343, 344, 345, 346, 347, 267, 348, 349, 511, 408, 409, 410, 175, 176, 172, 177, 178, 179, 181, 187] (by decide +kernel) (by decide +kernel)
set_option maxRecDepth 20000 in
theorem gc_L_text_X6_pass_5 : GoodIn wsL_text wsX6_pass_r5 := goodIn_r _ [9, 188, 396, 397, 398, 399, 400, 401, 362, 157, 158, 160, 162, 163, 164, 165, 166, 167, 168, 169, 170, 171, 173, 154] (by decide +kernel) (by decide +kernel)
set_option maxRecDepth 20000 in
theorem gc_L_text_X6_pass_6 : GoodIn wsL_text wsX6_pass_r6 := goodIn_r _ [155, 402, 403, 404, 405, 406, 481, 482, 483, 484, 485, 486, 487, 488] (by decide +kernel) (by decide +kernel)
set_option maxRecDepth 20000 in
theorem gc_L_text_X6_pass_h : GoodIn wsL_text [.code yX6_pass cX6_pass 4 (some .int)] := goodIn_r _ [510] (by decide +kernel) (by decide +kernel)
set_option maxRecDepth 20000 in
theorem gc_L_text_X6_pass_x6 : GoodIn wsL_text wsX60 := goodIn_r _ [527, 528, 529, 530, 531] (by decide +kernel) (by decide +kernel)
set_option maxRecDepth 20000 in
theorem gc_L_text_X6_pass_x1 : GoodIn wsL_text wsX10 := goodIn_r _ [563, 564] (by decide +kernel) (by decide +kernel)
set_option maxRecDepth 20000 in
theorem gc_L_text_X6_pass_x2 : GoodIn wsL_text wsX20 := goodIn_r _ [538, 539, 540, 541, 542, 543, 544, 545, 546, 547] (by decide +kernel) (by decide +kernel)
set_option maxRecDepth 20000 in
theorem gc_L_text_X6_pass_x4 : GoodIn wsL_text wsX40 := goodIn_r _ [548, 549, 550, 551, 552, 553, 554, 555] (by decide +kernel) (by decide +kernel)
set_option maxRecDepth 20000 in
theorem gc_L_text_X6_pass_x0 : GoodIn wsL_text wsX00 := goodIn_r _ [556, 557, 558, 559, 560, 561, 562] (by decide +kernel) (by decide +kernel)
theorem ggL_text_X6_pass : GoodIn wsL_text wsX6_pass := good_cons gc_L_text_X6_pass_h (good_app (good_app (good_app (good_app (good_app (good_app gc_L_text_X6_pass_1 (good_app gc_L_text_X6_pass_2 (good_app gc_L_text_X6_pass_3 (good_app gc_L_text_X6_pass_4 (good_app gc_L_text_X6_pass_5 (gc_L_text_X6_pass_6)))))) gc_L_text_X6_pass_x6) gc_L_text_X6_pass_x1) gc_L_text_X6_pass_x2) gc_L_text_X6_pass_x4) gc_L_text_X6_pass_x0)
set_option maxRecDepth 20000 in
theorem gL_text_X6_pass : GoodIn wsL_text (wsV RL 80 RX6 yX6_pass wsX6_pass) := goodIn_app (goodIn_of _ (by decide +kernel)) ggL_text_X6_pass
set_option maxRecDepth 20000 in
theorem gc_L_text_X6_door_1 : GoodIn wsL_text wsX6_door_r1 := goodIn_r _ [216, 150, 278, 279, 280, 281, 282, 283, 284, 285, 286, 159, 287, 288, 289, 290, 291, 292, 293, 174, 253, 294, 295, 296] (by decide +kernel) (by decide +kernel)
set_option maxRecDepth 20000 in
theorem gc_L_text_X6_door_2 : GoodIn wsL_text wsX6_door_r2 := goodIn_r _ [297, 298, 299, 300, 301, 302, 303, 180, 161, 304, 305, 265, 306, 307, 308, 309, 193, 310, 311, 312, 235, 313, 314, 315] (by decide +kernel) (by decide +kernel)
set_option maxRecDepth 20000 in
theorem gc_L_text_X6_door_3 : GoodIn wsL_text wsX6_door_r3 := goodIn_r _ [316, 317, 318, 319, 320, 321, 322, 323, 324, 325, 326, 327, 328, 329, 330, 331, 332, 333, 334, 335, 336, 337, 338, 339] (by decide +kernel) (by decide +kernel)
set_option maxRecDepth 20000 in
theorem gc_L_text_X6_door_4 : GoodIn wsL_text wsX6_door_r4 := goodIn_r _ [340, 341, 342, 182, 343, 344, 345, 346, 347, 267, 348, 349, 516, 416, 417, 418, 247, 9, 248, 177, 178, 179, 181, 419] (by decide +kernel) (by decide +kernel)
set_option maxRecDepth 20000 in
theorem gc_L_text_X6_door_5 : GoodIn wsL_text wsX6_door_r5 := goodIn_r _ [420, 421, 422, 372, 373, 374, 375, 376, 377, 378, 379, 166, 167, 481, 482, 483, 484, 485, 486, 487, 488] (by decide +kernel) (by decide +kernel)
set_option maxRecDepth 20000 in
theorem gc_L_text_X6_door_h : GoodIn wsL_text [.code yX6_door cX6_door 4 (some .int)] := goodIn_r _ [515] (by decide +kernel) (by decide +kernel)
set_option maxRecDepth 20000 in
theorem gc_L_text_X6_door_x6 : GoodIn wsL_text wsX60 := goodIn_r _ [527, 528, 529, 530, 531] (by decide +kernel) (by decide +kernel)
set_option maxRecDepth 20000 in
theorem gc_L_text_X6_door_x1 : GoodIn wsL_text wsX10 := goodIn_r _ [563, 564] (by decide +kernel) (by decide +kernel)
set_option maxRecDepth 20000 in
theorem gc_L_text_X6_door_x2 : GoodIn wsL_text wsX20 := goodIn_r _ [538, 539, 540, 541, 542, 543, 544, 545, 546, 547] (by decide +kernel) (by decide +kernel)
set_option maxRecDepth 20000 in
theorem gc_L_text_X6_door_x4 : GoodIn wsL_text wsX40 := goodIn_r _ [548, 549, 550, 551, 552, 553, 554, 555] (by decide +kernel) (by decide +kernel)
set_option maxRecDepth 20000 in
theorem gc_L_text_X6_door_x0 : GoodIn wsL_text wsX00 := goodIn_r _ [556, 557, 558, 559, 560, 561, 562] (by decide +kernel) (by decide +kernel)
theorem ggL_text_X6_door : GoodIn wsL_text wsX6_door := good_cons gc_L_text_X6_door_h (good_app (good_app (good_app (good_app (good_app (good_app gc_L_text_X6_door_1 (good_app gc_L_text_X6_door_2 (good_app gc_L_text_X6_door_3 (good_app gc_L_text_X6_door_4 (gc_L_text_X6_door_5))))) gc_L_text_X6_door_x6) gc_L_text_X6_door_x1) gc_L_text_X6_door_x2) gc_L_text_X6_door_x4) gc_L_text_X6_door_x0)
set_option maxRecDepth 20000 in
theorem gL_text_X6_door : GoodIn wsL_text (wsV RL 91 RX6 yX6_door wsX6_door) := goodIn_app (goodIn_of _ (by decide +kernel)) ggL_text_X6_door
set_option maxRecDepth 20000 in
theorem gc_L_text_X6_come_1 : GoodIn wsL_text wsX6_come_r1 := goodIn_r _ [216, 150, 277, 278, 279, 280, 281, 282, 283, 284, 285, 286, 159, 287, 288, 289, 290, 291, 292, 293, 174, 253, 294, 295] (by decide +kernel) (by decide +kernel)
set_option maxRecDepth 20000 in
theorem gc_L_text_X6_come_2 : GoodIn wsL_text wsX6_come_r2 := goodIn_r _ [296, 297, 298, 299, 300, 301, 302, 303, 180, 161, 304, 305, 265, 306, 307, 308, 309, 193, 310, 311, 312, 235, 313, 314] (by decide +kernel) (by decide +kernel)
set_option maxRecDepth 20000 in
theorem gc_L_text_X6_come_3 : GoodIn wsL_text wsX6_come_r3 := goodIn_r _ [315, 316, 317, 318, 319, 320, 321, 322, 323, 324, 325, 326, 327, 328, 329, 330, 331, 332, 333, 334, 335, 336, 337, 338] (by decide +kernel) (by decide +kernel)
set_option maxRecDepth 20000 in
theorem gc_L_text_X6_come_4 : GoodIn wsL_text wsX6_come_r4 := goodIn_r _ [339, 340, 341, 342, 182, 343, 344, 345, 346, 347, 267, 348, 349, 521, 424, 425, 426, 427, 428, 247, 9, 248, 429, 430] (by decide +kernel) (by decide +kernel)
set_option maxRecDepth 20000 in
theorem gc_L_text_X6_come_5 : GoodIn wsL_text wsX6_come_r5 := goodIn_r _ [431, 432, 433, 434, 368, 369, 370, 371, 372, 373, 374, 375, 376, 377, 378, 379, 166, 167, 435, 436, 437, 438, 439, 263] (by decide +kernel) (by decide +kernel)
set_option maxRecDepth 20000 in
theorem gc_L_text_X6_come_6 : GoodIn wsL_text wsX6_come_r6 := goodIn_r _ [264, 266, 440, 441, 442, 443, 444, 445, 446, 447, 448, 449, 450, 451, 452, 453, 454, 455, 456, 457, 458, 459, 460, 461] (by decide +kernel) (by decide +kernel)
set_option maxRecDepth 20000 in
theorem gc_L_text_X6_come_7 : GoodIn wsL_text wsX6_come_r7 := goodIn_r _ [250, 251, 252, 462, 178, 179, 181, 463, 464, 465, 466, 467, 468, 469, 470, 169, 170, 171, 163, 172, 173, 175, 176, 177] (by decide +kernel) (by decide +kernel)
set_option maxRecDepth 20000 in
theorem gc_L_text_X6_come_8 : GoodIn wsL_text wsX6_come_r8 := goodIn_r _ [154, 155, 471, 472, 473, 474, 391, 475, 476, 477, 478, 479, 481, 482, 483, 484, 485, 486, 487, 488] (by decide +kernel) (by decide +kernel)
set_option maxRecDepth 20000 in
theorem gc_L_text_X6_come_h : GoodIn wsL_text [.code yX6_come cX6_come 4 (some .int)] := goodIn_r _ [520] (by decide +kernel) (by decide +kernel)
set_option maxRecDepth 20000 in
theorem gc_L_text_X6_come_x6 : GoodIn wsL_text wsX60 := goodIn_r _ [527, 528, 529, 530, 531] (by decide +kernel) (by decide +kernel)
set_option maxRecDepth 20000 in
theorem gc_L_text_X6_come_x1 : GoodIn wsL_text wsX10 := goodIn_r _ [563, 564] (by decide +kernel) (by decide +kernel)
set_option maxRecDepth 20000 in
theorem gc_L_text_X6_come_x2 : GoodIn wsL_text wsX20 := goodIn_r _ [538, 539, 540, 541, 542, 543, 544, 545, 546, 547] (by decide +kernel) (by decide +kernel)
set_option maxRecDepth 20000 in
theorem gc_L_text_X6_come_x4 : GoodIn wsL_text wsX40 := goodIn_r _ [548, 549, 550, 551, 552, 553, 554, 555] (by decide +kernel) (by decide +kernel)
set_option maxRecDepth 20000 in
theorem gc_L_text_X6_come_x0 : GoodIn wsL_text wsX00 := goodIn_r _ [556, 557, 558, 559, 560, 561, 562] (by decide +kernel) (by decide +kernel)
set_option maxRecDepth 20000 in
theorem gc_L_text_X6_come_x5 : GoodIn wsL_text wsX50 := goodIn_r _ [565, 566] (by decide +kernel) (by decide +kernel)
theorem ggL_text_X6_come : GoodIn wsL_text wsX6_come := good_cons gc_L_text_X6_come_h (good_app (good_app (good_app (good_app (good_app (good_app (good_app gc_L_text_X6_come_1 (good_app gc_L_text_X6_come_2 (good_app gc_L_text_X6_come_3 (good_app gc_L_text_X6_come_4 (good_app gc_L_text_X6_come_5 (good_app gc_L_text_X6_come_6 (good_app gc_L_text_X6_come_7 (gc_L_text_X6_come_8)))))))) gc_L_text_X6_come_x6) gc_L_text_X6_come_x1) gc_L_text_X6_come_x2) gc_L_text_X6_come_x4) gc_L_text_X6_come_x0) gc_L_text_X6_come_x5)
set_option maxRecDepth 20000 in
theorem gL_text_X6_come : GoodIn wsL_text (wsV RL 117 RX6 yX6_come wsX6_come) := goodIn_app (goodIn_of _ (by decide +kernel)) ggL_text_X6_come
set_option maxRecDepth 20000 in
theorem gc_L_text_X6_takeBack_1 : GoodIn wsL_text wsX6_takeBack_r1 := goodIn_r _ [216, 150, 278, 279, 280, 281, 282, 283, 284, 285, 286, 159, 287, 288, 289, 290, 291, 292, 293, 174, 253, 294, 295, 296] (by decide +kernel) (by decide +kernel)
set_option maxRecDepth 20000 in
theorem gc_L_text_X6_takeBack_2 : GoodIn wsL_text wsX6_takeBack_r2 := goodIn_r _ [297, 298, 299, 300, 301, 302, 303, 180, 161, 304, 305, 265, 306, 307, 308, 309, 193, 310, 311, 312, 235, 313, 314, 315] (by decide +kernel) (by decide +kernel)
set_option maxRecDepth 20000 in
theorem gc_L_text_X6_takeBack_3 : GoodIn wsL_text wsX6_takeBack_r3 := goodIn_r _ [316, 317, 318, 319, 320, 321, 322, 323, 324, 325, 326, 327, 328, 329, 330, 331, 332, 333, 334, 335, 336, 337, 338, 339] (by decide +kernel) (by decide +kernel)
set_option maxRecDepth 20000 in
theorem gc_L_text_X6_takeBack_4 : GoodIn wsL_text wsX6_takeBack_r4 := goodIn_r _ [340, 341, 342, 182, 343, 344, 345, 346, 347, 267, 348, 349, 526, 412, 413, 414, 165, 172, 177, 178, 179, 181, 166, 9] (by decide +kernel) (by decide +kernel)
set_option maxRecDepth 20000 in
theorem gc_L_text_X6_takeBack_5 : GoodIn wsL_text wsX6_takeBack_r5 := goodIn_r _ [167, 362, 157, 158, 160, 162, 163, 164, 168, 169, 170, 171, 173, 175, 176, 154, 155, 363, 364, 365, 366, 367, 368, 369] (by decide +kernel) (by decide +kernel)
set_option maxRecDepth 20000 in
theorem gc_L_text_X6_takeBack_6 : GoodIn wsL_text wsX6_takeBack_r6 := goodIn_r _ [370, 371, 372, 373, 374, 375, 376, 377, 378, 379, 380, 381, 382, 383, 384, 385, 386, 387, 388, 389, 390, 391, 250, 251] (by decide +kernel) (by decide +kernel)
set_option maxRecDepth 20000 in
theorem gc_L_text_X6_takeBack_7 : GoodIn wsL_text wsX6_takeBack_r7 := goodIn_r _ [252, 247, 248, 481, 482, 483, 484, 485, 486, 487, 488] (by decide +kernel) (by decide +kernel)
set_option maxRecDepth 20000 in
theorem gc_L_text_X6_takeBack_h : GoodIn wsL_text [.code yX6_takeBack cX6_takeBack 2 (some .int)] := goodIn_r _ [525] (by decide +kernel) (by decide +kernel)
set_option maxRecDepth 20000 in
theorem gc_L_text_X6_takeBack_x6 : GoodIn wsL_text wsX60 := goodIn_r _ [527, 528, 529, 530, 531] (by decide +kernel) (by decide +kernel)
set_option maxRecDepth 20000 in
theorem gc_L_text_X6_takeBack_x1 : GoodIn wsL_text wsX10 := goodIn_r _ [563, 564] (by decide +kernel) (by decide +kernel)
set_option maxRecDepth 20000 in
theorem gc_L_text_X6_takeBack_x2 : GoodIn wsL_text wsX20 := goodIn_r _ [538, 539, 540, 541, 542, 543, 544, 545, 546, 547] (by decide +kernel) (by decide +kernel)
set_option maxRecDepth 20000 in
theorem gc_L_text_X6_takeBack_x4 : GoodIn wsL_text wsX40 := goodIn_r _ [548, 549, 550, 551, 552, 553, 554, 555] (by decide +kernel) (by decide +kernel)
set_option maxRecDepth 20000 in
theorem gc_L_text_X6_takeBack_x0 : GoodIn wsL_text wsX00 := goodIn_r _ [556, 557, 558, 559, 560, 561, 562] (by decide +kernel) (by decide +kernel)
theorem ggL_text_X6_takeBack : GoodIn wsL_text wsX6_takeBack := good_cons gc_L_text_X6_takeBack_h (good_app (good_app (good_app (good_app (good_app (good_app gc_L_text_X6_takeBack_1 (good_app gc_L_text_X6_takeBack_2 (good_app gc_L_text_X6_takeBack_3 (good_app gc_L_text_X6_takeBack_4 (good_app gc_L_text_X6_takeBack_5 (good_app gc_L_text_X6_takeBack_6 (gc_L_text_X6_takeBack_7))))))) gc_L_text_X6_takeBack_x6) gc_L_text_X6_takeBack_x1) gc_L_text_X6_takeBack_x2) gc_L_text_X6_takeBack_x4) gc_L_text_X6_takeBack_x0)
set_option maxRecDepth 20000 in
theorem gL_text_X6_takeBack : GoodIn wsL_text (wsV RL 69 RX6 yX6_takeBack wsX6_takeBack) := goodIn_app (goodIn_of _ (by decide +kernel)) ggL_text_X6_takeBack
set_option maxRecDepth 20000 in
theorem ggL_who_X6_ofPage : GoodIn wsL_who wsX6_ofPage := goodIn_r _ [5, 6, 7, 8, 9, 10, 4, 11, 12, 13, 14, 15, 16, 17, 18, 19, 20, 21, 22, 23, 24, 25, 26, 27, 28, 29, 30, 31, 32, 33, 34, 35, 36, 37, 38, 39, 40, 41, 42, 43, 44, 45, 46, 47, 48, 49, 50, 51, 52, 53, 54, 55, 56, 106, 107, 108, 109, 110, 111, 112, 113, 114, 115, 116, 117, 118, 119, 120, 121, 122, 123, 124, 125, 126, 127, 128] (by decide +kernel) (by decide +kernel)
set_option maxRecDepth 20000 in
theorem gL_who_X6_ofPage : GoodIn wsL_who (wsV RL 43 RX6 yX6_ofPage wsX6_ofPage) := goodIn_app (goodIn_of _ (by decide +kernel)) ggL_who_X6_ofPage
set_option maxRecDepth 20000 in
theorem ggL_who_X6_count : GoodIn wsL_who wsX6_count := goodIn_r _ [60, 6, 8, 61, 62, 63, 64, 65, 66, 67, 68, 69, 70, 71, 72, 73, 74, 12, 13, 14, 15, 16, 17, 18, 19, 20, 21, 22, 4, 23, 24, 25, 26, 27, 28, 29, 30, 31, 32, 33, 34, 35, 36, 37, 38, 10, 11, 50, 51, 52, 53, 54, 55, 56, 106, 107, 108, 109, 110, 111, 112, 113, 114, 115, 116, 117, 118, 119, 120, 121, 122, 123, 124, 125, 126, 127, 128, 129, 130, 131, 132, 133, 134, 135, 136, 137, 138, 139, 140, 141, 142, 143] (by decide +kernel) (by decide +kernel)
set_option maxRecDepth 20000 in
theorem gL_who_X6_count : GoodIn wsL_who (wsV RL 46 RX6 yX6_count wsX6_count) := goodIn_app (goodIn_of _ (by decide +kernel)) ggL_who_X6_count
set_option maxRecDepth 20000 in
theorem ggL_who_X6_ofStamp : GoodIn wsL_who wsX6_ofStamp := goodIn_r _ [78, 6, 8, 79, 80, 81, 82, 83, 84, 85, 86, 34, 35, 36, 37, 38, 87, 22, 4, 23, 12, 13, 14, 15, 16, 17, 18, 19, 20, 21, 24, 25, 26, 27, 28, 29, 30, 31, 32, 33, 10, 11, 88, 89, 90, 91, 92, 93, 94, 95, 96, 97, 98, 51, 52, 53, 54, 55, 56, 106, 107, 108, 109, 110, 111, 112, 113, 114, 115, 116, 117, 118, 119, 120, 121, 122, 123, 124, 125, 126, 127, 128] (by decide +kernel) (by decide +kernel)
set_option maxRecDepth 20000 in
theorem gL_who_X6_ofStamp : GoodIn wsL_who (wsV RL 50 RX6 yX6_ofStamp wsX6_ofStamp) := goodIn_app (goodIn_of _ (by decide +kernel)) ggL_who_X6_ofStamp
set_option maxRecDepth 20000 in
theorem gc_L_who_L_good_1 : GoodIn wsL_who wsL_good_r1 := goodIn_r _ [75, 76, 77, 4, 78, 6, 8, 79, 80, 81, 82, 83, 84, 85, 86, 34, 35, 36, 37, 38, 87, 22, 23, 12] (by decide +kernel) (by decide +kernel)
set_option maxRecDepth 20000 in
theorem gc_L_who_L_good_2 : GoodIn wsL_who wsL_good_r2 := goodIn_r _ [13, 14, 15, 16, 17, 18, 19, 20, 21, 24, 25, 26, 27, 28, 29, 30, 31, 32, 33, 10, 11, 88, 89, 90] (by decide +kernel) (by decide +kernel)
set_option maxRecDepth 20000 in
theorem gc_L_who_L_good_3_0 : GoodIn wsL_who [Cond.code yX4_chainLength cX4_chainLength 4 (some .int)] := goodIn_r _ [91] (by decide +kernel) (by decide +kernel)
set_option maxRecDepth 20000 in
theorem gc_L_who_L_good_3_1 : GoodIn wsL_who [Cond.fieldLink RX4 24 "VisaPages$Stamps" "root" "[I"] := goodIn_r _ [92] (by decide +kernel) (by decide +kernel)
set_option maxRecDepth 20000 in
theorem gc_L_who_L_good_3_2 : GoodIn wsL_who [Cond.methodLink RX4 48 yX4_has] := goodIn_r _ [93] (by decide +kernel) (by decide +kernel)
set_option maxRecDepth 20000 in
theorem gc_L_who_L_good_3_3 : GoodIn wsL_who [Cond.methodLink RX6 154 yX4_countBelow] := goodIn_r _ [94] (by decide +kernel) (by decide +kernel)
set_option maxRecDepth 20000 in
theorem gc_L_who_L_good_3_4 : GoodIn wsL_who [Cond.instanceMethod yX4_countBelow] := goodIn_r _ [95] (by decide +kernel) (by decide +kernel)
set_option maxRecDepth 20000 in
theorem gc_L_who_L_good_3_5 : GoodIn wsL_who [Cond.selects RX4 yX4_countBelow yX4_countBelow] := goodIn_r _ [96] (by decide +kernel) (by decide +kernel)
set_option maxRecDepth 20000 in
theorem gc_L_who_L_good_3_6 : GoodIn wsL_who [Cond.code yX4_countBelow cX4_countBelow 5 (some .int)] := goodIn_r _ [97] (by decide +kernel) (by decide +kernel)
set_option maxRecDepth 20000 in
theorem gc_L_who_L_good_3_7 : GoodIn wsL_who [Cond.methodLink RX4 56 yJ13_bitCount_95d88] := goodIn_r _ [98] (by decide +kernel) (by decide +kernel)
set_option maxRecDepth 20000 in
theorem gc_L_who_L_good_3_8 : GoodIn wsL_who [Cond.static yJ13_bitCount_95d88] := goodIn_r _ [51] (by decide +kernel) (by decide +kernel)
set_option maxRecDepth 20000 in
theorem gc_L_who_L_good_3_9 : GoodIn wsL_who [Cond.initialized RJ13] := goodIn_r _ [52] (by decide +kernel) (by decide +kernel)
set_option maxRecDepth 20000 in
theorem gc_L_who_L_good_3_10 : GoodIn wsL_who [Cond.code yJ13_bitCount_95d88 cJ13_bitCount_95d88 2 (some .int)] := goodIn_r _ [53] (by decide +kernel) (by decide +kernel)
set_option maxRecDepth 20000 in
theorem gc_L_who_L_good_3_11 : GoodIn wsL_who [Cond.constantLong RJ13 314 (6148914691236517205)] := goodIn_r _ [54] (by decide +kernel) (by decide +kernel)
set_option maxRecDepth 20000 in
theorem gc_L_who_L_good_3_12 : GoodIn wsL_who [Cond.constantLong RJ13 316 (3689348814741910323)] := goodIn_r _ [55] (by decide +kernel) (by decide +kernel)
set_option maxRecDepth 20000 in
theorem gc_L_who_L_good_3_13 : GoodIn wsL_who [Cond.constantLong RJ13 318 (1085102592571150095)] := goodIn_r _ [56] (by decide +kernel) (by decide +kernel)
set_option maxRecDepth 20000 in
theorem gc_L_who_L_good_3_14 : GoodIn wsL_who [Cond.methodLink RL 62 yL_based] := goodIn_r _ [103] (by decide +kernel) (by decide +kernel)
set_option maxRecDepth 20000 in
theorem gc_L_who_L_good_3_15 : GoodIn wsL_who [Cond.static yL_based] := goodIn_r _ [104] (by decide +kernel) (by decide +kernel)
set_option maxRecDepth 20000 in
theorem gc_L_who_L_good_3_16 : GoodIn wsL_who [Cond.initialized RL] := goodIn_r _ [101] (by decide +kernel) (by decide +kernel)
set_option maxRecDepth 20000 in
theorem gc_L_who_L_good_3_17 : GoodIn wsL_who [Cond.code yL_based cL_based 4 (some .boolean)] := goodIn_r _ [105] rfl (by decide +kernel)
set_option maxRecDepth 20000 in
theorem gc_L_who_L_good_3_18 : GoodIn wsL_who [Cond.methodLink RL 43 yX6_ofPage] := goodIn_r _ [1] (by decide +kernel) (by decide +kernel)
set_option maxRecDepth 20000 in
theorem gc_L_who_L_good_3_19 : GoodIn wsL_who [Cond.instanceMethod yX6_ofPage] := goodIn_r _ [2] (by decide +kernel) (by decide +kernel)
set_option maxRecDepth 20000 in
theorem gc_L_who_L_good_3_20 : GoodIn wsL_who [Cond.selects RX6 yX6_ofPage yX6_ofPage] := goodIn_r _ [3] (by decide +kernel) (by decide +kernel)
set_option maxRecDepth 20000 in
theorem gc_L_who_L_good_3_21 : GoodIn wsL_who [Cond.code yX6_ofPage cX6_ofPage 3 (some .int)] := goodIn_r _ [5] (by decide +kernel) (by decide +kernel)
set_option maxRecDepth 20000 in
theorem gc_L_who_L_good_3_22 : GoodIn wsL_who [Cond.fieldLink RX6 95 "VisaPages$House" "owners" "[I"] := goodIn_r _ [7] (by decide +kernel) (by decide +kernel)
set_option maxRecDepth 20000 in
theorem gc_L_who_L_good_3_23 : GoodIn wsL_who [Cond.methodLink RX6 91 yX6_isPage] := goodIn_r _ [9] (by decide +kernel) (by decide +kernel)
theorem gc_L_who_L_good_3 : GoodIn wsL_who wsL_good_r3 := good_cons gc_L_who_L_good_3_0 (good_cons gc_L_who_L_good_3_1 (good_cons gc_L_who_L_good_3_2 (good_cons gc_L_who_L_good_3_3 (good_cons gc_L_who_L_good_3_4 (good_cons gc_L_who_L_good_3_5 (good_cons gc_L_who_L_good_3_6 (good_cons gc_L_who_L_good_3_7 (good_cons gc_L_who_L_good_3_8 (good_cons gc_L_who_L_good_3_9 (good_cons gc_L_who_L_good_3_10 (good_cons gc_L_who_L_good_3_11 (good_cons gc_L_who_L_good_3_12 (good_cons gc_L_who_L_good_3_13 (good_cons gc_L_who_L_good_3_14 (good_cons gc_L_who_L_good_3_15 (good_cons gc_L_who_L_good_3_16 (good_cons gc_L_who_L_good_3_17 (good_cons gc_L_who_L_good_3_18 (good_cons gc_L_who_L_good_3_19 (good_cons gc_L_who_L_good_3_20 (good_cons gc_L_who_L_good_3_21 (good_cons gc_L_who_L_good_3_22 (good_cons gc_L_who_L_good_3_23 (fun _ h => absurd h List.not_mem_nil))))))))))))))))))))))))
set_option maxRecDepth 20000 in
theorem gc_L_who_L_good_4 : GoodIn wsL_who wsL_good_r4 := goodIn_r _ [39, 40, 41, 42, 43, 44, 45, 46, 47, 48, 49, 50] (by decide +kernel) (by decide +kernel)
set_option maxRecDepth 20000 in
theorem gc_L_who_L_good_h : GoodIn wsL_who [.code yL_good cL_good 3 (some .boolean)] := goodIn_r _ [102] rfl (by decide +kernel)
set_option maxRecDepth 20000 in
theorem gc_L_who_L_good_x6 : GoodIn wsL_who wsX60 := goodIn_r _ [106, 107, 108, 109, 110] (by decide +kernel) (by decide +kernel)
set_option maxRecDepth 20000 in
theorem gc_L_who_L_good_x2 : GoodIn wsL_who wsX20 := goodIn_r _ [111, 112, 113, 114, 115, 116, 117, 118, 119, 120] (by decide +kernel) (by decide +kernel)
set_option maxRecDepth 20000 in
theorem gc_L_who_L_good_x4 : GoodIn wsL_who wsX40 := goodIn_r _ [121, 122, 123, 124, 125, 126, 127, 128] (by decide +kernel) (by decide +kernel)
theorem ggL_who_L_good : GoodIn wsL_who wsL_good := good_cons gc_L_who_L_good_h (good_app (good_app (good_app (good_app gc_L_who_L_good_1 (good_app gc_L_who_L_good_2 (good_app gc_L_who_L_good_3 (gc_L_who_L_good_4)))) gc_L_who_L_good_x6) gc_L_who_L_good_x2) gc_L_who_L_good_x4)
set_option maxRecDepth 20000 in
theorem gL_who_L_good : GoodIn wsL_who (va_wsS RL 84 yL_good wsL_good) := goodIn_app (goodIn_of _ (by decide +kernel)) ggL_who_L_good
set_option maxRecDepth 20000 in
theorem ggL_sound_X6_count : GoodIn wsL_sound wsX6_count := goodIn_r _ [5, 6, 7, 8, 9, 10, 11, 12, 13, 14, 15, 16, 17, 18, 19, 20, 21, 22, 23, 24, 25, 26, 27, 28, 29, 30, 31, 32, 4, 33, 34, 35, 36, 37, 38, 39, 40, 41, 42, 43, 44, 45, 46, 47, 48, 49, 50, 51, 52, 53, 54, 55, 56, 57, 177, 178, 179, 180, 181, 182, 183, 184, 185, 186, 187, 188, 189, 190, 191, 192, 193, 194, 195, 196, 197, 198, 199, 200, 201, 202, 203, 204, 205, 206, 207, 208, 209, 210, 211, 212, 213, 214] (by decide +kernel) (by decide +kernel)
set_option maxRecDepth 20000 in
theorem gL_sound_X6_count : GoodIn wsL_sound (wsV RL 46 RX6 yX6_count wsX6_count) := goodIn_app (goodIn_of _ (by decide +kernel)) ggL_sound_X6_count
set_option maxRecDepth 20000 in
theorem ggL_sound_L_up : GoodIn wsL_sound wsL_up := goodIn_r _ [61, 62] (by decide +kernel) (by decide +kernel)
set_option maxRecDepth 20000 in
theorem gL_sound_L_up : GoodIn wsL_sound (va_wsS RL 22 yL_up wsL_up) := goodIn_app (goodIn_of _ (by decide +kernel)) ggL_sound_L_up
set_option maxRecDepth 20000 in
theorem gc_L_sound_L_good_1 : GoodIn wsL_sound wsL_good_r1 := goodIn_r _ [66, 67, 68, 4, 69, 6, 7, 70, 71, 72, 73, 74, 75, 76, 77, 44, 45, 46, 47, 48, 78, 32, 33, 22] (by decide +kernel) (by decide +kernel)
set_option maxRecDepth 20000 in
theorem gc_L_sound_L_good_2 : GoodIn wsL_sound wsL_good_r2 := goodIn_r _ [23, 24, 25, 26, 27, 28, 29, 30, 31, 34, 35, 36, 37, 38, 39, 40, 41, 42, 43, 49, 50, 79, 80, 81] (by decide +kernel) (by decide +kernel)
set_option maxRecDepth 20000 in
theorem gc_L_sound_L_good_3_0 : GoodIn wsL_sound [Cond.code yX4_chainLength cX4_chainLength 4 (some .int)] := goodIn_r _ [82] (by decide +kernel) (by decide +kernel)
set_option maxRecDepth 20000 in
theorem gc_L_sound_L_good_3_1 : GoodIn wsL_sound [Cond.fieldLink RX4 24 "VisaPages$Stamps" "root" "[I"] := goodIn_r _ [83] (by decide +kernel) (by decide +kernel)
set_option maxRecDepth 20000 in
theorem gc_L_sound_L_good_3_2 : GoodIn wsL_sound [Cond.methodLink RX4 48 yX4_has] := goodIn_r _ [84] (by decide +kernel) (by decide +kernel)
set_option maxRecDepth 20000 in
theorem gc_L_sound_L_good_3_3 : GoodIn wsL_sound [Cond.methodLink RX6 154 yX4_countBelow] := goodIn_r _ [85] (by decide +kernel) (by decide +kernel)
set_option maxRecDepth 20000 in
theorem gc_L_sound_L_good_3_4 : GoodIn wsL_sound [Cond.instanceMethod yX4_countBelow] := goodIn_r _ [86] (by decide +kernel) (by decide +kernel)
set_option maxRecDepth 20000 in
theorem gc_L_sound_L_good_3_5 : GoodIn wsL_sound [Cond.selects RX4 yX4_countBelow yX4_countBelow] := goodIn_r _ [87] (by decide +kernel) (by decide +kernel)
set_option maxRecDepth 20000 in
theorem gc_L_sound_L_good_3_6 : GoodIn wsL_sound [Cond.code yX4_countBelow cX4_countBelow 5 (some .int)] := goodIn_r _ [88] (by decide +kernel) (by decide +kernel)
set_option maxRecDepth 20000 in
theorem gc_L_sound_L_good_3_7 : GoodIn wsL_sound [Cond.methodLink RX4 56 yJ13_bitCount_95d88] := goodIn_r _ [89] (by decide +kernel) (by decide +kernel)
set_option maxRecDepth 20000 in
theorem gc_L_sound_L_good_3_8 : GoodIn wsL_sound [Cond.static yJ13_bitCount_95d88] := goodIn_r _ [52] (by decide +kernel) (by decide +kernel)
set_option maxRecDepth 20000 in
theorem gc_L_sound_L_good_3_9 : GoodIn wsL_sound [Cond.initialized RJ13] := goodIn_r _ [53] (by decide +kernel) (by decide +kernel)
set_option maxRecDepth 20000 in
theorem gc_L_sound_L_good_3_10 : GoodIn wsL_sound [Cond.code yJ13_bitCount_95d88 cJ13_bitCount_95d88 2 (some .int)] := goodIn_r _ [54] (by decide +kernel) (by decide +kernel)
set_option maxRecDepth 20000 in
theorem gc_L_sound_L_good_3_11 : GoodIn wsL_sound [Cond.constantLong RJ13 314 (6148914691236517205)] := goodIn_r _ [55] (by decide +kernel) (by decide +kernel)
set_option maxRecDepth 20000 in
theorem gc_L_sound_L_good_3_12 : GoodIn wsL_sound [Cond.constantLong RJ13 316 (3689348814741910323)] := goodIn_r _ [56] (by decide +kernel) (by decide +kernel)
set_option maxRecDepth 20000 in
theorem gc_L_sound_L_good_3_13 : GoodIn wsL_sound [Cond.constantLong RJ13 318 (1085102592571150095)] := goodIn_r _ [57] (by decide +kernel) (by decide +kernel)
set_option maxRecDepth 20000 in
theorem gc_L_sound_L_good_3_14 : GoodIn wsL_sound [Cond.methodLink RL 62 yL_based] := goodIn_r _ [90] (by decide +kernel) (by decide +kernel)
set_option maxRecDepth 20000 in
theorem gc_L_sound_L_good_3_15 : GoodIn wsL_sound [Cond.static yL_based] := goodIn_r _ [91] (by decide +kernel) (by decide +kernel)
set_option maxRecDepth 20000 in
theorem gc_L_sound_L_good_3_16 : GoodIn wsL_sound [Cond.initialized RL] := goodIn_r _ [60] (by decide +kernel) (by decide +kernel)
set_option maxRecDepth 20000 in
theorem gc_L_sound_L_good_3_17 : GoodIn wsL_sound [Cond.code yL_based cL_based 4 (some .boolean)] := goodIn_r _ [92] rfl (by decide +kernel)
set_option maxRecDepth 20000 in
theorem gc_L_sound_L_good_3_18 : GoodIn wsL_sound [Cond.methodLink RL 43 yX6_ofPage] := goodIn_r _ [93] (by decide +kernel) (by decide +kernel)
set_option maxRecDepth 20000 in
theorem gc_L_sound_L_good_3_19 : GoodIn wsL_sound [Cond.instanceMethod yX6_ofPage] := goodIn_r _ [94] (by decide +kernel) (by decide +kernel)
set_option maxRecDepth 20000 in
theorem gc_L_sound_L_good_3_20 : GoodIn wsL_sound [Cond.selects RX6 yX6_ofPage yX6_ofPage] := goodIn_r _ [95] (by decide +kernel) (by decide +kernel)
set_option maxRecDepth 20000 in
theorem gc_L_sound_L_good_3_21 : GoodIn wsL_sound [Cond.code yX6_ofPage cX6_ofPage 3 (some .int)] := goodIn_r _ [96] (by decide +kernel) (by decide +kernel)
set_option maxRecDepth 20000 in
theorem gc_L_sound_L_good_3_22 : GoodIn wsL_sound [Cond.fieldLink RX6 95 "VisaPages$House" "owners" "[I"] := goodIn_r _ [97] (by decide +kernel) (by decide +kernel)
set_option maxRecDepth 20000 in
theorem gc_L_sound_L_good_3_23 : GoodIn wsL_sound [Cond.methodLink RX6 91 yX6_isPage] := goodIn_r _ [98] (by decide +kernel) (by decide +kernel)
theorem gc_L_sound_L_good_3 : GoodIn wsL_sound wsL_good_r3 := good_cons gc_L_sound_L_good_3_0 (good_cons gc_L_sound_L_good_3_1 (good_cons gc_L_sound_L_good_3_2 (good_cons gc_L_sound_L_good_3_3 (good_cons gc_L_sound_L_good_3_4 (good_cons gc_L_sound_L_good_3_5 (good_cons gc_L_sound_L_good_3_6 (good_cons gc_L_sound_L_good_3_7 (good_cons gc_L_sound_L_good_3_8 (good_cons gc_L_sound_L_good_3_9 (good_cons gc_L_sound_L_good_3_10 (good_cons gc_L_sound_L_good_3_11 (good_cons gc_L_sound_L_good_3_12 (good_cons gc_L_sound_L_good_3_13 (good_cons gc_L_sound_L_good_3_14 (good_cons gc_L_sound_L_good_3_15 (good_cons gc_L_sound_L_good_3_16 (good_cons gc_L_sound_L_good_3_17 (good_cons gc_L_sound_L_good_3_18 (good_cons gc_L_sound_L_good_3_19 (good_cons gc_L_sound_L_good_3_20 (good_cons gc_L_sound_L_good_3_21 (good_cons gc_L_sound_L_good_3_22 (good_cons gc_L_sound_L_good_3_23 (fun _ h => absurd h List.not_mem_nil))))))))))))))))))))))))
set_option maxRecDepth 20000 in
theorem gc_L_sound_L_good_4 : GoodIn wsL_sound wsL_good_r4 := goodIn_r _ [99, 100, 101, 102, 103, 104, 105, 106, 107, 108, 109, 51] (by decide +kernel) (by decide +kernel)
set_option maxRecDepth 20000 in
theorem gc_L_sound_L_good_h : GoodIn wsL_sound [.code yL_good cL_good 3 (some .boolean)] := goodIn_r _ [65] rfl (by decide +kernel)
set_option maxRecDepth 20000 in
theorem gc_L_sound_L_good_x6 : GoodIn wsL_sound wsX60 := goodIn_r _ [177, 178, 179, 180, 181] (by decide +kernel) (by decide +kernel)
set_option maxRecDepth 20000 in
theorem gc_L_sound_L_good_x2 : GoodIn wsL_sound wsX20 := goodIn_r _ [182, 183, 184, 185, 186, 187, 188, 189, 190, 191] (by decide +kernel) (by decide +kernel)
set_option maxRecDepth 20000 in
theorem gc_L_sound_L_good_x4 : GoodIn wsL_sound wsX40 := goodIn_r _ [192, 193, 194, 195, 196, 197, 198, 199] (by decide +kernel) (by decide +kernel)
theorem ggL_sound_L_good : GoodIn wsL_sound wsL_good := good_cons gc_L_sound_L_good_h (good_app (good_app (good_app (good_app gc_L_sound_L_good_1 (good_app gc_L_sound_L_good_2 (good_app gc_L_sound_L_good_3 (gc_L_sound_L_good_4)))) gc_L_sound_L_good_x6) gc_L_sound_L_good_x2) gc_L_sound_L_good_x4)
set_option maxRecDepth 20000 in
theorem gL_sound_L_good : GoodIn wsL_sound (va_wsS RL 84 yL_good wsL_good) := goodIn_app (goodIn_of _ (by decide +kernel)) ggL_sound_L_good
set_option maxRecDepth 20000 in
theorem ggL_sound_X6_ofStamp : GoodIn wsL_sound wsX6_ofStamp := goodIn_r _ [69, 6, 7, 70, 71, 72, 73, 74, 75, 76, 77, 44, 45, 46, 47, 48, 78, 32, 4, 33, 22, 23, 24, 25, 26, 27, 28, 29, 30, 31, 34, 35, 36, 37, 38, 39, 40, 41, 42, 43, 49, 50, 79, 80, 81, 82, 83, 84, 85, 86, 87, 88, 89, 52, 53, 54, 55, 56, 57, 177, 178, 179, 180, 181, 182, 183, 184, 185, 186, 187, 188, 189, 190, 191, 192, 193, 194, 195, 196, 197, 198, 199] (by decide +kernel) (by decide +kernel)
set_option maxRecDepth 20000 in
theorem gL_sound_X6_ofStamp : GoodIn wsL_sound (wsV RL 50 RX6 yX6_ofStamp wsX6_ofStamp) := goodIn_app (goodIn_of _ (by decide +kernel)) ggL_sound_X6_ofStamp
set_option maxRecDepth 20000 in
theorem gc_L_sound_L_who_1 : GoodIn wsL_sound wsL_who_r1 := goodIn_r _ [93, 94, 95, 4, 96, 6, 97, 7, 98, 49, 50, 22, 23, 24, 25, 26, 27, 28, 29, 30, 31, 32, 33, 34] (by decide +kernel) (by decide +kernel)
set_option maxRecDepth 20000 in
theorem gc_L_sound_L_who_2 : GoodIn wsL_sound wsL_who_r2 := goodIn_r _ [35, 36, 37, 38, 39, 40, 41, 42, 43, 44, 45, 46, 47, 48, 99, 100, 101, 102, 103, 104, 105, 106, 107, 108] (by decide +kernel) (by decide +kernel)
set_option maxRecDepth 20000 in
theorem gc_L_sound_L_who_3 : GoodIn wsL_sound wsL_who_r3 := goodIn_r _ [109, 51, 52, 53, 54, 55, 56, 57, 1, 2, 3, 5, 8, 9, 10, 11, 12, 13, 14, 15, 16, 17, 18, 19] (by decide +kernel) (by decide +kernel)
set_option maxRecDepth 20000 in
theorem gc_L_sound_L_who_4 : GoodIn wsL_sound wsL_who_r4 := goodIn_r _ [20, 21, 66, 67, 68, 69, 70, 71, 72, 73, 74, 75, 76, 77, 78, 79, 80, 81, 82, 83, 84, 85, 86, 87] (by decide +kernel) (by decide +kernel)
set_option maxRecDepth 20000 in
theorem gc_L_sound_L_who_5_0 : GoodIn wsL_sound [Cond.code yX4_countBelow cX4_countBelow 5 (some .int)] := goodIn_r _ [88] (by decide +kernel) (by decide +kernel)
set_option maxRecDepth 20000 in
theorem gc_L_sound_L_who_5_1 : GoodIn wsL_sound [Cond.methodLink RX4 56 yJ13_bitCount_95d88] := goodIn_r _ [89] (by decide +kernel) (by decide +kernel)
set_option maxRecDepth 20000 in
theorem gc_L_sound_L_who_5_2 : GoodIn wsL_sound [Cond.methodLink RL 84 yL_good] := goodIn_r _ [63] (by decide +kernel) (by decide +kernel)
set_option maxRecDepth 20000 in
theorem gc_L_sound_L_who_5_3 : GoodIn wsL_sound [Cond.static yL_good] := goodIn_r _ [64] (by decide +kernel) (by decide +kernel)
set_option maxRecDepth 20000 in
theorem gc_L_sound_L_who_5_4 : GoodIn wsL_sound [Cond.initialized RL] := goodIn_r _ [60] (by decide +kernel) (by decide +kernel)
set_option maxRecDepth 20000 in
theorem gc_L_sound_L_who_5_5 : GoodIn wsL_sound [Cond.code yL_good cL_good 3 (some .boolean)] := goodIn_r _ [65] rfl (by decide +kernel)
set_option maxRecDepth 20000 in
theorem gc_L_sound_L_who_5_6 : GoodIn wsL_sound [Cond.methodLink RL 62 yL_based] := goodIn_r _ [90] (by decide +kernel) (by decide +kernel)
set_option maxRecDepth 20000 in
theorem gc_L_sound_L_who_5_7 : GoodIn wsL_sound [Cond.static yL_based] := goodIn_r _ [91] (by decide +kernel) (by decide +kernel)
set_option maxRecDepth 20000 in
theorem gc_L_sound_L_who_5_8 : GoodIn wsL_sound [Cond.code yL_based cL_based 4 (some .boolean)] := goodIn_r _ [92] rfl (by decide +kernel)
theorem gc_L_sound_L_who_5 : GoodIn wsL_sound wsL_who_r5 := good_cons gc_L_sound_L_who_5_0 (good_cons gc_L_sound_L_who_5_1 (good_cons gc_L_sound_L_who_5_2 (good_cons gc_L_sound_L_who_5_3 (good_cons gc_L_sound_L_who_5_4 (good_cons gc_L_sound_L_who_5_5 (good_cons gc_L_sound_L_who_5_6 (good_cons gc_L_sound_L_who_5_7 (good_cons gc_L_sound_L_who_5_8 (fun _ h => absurd h List.not_mem_nil)))))))))
set_option maxRecDepth 20000 in
theorem gc_L_sound_L_who_h : GoodIn wsL_sound [.code yL_who cL_who 8 (some .int)] := goodIn_r _ [112] rfl (by decide +kernel)
set_option maxRecDepth 20000 in
theorem gc_L_sound_L_who_x6 : GoodIn wsL_sound wsX60 := goodIn_r _ [177, 178, 179, 180, 181] (by decide +kernel) (by decide +kernel)
set_option maxRecDepth 20000 in
theorem gc_L_sound_L_who_x2 : GoodIn wsL_sound wsX20 := goodIn_r _ [182, 183, 184, 185, 186, 187, 188, 189, 190, 191] (by decide +kernel) (by decide +kernel)
set_option maxRecDepth 20000 in
theorem gc_L_sound_L_who_x4 : GoodIn wsL_sound wsX40 := goodIn_r _ [192, 193, 194, 195, 196, 197, 198, 199] (by decide +kernel) (by decide +kernel)
set_option maxRecDepth 20000 in
theorem gc_L_sound_L_who_x0 : GoodIn wsL_sound wsX00 := goodIn_r _ [200, 201, 202, 203, 204, 205, 206] (by decide +kernel) (by decide +kernel)
set_option maxRecDepth 20000 in
theorem gc_L_sound_L_who_x3 : GoodIn wsL_sound wsX30 := goodIn_r _ [207, 208, 209, 210, 211, 212] (by decide +kernel) (by decide +kernel)
set_option maxRecDepth 20000 in
theorem gc_L_sound_L_who_x1 : GoodIn wsL_sound wsX10 := goodIn_r _ [213, 214] (by decide +kernel) (by decide +kernel)
theorem ggL_sound_L_who : GoodIn wsL_sound wsL_who := good_cons gc_L_sound_L_who_h (good_app (good_app (good_app (good_app (good_app (good_app (good_app gc_L_sound_L_who_1 (good_app gc_L_sound_L_who_2 (good_app gc_L_sound_L_who_3 (good_app gc_L_sound_L_who_4 (gc_L_sound_L_who_5))))) gc_L_sound_L_who_x6) gc_L_sound_L_who_x2) gc_L_sound_L_who_x4) gc_L_sound_L_who_x0) gc_L_sound_L_who_x3) gc_L_sound_L_who_x1)
set_option maxRecDepth 20000 in
theorem gL_sound_L_who : GoodIn wsL_sound (va_wsS RL 143 yL_who wsL_who) := goodIn_app (goodIn_of _ (by decide +kernel)) ggL_sound_L_who
set_option maxRecDepth 20000 in
theorem ggL_sound_X6_hides : GoodIn wsL_sound wsX6_hides := goodIn_r _ [116, 6, 7, 77, 44, 45, 46, 47, 48, 22, 23, 24, 25, 26, 27, 28, 29, 30, 31, 32, 4, 33, 34, 35, 36, 37, 38, 39, 40, 41, 42, 43, 49, 50, 117, 118, 119, 120, 121, 100, 101, 102, 103, 104, 122, 177, 178, 179, 180, 181, 182, 183, 184, 185, 186, 187, 188, 189, 190, 191, 192, 193, 194, 195, 196, 197, 198, 199] (by decide +kernel) (by decide +kernel)
set_option maxRecDepth 20000 in
theorem gL_sound_X6_hides : GoodIn wsL_sound (wsV RL 146 RX6 yX6_hides wsX6_hides) := goodIn_app (goodIn_of _ (by decide +kernel)) ggL_sound_X6_hides
set_option maxRecDepth 20000 in
theorem ggL_sound_X6_longest : GoodIn wsL_sound wsX6_longest := goodIn_r _ [126, 6, 127, 128, 129, 25, 130, 27, 28, 122, 23, 24, 26, 29, 30, 31, 32, 4, 33, 34, 35, 36, 37, 38, 39, 40, 41, 42, 43, 44, 45, 46, 47, 48, 49, 50, 131, 80, 81, 82, 83, 84, 177, 178, 179, 180, 181, 182, 183, 184, 185, 186, 187, 188, 189, 190, 191, 192, 193, 194, 195, 196, 197, 198, 199] (by decide +kernel) (by decide +kernel)
set_option maxRecDepth 20000 in
theorem gL_sound_X6_longest : GoodIn wsL_sound (wsV RL 149 RX6 yX6_longest wsX6_longest) := goodIn_app (goodIn_of _ (by decide +kernel)) ggL_sound_X6_longest
set_option maxRecDepth 20000 in
theorem ggL_sound_X6_ofPage : GoodIn wsL_sound wsX6_ofPage := goodIn_r _ [96, 6, 97, 7, 98, 49, 4, 50, 22, 23, 24, 25, 26, 27, 28, 29, 30, 31, 32, 33, 34, 35, 36, 37, 38, 39, 40, 41, 42, 43, 44, 45, 46, 47, 48, 99, 100, 101, 102, 103, 104, 105, 106, 107, 108, 109, 51, 52, 53, 54, 55, 56, 57, 177, 178, 179, 180, 181, 182, 183, 184, 185, 186, 187, 188, 189, 190, 191, 192, 193, 194, 195, 196, 197, 198, 199] (by decide +kernel) (by decide +kernel)
set_option maxRecDepth 20000 in
theorem gL_sound_X6_ofPage : GoodIn wsL_sound (wsV RL 43 RX6 yX6_ofPage wsX6_ofPage) := goodIn_app (goodIn_of _ (by decide +kernel)) ggL_sound_X6_ofPage
set_option maxRecDepth 20000 in
theorem ggL_sound_X6_needless : GoodIn wsL_sound wsX6_needless := goodIn_r _ [135, 6, 136, 98, 49, 4, 50, 137, 138, 139, 25, 140, 27, 28, 122, 23, 24, 26, 29, 30, 31, 32, 33, 34, 35, 36, 37, 38, 39, 40, 41, 42, 43, 44, 45, 46, 47, 48, 141, 106, 107, 108, 109, 142, 118, 119, 120, 121, 100, 101, 102, 103, 104, 177, 178, 179, 180, 181, 182, 183, 184, 185, 186, 187, 188, 189, 190, 191, 192, 193, 194, 195, 196, 197, 198, 199] (by decide +kernel) (by decide +kernel)
set_option maxRecDepth 20000 in
theorem gL_sound_X6_needless : GoodIn wsL_sound (wsV RL 152 RX6 yX6_needless wsX6_needless) := goodIn_app (goodIn_of _ (by decide +kernel)) ggL_sound_X6_needless
set_option maxRecDepth 20000 in
theorem ggL_sound_X6_ended : GoodIn wsL_sound wsX6_ended := goodIn_r _ [146, 6, 147, 177, 178, 179, 180, 181, 182, 183, 184, 185, 186, 187, 188, 189, 190, 191] (by decide +kernel) (by decide +kernel)
set_option maxRecDepth 20000 in
theorem gL_sound_X6_ended : GoodIn wsL_sound (wsV RL 59 RX6 yX6_ended wsX6_ended) := goodIn_app (goodIn_of _ (by decide +kernel)) ggL_sound_X6_ended
set_option maxRecDepth 20000 in
theorem ggL_sound_X6_note : GoodIn wsL_sound wsX6_note := goodIn_r _ [151, 6, 9, 152, 153, 154, 155, 156, 157, 158, 159, 160, 161, 177, 178, 179, 180, 181, 182, 183, 184, 185, 186, 187, 188, 189, 190, 191, 200, 201, 202, 203, 204, 205, 206] (by decide +kernel) (by decide +kernel)
set_option maxRecDepth 20000 in
theorem gL_sound_X6_note : GoodIn wsL_sound (wsV RL 56 RX6 yX6_note wsX6_note) := goodIn_app (goodIn_of _ (by decide +kernel)) ggL_sound_X6_note
set_option maxRecDepth 20000 in
theorem ggL_sound_X6_leads : GoodIn wsL_sound wsX6_leads := goodIn_r _ [165, 6, 166, 167, 4, 168, 169, 170, 171, 25, 172, 173, 177, 178, 179, 180, 181, 182, 183, 184, 185, 186, 187, 188, 189, 190, 191] (by decide +kernel) (by decide +kernel)
set_option maxRecDepth 20000 in
theorem gL_sound_X6_leads : GoodIn wsL_sound (wsV RL 53 RX6 yX6_leads wsX6_leads) := goodIn_app (goodIn_of _ (by decide +kernel)) ggL_sound_X6_leads
set_option maxRecDepth 20000 in
theorem gc_L_sound_L_walk_1 : GoodIn wsL_sound wsL_walk_r1 := goodIn_r _ [162, 163, 164, 4, 165, 6, 166, 167, 168, 169, 170, 171, 25, 172, 173, 66, 67, 68, 69, 7, 70, 71, 72, 73] (by decide +kernel) (by decide +kernel)
set_option maxRecDepth 20000 in
theorem gc_L_sound_L_walk_2 : GoodIn wsL_sound wsL_walk_r2 := goodIn_r _ [74, 75, 76, 77, 44, 45, 46, 47, 48, 78, 32, 33, 22, 23, 24, 26, 27, 28, 29, 30, 31, 34, 35, 36] (by decide +kernel) (by decide +kernel)
set_option maxRecDepth 20000 in
theorem gc_L_sound_L_walk_3 : GoodIn wsL_sound wsL_walk_r3 := goodIn_r _ [37, 38, 39, 40, 41, 42, 43, 49, 50, 79, 80, 81, 82, 83, 84, 85, 86, 87, 88, 89, 52, 53, 54, 55] (by decide +kernel) (by decide +kernel)
set_option maxRecDepth 20000 in
theorem gc_L_sound_L_walk_4_0 : GoodIn wsL_sound [Cond.constantLong RJ13 316 (3689348814741910323)] := goodIn_r _ [56] (by decide +kernel) (by decide +kernel)
set_option maxRecDepth 20000 in
theorem gc_L_sound_L_walk_4_1 : GoodIn wsL_sound [Cond.constantLong RJ13 318 (1085102592571150095)] := goodIn_r _ [57] (by decide +kernel) (by decide +kernel)
set_option maxRecDepth 20000 in
theorem gc_L_sound_L_walk_4_2 : GoodIn wsL_sound [Cond.methodLink RL 62 yL_based] := goodIn_r _ [90] (by decide +kernel) (by decide +kernel)
set_option maxRecDepth 20000 in
theorem gc_L_sound_L_walk_4_3 : GoodIn wsL_sound [Cond.static yL_based] := goodIn_r _ [91] (by decide +kernel) (by decide +kernel)
set_option maxRecDepth 20000 in
theorem gc_L_sound_L_walk_4_4 : GoodIn wsL_sound [Cond.initialized RL] := goodIn_r _ [60] (by decide +kernel) (by decide +kernel)
set_option maxRecDepth 20000 in
theorem gc_L_sound_L_walk_4_5 : GoodIn wsL_sound [Cond.code yL_based cL_based 4 (some .boolean)] := goodIn_r _ [92] rfl (by decide +kernel)
set_option maxRecDepth 20000 in
theorem gc_L_sound_L_walk_4_6 : GoodIn wsL_sound [Cond.methodLink RL 43 yX6_ofPage] := goodIn_r _ [93] (by decide +kernel) (by decide +kernel)
set_option maxRecDepth 20000 in
theorem gc_L_sound_L_walk_4_7 : GoodIn wsL_sound [Cond.instanceMethod yX6_ofPage] := goodIn_r _ [94] (by decide +kernel) (by decide +kernel)
set_option maxRecDepth 20000 in
theorem gc_L_sound_L_walk_4_8 : GoodIn wsL_sound [Cond.selects RX6 yX6_ofPage yX6_ofPage] := goodIn_r _ [95] (by decide +kernel) (by decide +kernel)
set_option maxRecDepth 20000 in
theorem gc_L_sound_L_walk_4_9 : GoodIn wsL_sound [Cond.code yX6_ofPage cX6_ofPage 3 (some .int)] := goodIn_r _ [96] (by decide +kernel) (by decide +kernel)
set_option maxRecDepth 20000 in
theorem gc_L_sound_L_walk_4_10 : GoodIn wsL_sound [Cond.fieldLink RX6 95 "VisaPages$House" "owners" "[I"] := goodIn_r _ [97] (by decide +kernel) (by decide +kernel)
set_option maxRecDepth 20000 in
theorem gc_L_sound_L_walk_4_11 : GoodIn wsL_sound [Cond.methodLink RX6 91 yX6_isPage] := goodIn_r _ [98] (by decide +kernel) (by decide +kernel)
set_option maxRecDepth 20000 in
theorem gc_L_sound_L_walk_4_12 : GoodIn wsL_sound [Cond.methodLink RX6 103 yX2_guestsWith] := goodIn_r _ [99] (by decide +kernel) (by decide +kernel)
set_option maxRecDepth 20000 in
theorem gc_L_sound_L_walk_4_13 : GoodIn wsL_sound [Cond.instanceMethod yX2_guestsWith] := goodIn_r _ [100] (by decide +kernel) (by decide +kernel)
set_option maxRecDepth 20000 in
theorem gc_L_sound_L_walk_4_14 : GoodIn wsL_sound [Cond.selects RX2 yX2_guestsWith yX2_guestsWith] := goodIn_r _ [101] (by decide +kernel) (by decide +kernel)
set_option maxRecDepth 20000 in
theorem gc_L_sound_L_walk_4_15 : GoodIn wsL_sound [Cond.code yX2_guestsWith cX2_guestsWith 7 (some .int)] := goodIn_r _ [102] (by decide +kernel) (by decide +kernel)
set_option maxRecDepth 20000 in
theorem gc_L_sound_L_walk_4_16 : GoodIn wsL_sound [Cond.static yX6_isGuest] := goodIn_r _ [103] (by decide +kernel) (by decide +kernel)
set_option maxRecDepth 20000 in
theorem gc_L_sound_L_walk_4_17 : GoodIn wsL_sound [Cond.code yX6_isGuest cX6_isGuest 1 (some .boolean)] := goodIn_r _ [104] (by decide +kernel) (by decide +kernel)
set_option maxRecDepth 20000 in
theorem gc_L_sound_L_walk_4_18 : GoodIn wsL_sound [Cond.methodLink RX6 111 yX4_ofOnePage] := goodIn_r _ [105] (by decide +kernel) (by decide +kernel)
set_option maxRecDepth 20000 in
theorem gc_L_sound_L_walk_4_19 : GoodIn wsL_sound [Cond.instanceMethod yX4_ofOnePage] := goodIn_r _ [106] (by decide +kernel) (by decide +kernel)
set_option maxRecDepth 20000 in
theorem gc_L_sound_L_walk_4_20 : GoodIn wsL_sound [Cond.selects RX4 yX4_ofOnePage yX4_ofOnePage] := goodIn_r _ [107] (by decide +kernel) (by decide +kernel)
set_option maxRecDepth 20000 in
theorem gc_L_sound_L_walk_4_21 : GoodIn wsL_sound [Cond.code yX4_ofOnePage cX4_ofOnePage 5 (some .long)] := goodIn_r _ [108] (by decide +kernel) (by decide +kernel)
set_option maxRecDepth 20000 in
theorem gc_L_sound_L_walk_4_22 : GoodIn wsL_sound [Cond.fieldLink RX4 9 "VisaPages$Stamps" "page" "[I"] := goodIn_r _ [109] (by decide +kernel) (by decide +kernel)
set_option maxRecDepth 20000 in
theorem gc_L_sound_L_walk_4_23 : GoodIn wsL_sound [Cond.methodLink RX6 116 yJ13_bitCount_95d88] := goodIn_r _ [51] (by decide +kernel) (by decide +kernel)
theorem gc_L_sound_L_walk_4 : GoodIn wsL_sound wsL_walk_r4 := good_cons gc_L_sound_L_walk_4_0 (good_cons gc_L_sound_L_walk_4_1 (good_cons gc_L_sound_L_walk_4_2 (good_cons gc_L_sound_L_walk_4_3 (good_cons gc_L_sound_L_walk_4_4 (good_cons gc_L_sound_L_walk_4_5 (good_cons gc_L_sound_L_walk_4_6 (good_cons gc_L_sound_L_walk_4_7 (good_cons gc_L_sound_L_walk_4_8 (good_cons gc_L_sound_L_walk_4_9 (good_cons gc_L_sound_L_walk_4_10 (good_cons gc_L_sound_L_walk_4_11 (good_cons gc_L_sound_L_walk_4_12 (good_cons gc_L_sound_L_walk_4_13 (good_cons gc_L_sound_L_walk_4_14 (good_cons gc_L_sound_L_walk_4_15 (good_cons gc_L_sound_L_walk_4_16 (good_cons gc_L_sound_L_walk_4_17 (good_cons gc_L_sound_L_walk_4_18 (good_cons gc_L_sound_L_walk_4_19 (good_cons gc_L_sound_L_walk_4_20 (good_cons gc_L_sound_L_walk_4_21 (good_cons gc_L_sound_L_walk_4_22 (good_cons gc_L_sound_L_walk_4_23 (fun _ h => absurd h List.not_mem_nil))))))))))))))))))))))))
set_option maxRecDepth 20000 in
theorem gc_L_sound_L_walk_h : GoodIn wsL_sound [.code yL_walk cL_walk 7 (some .int)] := goodIn_r _ [176] rfl (by decide +kernel)
set_option maxRecDepth 20000 in
theorem gc_L_sound_L_walk_x6 : GoodIn wsL_sound wsX60 := goodIn_r _ [177, 178, 179, 180, 181] (by decide +kernel) (by decide +kernel)
set_option maxRecDepth 20000 in
theorem gc_L_sound_L_walk_x2 : GoodIn wsL_sound wsX20 := goodIn_r _ [182, 183, 184, 185, 186, 187, 188, 189, 190, 191] (by decide +kernel) (by decide +kernel)
set_option maxRecDepth 20000 in
theorem gc_L_sound_L_walk_x4 : GoodIn wsL_sound wsX40 := goodIn_r _ [192, 193, 194, 195, 196, 197, 198, 199] (by decide +kernel) (by decide +kernel)
theorem ggL_sound_L_walk : GoodIn wsL_sound wsL_walk := good_cons gc_L_sound_L_walk_h (good_app (good_app (good_app (good_app gc_L_sound_L_walk_1 (good_app gc_L_sound_L_walk_2 (good_app gc_L_sound_L_walk_3 (gc_L_sound_L_walk_4)))) gc_L_sound_L_walk_x6) gc_L_sound_L_walk_x2) gc_L_sound_L_walk_x4)
set_option maxRecDepth 20000 in
theorem gL_sound_L_walk : GoodIn wsL_sound (va_wsS RL 111 yL_walk wsL_walk) := goodIn_app (goodIn_of _ (by decide +kernel)) ggL_sound_L_walk
set_option maxRecDepth 20000 in
theorem gc_L_back_L_print_1 : GoodIn wsL_back wsL_print_r1 := goodIn_r _ [5, 6, 7, 8, 9, 10, 11, 12, 13, 14, 15, 16, 17, 18, 19, 20, 21, 22, 23, 24, 25, 26, 27, 28] (by decide +kernel) (by decide +kernel)
set_option maxRecDepth 20000 in
theorem gc_L_back_L_print_2 : GoodIn wsL_back wsL_print_r2 := goodIn_r _ [29, 30, 31, 32, 33, 34, 35, 36, 37, 38, 39, 40, 41, 42, 43, 44, 45, 46, 47, 48, 49, 50, 51, 52] (by decide +kernel) (by decide +kernel)
set_option maxRecDepth 20000 in
theorem gc_L_back_L_print_3 : GoodIn wsL_back wsL_print_r3 := goodIn_r _ [53, 54, 55, 56, 57, 58, 59, 60, 61, 62, 63, 64, 65, 66, 67, 68, 69, 70, 71, 72, 73, 74, 75, 76] (by decide +kernel) (by decide +kernel)
set_option maxRecDepth 20000 in
theorem gc_L_back_L_print_4 : GoodIn wsL_back wsL_print_r4 := goodIn_r _ [77, 78, 79, 80, 81, 82, 83, 84, 85, 86, 87, 88, 89, 90, 91, 92, 93, 94, 95, 96, 97, 98, 99, 100] (by decide +kernel) (by decide +kernel)
set_option maxRecDepth 20000 in
theorem gc_L_back_L_print_5 : GoodIn wsL_back wsL_print_r5 := goodIn_r _ [101, 102, 103, 104, 105, 106, 107, 108, 109, 110, 111, 112, 113, 114, 115, 116, 117, 118, 119, 120, 121, 122, 123, 124] (by decide +kernel) (by decide +kernel)
set_option maxRecDepth 20000 in
theorem gc_L_back_L_print_6 : GoodIn wsL_back wsL_print_r6 := goodIn_r _ [125, 126, 127, 128, 129, 130, 131, 132, 133, 134, 135] (by decide +kernel) (by decide +kernel)
set_option maxRecDepth 20000 in
theorem gc_L_back_L_print_h : GoodIn wsL_back [.code yL_print cL_print 5 (some .long)] := goodIn_r _ [4] rfl (by decide +kernel)
set_option maxRecDepth 20000 in
theorem gc_L_back_L_print_x6 : GoodIn wsL_back wsX60 := goodIn_r _ [376, 377, 378, 379, 380] (by decide +kernel) (by decide +kernel)
set_option maxRecDepth 20000 in
theorem gc_L_back_L_print_x2 : GoodIn wsL_back wsX20 := goodIn_r _ [381, 382, 383, 384, 385, 386, 387, 388, 389, 390] (by decide +kernel) (by decide +kernel)
set_option maxRecDepth 20000 in
theorem gc_L_back_L_print_x4 : GoodIn wsL_back wsX40 := goodIn_r _ [391, 392, 393, 394, 395, 396, 397, 398] (by decide +kernel) (by decide +kernel)
set_option maxRecDepth 20000 in
theorem gc_L_back_L_print_x0 : GoodIn wsL_back wsX00 := goodIn_r _ [399, 400, 401, 402, 403, 404, 405] (by decide +kernel) (by decide +kernel)
set_option maxRecDepth 20000 in
theorem gc_L_back_L_print_x3 : GoodIn wsL_back wsX30 := goodIn_r _ [406, 407, 408, 409, 410, 411] (by decide +kernel) (by decide +kernel)
set_option maxRecDepth 20000 in
theorem gc_L_back_L_print_x1 : GoodIn wsL_back wsX10 := goodIn_r _ [412, 413] (by decide +kernel) (by decide +kernel)
theorem ggL_back_L_print : GoodIn wsL_back wsL_print := good_cons gc_L_back_L_print_h (good_app (good_app (good_app (good_app (good_app (good_app (good_app gc_L_back_L_print_1 (good_app gc_L_back_L_print_2 (good_app gc_L_back_L_print_3 (good_app gc_L_back_L_print_4 (good_app gc_L_back_L_print_5 (gc_L_back_L_print_6)))))) gc_L_back_L_print_x6) gc_L_back_L_print_x2) gc_L_back_L_print_x4) gc_L_back_L_print_x0) gc_L_back_L_print_x3) gc_L_back_L_print_x1)
set_option maxRecDepth 20000 in
theorem gL_back_L_print : GoodIn wsL_back (va_wsS RL 133 yL_print wsL_print) := goodIn_app (goodIn_of _ (by decide +kernel)) ggL_back_L_print
set_option maxRecDepth 20000 in
theorem ggL_back_X6_count : GoodIn wsL_back wsX6_count := goodIn_r _ [66, 12, 14, 67, 68, 69, 70, 71, 72, 73, 74, 75, 76, 77, 78, 79, 80, 18, 19, 20, 21, 22, 23, 24, 25, 26, 27, 28, 10, 29, 30, 31, 32, 33, 34, 35, 36, 37, 38, 39, 40, 41, 42, 43, 44, 16, 17, 56, 57, 58, 59, 60, 61, 62, 376, 377, 378, 379, 380, 381, 382, 383, 384, 385, 386, 387, 388, 389, 390, 391, 392, 393, 394, 395, 396, 397, 398, 399, 400, 401, 402, 403, 404, 405, 406, 407, 408, 409, 410, 411, 412, 413] (by decide +kernel) (by decide +kernel)
set_option maxRecDepth 20000 in
theorem gL_back_X6_count : GoodIn wsL_back (wsV RL 46 RX6 yX6_count wsX6_count) := goodIn_app (goodIn_of _ (by decide +kernel)) ggL_back_X6_count
set_option maxRecDepth 20000 in
theorem ggL_back_L_up : GoodIn wsL_back wsL_up := goodIn_r _ [138, 139] (by decide +kernel) (by decide +kernel)
set_option maxRecDepth 20000 in
theorem gL_back_L_up : GoodIn wsL_back (va_wsS RL 22 yL_up wsL_up) := goodIn_app (goodIn_of _ (by decide +kernel)) ggL_back_L_up
set_option maxRecDepth 20000 in
theorem ggL_back_X6_save : GoodIn wsL_back wsX6_save := goodIn_r _ [143, 144, 145, 146, 21, 12, 14, 67, 147, 148, 10, 149, 150, 151, 152, 153, 154, 155, 156, 36, 116, 157, 158, 159, 160, 161, 162, 163, 164, 165, 166, 42, 23, 167, 168, 128, 169, 170, 171, 172, 55, 173, 174, 175, 98, 176, 177, 178, 179, 180, 181, 182, 183, 184, 185, 186, 187, 188, 189, 190, 191, 192, 193, 194, 195, 196, 197, 198, 199, 200, 201, 202, 203, 204, 205, 44, 206, 207, 208, 209, 210, 130, 211, 212, 376, 377, 378, 379, 380, 381, 382, 383, 384, 385, 386, 387, 388, 389, 390, 391, 392, 393, 394, 395, 396, 397, 398, 399, 400, 401, 402, 403, 404, 405] (by decide +kernel) (by decide +kernel)
set_option maxRecDepth 20000 in
theorem gL_back_X6_save : GoodIn wsL_back (wsV RL 156 RX6 yX6_save wsX6_save) := goodIn_app (goodIn_of _ (by decide +kernel)) ggL_back_X6_save
set_option maxRecDepth 20000 in
theorem gc_L_back_X6_own_1 : GoodIn wsL_back wsX6_own_r1 := goodIn_r _ [79, 12, 217, 218, 219, 220, 221, 222, 223, 224, 146, 21, 225, 151, 152, 153, 154, 155, 156, 36, 116, 157, 158, 159] (by decide +kernel) (by decide +kernel)
set_option maxRecDepth 20000 in
theorem gc_L_back_X6_own_2 : GoodIn wsL_back wsX6_own_r2 := goodIn_r _ [160, 161, 162, 163, 164, 165, 166, 42, 23, 167, 168, 128, 169, 170, 171, 172, 55, 173, 174, 175, 98, 176, 177, 178] (by decide +kernel) (by decide +kernel)
set_option maxRecDepth 20000 in
theorem gc_L_back_X6_own_3 : GoodIn wsL_back wsX6_own_r3 := goodIn_r _ [179, 180, 181, 182, 183, 184, 185, 186, 226, 188, 189, 190, 191, 192, 193, 194, 195, 196, 197, 198, 199, 200, 201, 202] (by decide +kernel) (by decide +kernel)
set_option maxRecDepth 20000 in
theorem gc_L_back_X6_own_4 : GoodIn wsL_back wsX6_own_r4 := goodIn_r _ [203, 204, 205, 44, 206, 207, 208, 209, 210, 130, 211, 212, 227, 228, 229, 230, 16, 10, 17, 49, 50, 231, 19, 20] (by decide +kernel) (by decide +kernel)
set_option maxRecDepth 20000 in
theorem gc_L_back_X6_own_5 : GoodIn wsL_back wsX6_own_r5 := goodIn_r _ [22, 24, 25, 26, 27, 28, 29, 30, 31, 32, 33, 34, 35, 37, 38, 39, 40, 41, 43, 232, 233, 234, 235, 236] (by decide +kernel) (by decide +kernel)
set_option maxRecDepth 20000 in
theorem gc_L_back_X6_own_6 : GoodIn wsL_back wsX6_own_r6 := goodIn_r _ [237, 238, 239, 240, 241, 242, 243, 244, 245, 246, 247, 248, 249, 250, 251, 252, 253, 254, 255, 256, 257, 258, 259, 260] (by decide +kernel) (by decide +kernel)
set_option maxRecDepth 20000 in
theorem gc_L_back_X6_own_7 : GoodIn wsL_back wsX6_own_r7 := goodIn_r _ [113, 114, 115, 110, 111, 261, 262, 263, 264, 265, 266, 267, 268] (by decide +kernel) (by decide +kernel)
set_option maxRecDepth 20000 in
theorem gc_L_back_X6_own_h : GoodIn wsL_back [.code yX6_own cX6_own 3 (some .int)] := goodIn_r _ [216] (by decide +kernel) (by decide +kernel)
set_option maxRecDepth 20000 in
theorem gc_L_back_X6_own_x6 : GoodIn wsL_back wsX60 := goodIn_r _ [376, 377, 378, 379, 380] (by decide +kernel) (by decide +kernel)
set_option maxRecDepth 20000 in
theorem gc_L_back_X6_own_x1 : GoodIn wsL_back wsX10 := goodIn_r _ [412, 413] (by decide +kernel) (by decide +kernel)
set_option maxRecDepth 20000 in
theorem gc_L_back_X6_own_x2 : GoodIn wsL_back wsX20 := goodIn_r _ [381, 382, 383, 384, 385, 386, 387, 388, 389, 390] (by decide +kernel) (by decide +kernel)
set_option maxRecDepth 20000 in
theorem gc_L_back_X6_own_x4 : GoodIn wsL_back wsX40 := goodIn_r _ [391, 392, 393, 394, 395, 396, 397, 398] (by decide +kernel) (by decide +kernel)
set_option maxRecDepth 20000 in
theorem gc_L_back_X6_own_x0 : GoodIn wsL_back wsX00 := goodIn_r _ [399, 400, 401, 402, 403, 404, 405] (by decide +kernel) (by decide +kernel)
theorem ggL_back_X6_own : GoodIn wsL_back wsX6_own := good_cons gc_L_back_X6_own_h (good_app (good_app (good_app (good_app (good_app (good_app gc_L_back_X6_own_1 (good_app gc_L_back_X6_own_2 (good_app gc_L_back_X6_own_3 (good_app gc_L_back_X6_own_4 (good_app gc_L_back_X6_own_5 (good_app gc_L_back_X6_own_6 (gc_L_back_X6_own_7))))))) gc_L_back_X6_own_x6) gc_L_back_X6_own_x1) gc_L_back_X6_own_x2) gc_L_back_X6_own_x4) gc_L_back_X6_own_x0)
set_option maxRecDepth 20000 in
theorem gL_back_X6_own : GoodIn wsL_back (wsV RL 108 RX6 yX6_own wsX6_own) := goodIn_app (goodIn_of _ (by decide +kernel)) ggL_back_X6_own
set_option maxRecDepth 20000 in
theorem gc_L_back_X6_flush_1 : GoodIn wsL_back wsX6_flush_r1 := goodIn_r _ [79, 12, 68, 217, 218, 219, 220, 221, 222, 223, 224, 146, 21, 225, 151, 152, 153, 154, 155, 156, 36, 116, 157, 158] (by decide +kernel) (by decide +kernel)
set_option maxRecDepth 20000 in
theorem gc_L_back_X6_flush_2 : GoodIn wsL_back wsX6_flush_r2 := goodIn_r _ [159, 160, 161, 162, 163, 164, 165, 166, 42, 23, 167, 168, 128, 169, 170, 171, 172, 55, 173, 174, 175, 98, 176, 177] (by decide +kernel) (by decide +kernel)
set_option maxRecDepth 20000 in
theorem gc_L_back_X6_flush_3 : GoodIn wsL_back wsX6_flush_r3 := goodIn_r _ [178, 179, 180, 181, 182, 183, 184, 185, 186, 226, 188, 189, 190, 191, 192, 193, 194, 195, 196, 197, 198, 199, 200, 201] (by decide +kernel) (by decide +kernel)
set_option maxRecDepth 20000 in
theorem gc_L_back_X6_flush_4 : GoodIn wsL_back wsX6_flush_r4 := goodIn_r _ [202, 203, 204, 205, 44, 206, 207, 208, 209, 210, 130, 211, 212, 273, 238, 239, 240, 274, 242, 243, 244, 245, 246, 247] (by decide +kernel) (by decide +kernel)
set_option maxRecDepth 20000 in
theorem gc_L_back_X6_flush_5 : GoodIn wsL_back wsX6_flush_r5 := goodIn_r _ [248, 28, 10, 29, 261, 262, 263, 264, 265, 266, 267, 268] (by decide +kernel) (by decide +kernel)
set_option maxRecDepth 20000 in
theorem gc_L_back_X6_flush_h : GoodIn wsL_back [.code yX6_flush cX6_flush 1 (some .int)] := goodIn_r _ [272] (by decide +kernel) (by decide +kernel)
set_option maxRecDepth 20000 in
theorem gc_L_back_X6_flush_x6 : GoodIn wsL_back wsX60 := goodIn_r _ [376, 377, 378, 379, 380] (by decide +kernel) (by decide +kernel)
set_option maxRecDepth 20000 in
theorem gc_L_back_X6_flush_x2 : GoodIn wsL_back wsX20 := goodIn_r _ [381, 382, 383, 384, 385, 386, 387, 388, 389, 390] (by decide +kernel) (by decide +kernel)
set_option maxRecDepth 20000 in
theorem gc_L_back_X6_flush_x1 : GoodIn wsL_back wsX10 := goodIn_r _ [412, 413] (by decide +kernel) (by decide +kernel)
set_option maxRecDepth 20000 in
theorem gc_L_back_X6_flush_x4 : GoodIn wsL_back wsX40 := goodIn_r _ [391, 392, 393, 394, 395, 396, 397, 398] (by decide +kernel) (by decide +kernel)
set_option maxRecDepth 20000 in
theorem gc_L_back_X6_flush_x0 : GoodIn wsL_back wsX00 := goodIn_r _ [399, 400, 401, 402, 403, 404, 405] (by decide +kernel) (by decide +kernel)
theorem ggL_back_X6_flush : GoodIn wsL_back wsX6_flush := good_cons gc_L_back_X6_flush_h (good_app (good_app (good_app (good_app (good_app (good_app gc_L_back_X6_flush_1 (good_app gc_L_back_X6_flush_2 (good_app gc_L_back_X6_flush_3 (good_app gc_L_back_X6_flush_4 (gc_L_back_X6_flush_5))))) gc_L_back_X6_flush_x6) gc_L_back_X6_flush_x2) gc_L_back_X6_flush_x1) gc_L_back_X6_flush_x4) gc_L_back_X6_flush_x0)
set_option maxRecDepth 20000 in
theorem gL_back_X6_flush : GoodIn wsL_back (wsV RL 104 RX6 yX6_flush wsX6_flush) := goodIn_app (goodIn_of _ (by decide +kernel)) ggL_back_X6_flush
set_option maxRecDepth 20000 in
theorem gc_L_back_X6_forge_1 : GoodIn wsL_back wsX6_forge_r1 := goodIn_r _ [79, 12, 217, 218, 219, 220, 221, 222, 223, 224, 146, 21, 225, 151, 152, 153, 154, 155, 156, 36, 116, 157, 158, 159] (by decide +kernel) (by decide +kernel)
set_option maxRecDepth 20000 in
theorem gc_L_back_X6_forge_2 : GoodIn wsL_back wsX6_forge_r2 := goodIn_r _ [160, 161, 162, 163, 164, 165, 166, 42, 23, 167, 168, 128, 169, 170, 171, 172, 55, 173, 174, 175, 98, 176, 177, 178] (by decide +kernel) (by decide +kernel)
set_option maxRecDepth 20000 in
theorem gc_L_back_X6_forge_3 : GoodIn wsL_back wsX6_forge_r3 := goodIn_r _ [179, 180, 181, 182, 183, 184, 185, 186, 226, 188, 189, 190, 191, 192, 193, 194, 195, 196, 197, 198, 199, 200, 201, 202] (by decide +kernel) (by decide +kernel)
set_option maxRecDepth 20000 in
theorem gc_L_back_X6_forge_4 : GoodIn wsL_back wsX6_forge_r4 := goodIn_r _ [203, 204, 205, 44, 206, 207, 208, 209, 210, 130, 211, 212, 279, 280, 281, 282, 49, 10, 50, 16, 17, 39, 40, 41] (by decide +kernel) (by decide +kernel)
set_option maxRecDepth 20000 in
theorem gc_L_back_X6_forge_5 : GoodIn wsL_back wsX6_forge_r5 := goodIn_r _ [43, 283, 284, 285, 286, 287, 288, 289, 290, 291, 292, 293, 261, 262, 263, 264, 265, 266, 267, 268] (by decide +kernel) (by decide +kernel)
set_option maxRecDepth 20000 in
theorem gc_L_back_X6_forge_h : GoodIn wsL_back [.code yX6_forge cX6_forge 6 (some .int)] := goodIn_r _ [278] (by decide +kernel) (by decide +kernel)
set_option maxRecDepth 20000 in
theorem gc_L_back_X6_forge_x6 : GoodIn wsL_back wsX60 := goodIn_r _ [376, 377, 378, 379, 380] (by decide +kernel) (by decide +kernel)
set_option maxRecDepth 20000 in
theorem gc_L_back_X6_forge_x1 : GoodIn wsL_back wsX10 := goodIn_r _ [412, 413] (by decide +kernel) (by decide +kernel)
set_option maxRecDepth 20000 in
theorem gc_L_back_X6_forge_x2 : GoodIn wsL_back wsX20 := goodIn_r _ [381, 382, 383, 384, 385, 386, 387, 388, 389, 390] (by decide +kernel) (by decide +kernel)
set_option maxRecDepth 20000 in
theorem gc_L_back_X6_forge_x4 : GoodIn wsL_back wsX40 := goodIn_r _ [391, 392, 393, 394, 395, 396, 397, 398] (by decide +kernel) (by decide +kernel)
set_option maxRecDepth 20000 in
theorem gc_L_back_X6_forge_x0 : GoodIn wsL_back wsX00 := goodIn_r _ [399, 400, 401, 402, 403, 404, 405] (by decide +kernel) (by decide +kernel)
theorem ggL_back_X6_forge : GoodIn wsL_back wsX6_forge := good_cons gc_L_back_X6_forge_h (good_app (good_app (good_app (good_app (good_app (good_app gc_L_back_X6_forge_1 (good_app gc_L_back_X6_forge_2 (good_app gc_L_back_X6_forge_3 (good_app gc_L_back_X6_forge_4 (gc_L_back_X6_forge_5))))) gc_L_back_X6_forge_x6) gc_L_back_X6_forge_x1) gc_L_back_X6_forge_x2) gc_L_back_X6_forge_x4) gc_L_back_X6_forge_x0)
