set_option maxRecDepth 20000 in
theorem gL_act_L_text : GoodIn wsL_act (va_wsS RL 100 yL_text wsL_text) := goodIn_app (goodIn_of _ (by decide +kernel)) ggL_act_L_text
set_option maxRecDepth 20000 in
theorem gc_L_act_X6_set_1 : GoodIn wsL_act wsX6_set_r1 := goodIn_r _ [25, 11, 144, 145, 146, 147, 148, 149, 150, 151, 152, 30, 153, 154, 155, 156, 157, 158, 83, 45, 109, 159, 160, 161] (by decide +kernel) (by decide +kernel)
set_option maxRecDepth 20000 in
theorem gc_L_act_X6_set_2 : GoodIn wsL_act wsX6_set_r2 := goodIn_r _ [162, 163, 164, 165, 166, 167, 168, 51, 32, 169, 170, 95, 171, 172, 173, 174, 79, 175, 176, 177, 130, 178, 179, 180] (by decide +kernel) (by decide +kernel)
set_option maxRecDepth 20000 in
theorem gc_L_act_X6_set_3 : GoodIn wsL_act wsX6_set_r3 := goodIn_r _ [181, 182, 183, 184, 185, 186, 187, 188, 189, 190, 191, 192, 193, 194, 195, 196, 197, 198, 199, 200, 201, 202, 203, 204] (by decide +kernel) (by decide +kernel)
set_option maxRecDepth 20000 in
theorem gc_L_act_X6_set_4 : GoodIn wsL_act wsX6_set_r4 := goodIn_r _ [205, 206, 207, 53, 208, 209, 210, 211, 212, 97, 213, 214, 571, 572, 573, 574, 394, 395, 396, 397, 233, 234, 235, 236] (by decide +kernel) (by decide +kernel)
set_option maxRecDepth 20000 in
theorem gc_L_act_X6_set_5 : GoodIn wsL_act wsX6_set_r5 := goodIn_r _ [37, 9, 38, 249, 250, 251, 252, 253, 254, 255, 256] (by decide +kernel) (by decide +kernel)
set_option maxRecDepth 20000 in
theorem gc_L_act_X6_set_h : GoodIn wsL_act [.code yX6_set cX6_set 3 (some .int)] := goodIn_r _ [570] (by decide +kernel) (by decide +kernel)
set_option maxRecDepth 20000 in
theorem gc_L_act_X6_set_x6 : GoodIn wsL_act wsX60 := goodIn_r _ [581, 582, 583, 584, 585] (by decide +kernel) (by decide +kernel)
set_option maxRecDepth 20000 in
theorem gc_L_act_X6_set_x1 : GoodIn wsL_act wsX10 := goodIn_r _ [617, 618] (by decide +kernel) (by decide +kernel)
set_option maxRecDepth 20000 in
theorem gc_L_act_X6_set_x2 : GoodIn wsL_act wsX20 := goodIn_r _ [586, 587, 588, 589, 590, 591, 592, 593, 594, 595] (by decide +kernel) (by decide +kernel)
set_option maxRecDepth 20000 in
theorem gc_L_act_X6_set_x4 : GoodIn wsL_act wsX40 := goodIn_r _ [596, 597, 598, 599, 600, 601, 602, 603] (by decide +kernel) (by decide +kernel)
set_option maxRecDepth 20000 in
theorem gc_L_act_X6_set_x0 : GoodIn wsL_act wsX00 := goodIn_r _ [604, 605, 606, 607, 608, 609, 610] (by decide +kernel) (by decide +kernel)
theorem ggL_act_X6_set : GoodIn wsL_act wsX6_set := good_cons gc_L_act_X6_set_h (good_app (good_app (good_app (good_app (good_app (good_app gc_L_act_X6_set_1 (good_app gc_L_act_X6_set_2 (good_app gc_L_act_X6_set_3 (good_app gc_L_act_X6_set_4 (gc_L_act_X6_set_5))))) gc_L_act_X6_set_x6) gc_L_act_X6_set_x1) gc_L_act_X6_set_x2) gc_L_act_X6_set_x4) gc_L_act_X6_set_x0)
set_option maxRecDepth 20000 in
theorem gL_act_X6_set : GoodIn wsL_act (wsV RL 26 RX6 yX6_set wsX6_set) := goodIn_app (goodIn_of _ (by decide +kernel)) ggL_act_X6_set
set_option maxRecDepth 20000 in
theorem gc_L_act_X6_flush_1 : GoodIn wsL_act wsX6_flush_r1 := goodIn_r _ [25, 11, 14, 144, 145, 146, 147, 148, 149, 150, 151, 152, 30, 153, 154, 155, 156, 157, 158, 83, 45, 109, 159, 160] (by decide +kernel) (by decide +kernel)
set_option maxRecDepth 20000 in
theorem gc_L_act_X6_flush_2 : GoodIn wsL_act wsX6_flush_r2 := goodIn_r _ [161, 162, 163, 164, 165, 166, 167, 168, 51, 32, 169, 170, 95, 171, 172, 173, 174, 79, 175, 176, 177, 130, 178, 179] (by decide +kernel) (by decide +kernel)
set_option maxRecDepth 20000 in
theorem gc_L_act_X6_flush_3 : GoodIn wsL_act wsX6_flush_r3 := goodIn_r _ [180, 181, 182, 183, 184, 185, 186, 187, 188, 189, 190, 191, 192, 193, 194, 195, 196, 197, 198, 199, 200, 201, 202, 203] (by decide +kernel) (by decide +kernel)
set_option maxRecDepth 20000 in
theorem gc_L_act_X6_flush_4 : GoodIn wsL_act wsX6_flush_r4 := goodIn_r _ [204, 205, 206, 207, 53, 208, 209, 210, 211, 212, 97, 213, 214, 579, 226, 227, 228, 580, 230, 231, 232, 233, 234, 235] (by decide +kernel) (by decide +kernel)
set_option maxRecDepth 20000 in
theorem gc_L_act_X6_flush_5 : GoodIn wsL_act wsX6_flush_r5 := goodIn_r _ [236, 37, 9, 38, 249, 250, 251, 252, 253, 254, 255, 256] (by decide +kernel) (by decide +kernel)
set_option maxRecDepth 20000 in
theorem gc_L_act_X6_flush_h : GoodIn wsL_act [.code yX6_flush cX6_flush 1 (some .int)] := goodIn_r _ [578] (by decide +kernel) (by decide +kernel)
set_option maxRecDepth 20000 in
theorem gc_L_act_X6_flush_x6 : GoodIn wsL_act wsX60 := goodIn_r _ [581, 582, 583, 584, 585] (by decide +kernel) (by decide +kernel)
set_option maxRecDepth 20000 in
theorem gc_L_act_X6_flush_x2 : GoodIn wsL_act wsX20 := goodIn_r _ [586, 587, 588, 589, 590, 591, 592, 593, 594, 595] (by decide +kernel) (by decide +kernel)
set_option maxRecDepth 20000 in
theorem gc_L_act_X6_flush_x1 : GoodIn wsL_act wsX10 := goodIn_r _ [617, 618] (by decide +kernel) (by decide +kernel)
set_option maxRecDepth 20000 in
theorem gc_L_act_X6_flush_x4 : GoodIn wsL_act wsX40 := goodIn_r _ [596, 597, 598, 599, 600, 601, 602, 603] (by decide +kernel) (by decide +kernel)
set_option maxRecDepth 20000 in
theorem gc_L_act_X6_flush_x0 : GoodIn wsL_act wsX00 := goodIn_r _ [604, 605, 606, 607, 608, 609, 610] (by decide +kernel) (by decide +kernel)
theorem ggL_act_X6_flush : GoodIn wsL_act wsX6_flush := good_cons gc_L_act_X6_flush_h (good_app (good_app (good_app (good_app (good_app (good_app gc_L_act_X6_flush_1 (good_app gc_L_act_X6_flush_2 (good_app gc_L_act_X6_flush_3 (good_app gc_L_act_X6_flush_4 (gc_L_act_X6_flush_5))))) gc_L_act_X6_flush_x6) gc_L_act_X6_flush_x2) gc_L_act_X6_flush_x1) gc_L_act_X6_flush_x4) gc_L_act_X6_flush_x0)
set_option maxRecDepth 20000 in
theorem gL_act_X6_flush : GoodIn wsL_act (wsV RL 104 RX6 yX6_flush wsX6_flush) := goodIn_app (goodIn_of _ (by decide +kernel)) ggL_act_X6_flush
set_option maxRecDepth 20000 in
theorem ggL_noted_X6_count : GoodIn wsL_noted wsX6_count := goodIn_r _ [5, 6, 7, 8, 9, 10, 11, 12, 13, 14, 15, 16, 17, 18, 19, 20, 21, 22, 23, 24, 25, 26, 27, 28, 29, 30, 31, 32, 4, 33, 34, 35, 36, 37, 38, 39, 40, 41, 42, 43, 44, 45, 46, 47, 48, 49, 50, 51, 52, 53, 54, 55, 56, 57, 72, 73, 74, 75, 76, 77, 78, 79, 80, 81, 82, 83, 84, 85, 86, 87, 88, 89, 90, 91, 92, 93, 94, 95, 96, 97, 98, 99, 100, 101, 102, 103, 104, 105, 106, 107, 108, 109] (by decide +kernel) (by decide +kernel)
set_option maxRecDepth 20000 in
theorem gL_noted_X6_count : GoodIn wsL_noted (wsV RL 46 RX6 yX6_count wsX6_count) := goodIn_app (goodIn_of _ (by decide +kernel)) ggL_noted_X6_count
set_option maxRecDepth 20000 in
theorem ggL_noted_X6_note : GoodIn wsL_noted wsX6_note := goodIn_r _ [61, 6, 9, 62, 63, 64, 65, 66, 67, 68, 69, 70, 71, 72, 73, 74, 75, 76, 77, 78, 79, 80, 81, 82, 83, 84, 85, 86, 95, 96, 97, 98, 99, 100, 101] (by decide +kernel) (by decide +kernel)
set_option maxRecDepth 20000 in
theorem gL_noted_X6_note : GoodIn wsL_noted (wsV RL 56 RX6 yX6_note wsX6_note) := goodIn_app (goodIn_of _ (by decide +kernel)) ggL_noted_X6_note
set_option maxRecDepth 20000 in
theorem ggL_made_X6_count : GoodIn wsL_made wsX6_count := goodIn_r _ [5, 6, 7, 8, 9, 10, 11, 12, 13, 14, 15, 16, 17, 18, 19, 20, 21, 22, 23, 24, 25, 26, 27, 28, 29, 30, 31, 32, 4, 33, 34, 35, 36, 37, 38, 39, 40, 41, 42, 43, 44, 45, 46, 47, 48, 49, 50, 51, 52, 53, 54, 55, 56, 57, 82, 83, 84, 85, 86, 87, 88, 89, 90, 91, 92, 93, 94, 95, 96, 97, 98, 99, 100, 101, 102, 103, 104, 105, 106, 107, 108, 109, 110, 111, 112, 113, 114, 115, 116, 117, 118, 119] (by decide +kernel) (by decide +kernel)
set_option maxRecDepth 20000 in
theorem gL_made_X6_count : GoodIn wsL_made (wsV RL 46 RX6 yX6_count wsX6_count) := goodIn_app (goodIn_of _ (by decide +kernel)) ggL_made_X6_count
set_option maxRecDepth 20000 in
theorem ggL_made_X6_ofStamp : GoodIn wsL_made wsX6_ofStamp := goodIn_r _ [61, 6, 7, 62, 63, 64, 65, 66, 67, 68, 69, 44, 45, 46, 47, 48, 70, 32, 4, 33, 22, 23, 24, 25, 26, 27, 28, 29, 30, 31, 34, 35, 36, 37, 38, 39, 40, 41, 42, 43, 49, 50, 71, 72, 73, 74, 75, 76, 77, 78, 79, 80, 81, 52, 53, 54, 55, 56, 57, 82, 83, 84, 85, 86, 87, 88, 89, 90, 91, 92, 93, 94, 95, 96, 97, 98, 99, 100, 101, 102, 103, 104] (by decide +kernel) (by decide +kernel)
set_option maxRecDepth 20000 in
theorem gL_made_X6_ofStamp : GoodIn wsL_made (wsV RL 50 RX6 yX6_ofStamp wsX6_ofStamp) := goodIn_app (goodIn_of _ (by decide +kernel)) ggL_made_X6_ofStamp
set_option maxRecDepth 20000 in
theorem ggL_changed_X6_count : GoodIn wsL_changed wsX6_count := goodIn_r _ [6, 7, 8, 9, 10, 11, 12, 13, 14, 15, 16, 17, 18, 19, 20, 21, 22, 23, 24, 25, 26, 27, 28, 29, 30, 31, 32, 33, 5, 34, 35, 36, 37, 38, 39, 40, 41, 42, 43, 44, 45, 46, 47, 48, 49, 50, 51, 52, 53, 54, 55, 56, 57, 58, 258, 259, 260, 261, 262, 263, 264, 265, 266, 267, 268, 269, 270, 271, 272, 273, 274, 275, 276, 277, 278, 279, 280, 281, 282, 283, 284, 285, 286, 287, 288, 289, 290, 291, 292, 293, 294, 295] (by decide +kernel) (by decide +kernel)
set_option maxRecDepth 20000 in
theorem gL_changed_X6_count : GoodIn wsL_changed (wsV RL 46 RX6 yX6_count wsX6_count) := goodIn_app (goodIn_of _ (by decide +kernel)) ggL_changed_X6_count
set_option maxRecDepth 20000 in
theorem ggL_changed_X6_note : GoodIn wsL_changed wsX6_note := goodIn_r _ [62, 7, 10, 63, 64, 65, 66, 67, 68, 69, 70, 71, 72, 258, 259, 260, 261, 262, 263, 264, 265, 266, 267, 268, 269, 270, 271, 272, 281, 282, 283, 284, 285, 286, 287] (by decide +kernel) (by decide +kernel)
set_option maxRecDepth 20000 in
theorem gL_changed_X6_note : GoodIn wsL_changed (wsV RL 56 RX6 yX6_note wsX6_note) := goodIn_app (goodIn_of _ (by decide +kernel)) ggL_changed_X6_note
set_option maxRecDepth 20000 in
theorem ggL_changed_X6_leads : GoodIn wsL_changed wsX6_leads := goodIn_r _ [76, 7, 77, 78, 5, 79, 80, 81, 82, 26, 83, 84, 258, 259, 260, 261, 262, 263, 264, 265, 266, 267, 268, 269, 270, 271, 272] (by decide +kernel) (by decide +kernel)
set_option maxRecDepth 20000 in
theorem gL_changed_X6_leads : GoodIn wsL_changed (wsV RL 53 RX6 yX6_leads wsX6_leads) := goodIn_app (goodIn_of _ (by decide +kernel)) ggL_changed_X6_leads
set_option maxRecDepth 20000 in
theorem gc_L_changed_L_good_1 : GoodIn wsL_changed wsL_good_r1 := goodIn_r _ [89, 90, 91, 5, 92, 7, 8, 93, 94, 95, 96, 97, 98, 99, 100, 45, 46, 47, 48, 49, 101, 33, 34, 23] (by decide +kernel) (by decide +kernel)
set_option maxRecDepth 20000 in
theorem gc_L_changed_L_good_2 : GoodIn wsL_changed wsL_good_r2 := goodIn_r _ [24, 25, 26, 27, 28, 29, 30, 31, 32, 35, 36, 37, 38, 39, 40, 41, 42, 43, 44, 50, 51, 102, 103, 104] (by decide +kernel) (by decide +kernel)
set_option maxRecDepth 20000 in
theorem gc_L_changed_L_good_3_0 : GoodIn wsL_changed [Cond.code yX4_chainLength cX4_chainLength 4 (some .int)] := goodIn_r _ [105] (by decide +kernel) (by decide +kernel)
set_option maxRecDepth 20000 in
theorem gc_L_changed_L_good_3_1 : GoodIn wsL_changed [Cond.fieldLink RX4 24 "VisaPages$Stamps" "root" "[I"] := goodIn_r _ [106] (by decide +kernel) (by decide +kernel)
set_option maxRecDepth 20000 in
theorem gc_L_changed_L_good_3_2 : GoodIn wsL_changed [Cond.methodLink RX4 48 yX4_has] := goodIn_r _ [107] (by decide +kernel) (by decide +kernel)
set_option maxRecDepth 20000 in
theorem gc_L_changed_L_good_3_3 : GoodIn wsL_changed [Cond.methodLink RX6 154 yX4_countBelow] := goodIn_r _ [108] (by decide +kernel) (by decide +kernel)
set_option maxRecDepth 20000 in
theorem gc_L_changed_L_good_3_4 : GoodIn wsL_changed [Cond.instanceMethod yX4_countBelow] := goodIn_r _ [109] (by decide +kernel) (by decide +kernel)
set_option maxRecDepth 20000 in
theorem gc_L_changed_L_good_3_5 : GoodIn wsL_changed [Cond.selects RX4 yX4_countBelow yX4_countBelow] := goodIn_r _ [110] (by decide +kernel) (by decide +kernel)
set_option maxRecDepth 20000 in
theorem gc_L_changed_L_good_3_6 : GoodIn wsL_changed [Cond.code yX4_countBelow cX4_countBelow 5 (some .int)] := goodIn_r _ [111] (by decide +kernel) (by decide +kernel)
set_option maxRecDepth 20000 in
theorem gc_L_changed_L_good_3_7 : GoodIn wsL_changed [Cond.methodLink RX4 56 yJ13_bitCount_95d88] := goodIn_r _ [112] (by decide +kernel) (by decide +kernel)
set_option maxRecDepth 20000 in
theorem gc_L_changed_L_good_3_8 : GoodIn wsL_changed [Cond.static yJ13_bitCount_95d88] := goodIn_r _ [53] (by decide +kernel) (by decide +kernel)
set_option maxRecDepth 20000 in
theorem gc_L_changed_L_good_3_9 : GoodIn wsL_changed [Cond.initialized RJ13] := goodIn_r _ [54] (by decide +kernel) (by decide +kernel)
set_option maxRecDepth 20000 in
theorem gc_L_changed_L_good_3_10 : GoodIn wsL_changed [Cond.code yJ13_bitCount_95d88 cJ13_bitCount_95d88 2 (some .int)] := goodIn_r _ [55] (by decide +kernel) (by decide +kernel)
set_option maxRecDepth 20000 in
theorem gc_L_changed_L_good_3_11 : GoodIn wsL_changed [Cond.constantLong RJ13 314 (6148914691236517205)] := goodIn_r _ [56] (by decide +kernel) (by decide +kernel)
set_option maxRecDepth 20000 in
theorem gc_L_changed_L_good_3_12 : GoodIn wsL_changed [Cond.constantLong RJ13 316 (3689348814741910323)] := goodIn_r _ [57] (by decide +kernel) (by decide +kernel)
set_option maxRecDepth 20000 in
theorem gc_L_changed_L_good_3_13 : GoodIn wsL_changed [Cond.constantLong RJ13 318 (1085102592571150095)] := goodIn_r _ [58] (by decide +kernel) (by decide +kernel)
set_option maxRecDepth 20000 in
theorem gc_L_changed_L_good_3_14 : GoodIn wsL_changed [Cond.methodLink RL 62 yL_based] := goodIn_r _ [113] (by decide +kernel) (by decide +kernel)
set_option maxRecDepth 20000 in
theorem gc_L_changed_L_good_3_15 : GoodIn wsL_changed [Cond.static yL_based] := goodIn_r _ [114] (by decide +kernel) (by decide +kernel)
set_option maxRecDepth 20000 in
theorem gc_L_changed_L_good_3_16 : GoodIn wsL_changed [Cond.initialized RL] := goodIn_r _ [87] (by decide +kernel) (by decide +kernel)
set_option maxRecDepth 20000 in
theorem gc_L_changed_L_good_3_17 : GoodIn wsL_changed [Cond.code yL_based cL_based 4 (some .boolean)] := goodIn_r _ [115] rfl (by decide +kernel)
set_option maxRecDepth 20000 in
theorem gc_L_changed_L_good_3_18 : GoodIn wsL_changed [Cond.methodLink RL 43 yX6_ofPage] := goodIn_r _ [116] (by decide +kernel) (by decide +kernel)
set_option maxRecDepth 20000 in
theorem gc_L_changed_L_good_3_19 : GoodIn wsL_changed [Cond.instanceMethod yX6_ofPage] := goodIn_r _ [117] (by decide +kernel) (by decide +kernel)
set_option maxRecDepth 20000 in
theorem gc_L_changed_L_good_3_20 : GoodIn wsL_changed [Cond.selects RX6 yX6_ofPage yX6_ofPage] := goodIn_r _ [118] (by decide +kernel) (by decide +kernel)
set_option maxRecDepth 20000 in
theorem gc_L_changed_L_good_3_21 : GoodIn wsL_changed [Cond.code yX6_ofPage cX6_ofPage 3 (some .int)] := goodIn_r _ [119] (by decide +kernel) (by decide +kernel)
set_option maxRecDepth 20000 in
theorem gc_L_changed_L_good_3_22 : GoodIn wsL_changed [Cond.fieldLink RX6 95 "VisaPages$House" "owners" "[I"] := goodIn_r _ [120] (by decide +kernel) (by decide +kernel)
set_option maxRecDepth 20000 in
theorem gc_L_changed_L_good_3_23 : GoodIn wsL_changed [Cond.methodLink RX6 91 yX6_isPage] := goodIn_r _ [121] (by decide +kernel) (by decide +kernel)
theorem gc_L_changed_L_good_3 : GoodIn wsL_changed wsL_good_r3 := good_cons gc_L_changed_L_good_3_0 (good_cons gc_L_changed_L_good_3_1 (good_cons gc_L_changed_L_good_3_2 (good_cons gc_L_changed_L_good_3_3 (good_cons gc_L_changed_L_good_3_4 (good_cons gc_L_changed_L_good_3_5 (good_cons gc_L_changed_L_good_3_6 (good_cons gc_L_changed_L_good_3_7 (good_cons gc_L_changed_L_good_3_8 (good_cons gc_L_changed_L_good_3_9 (good_cons gc_L_changed_L_good_3_10 (good_cons gc_L_changed_L_good_3_11 (good_cons gc_L_changed_L_good_3_12 (good_cons gc_L_changed_L_good_3_13 (good_cons gc_L_changed_L_good_3_14 (good_cons gc_L_changed_L_good_3_15 (good_cons gc_L_changed_L_good_3_16 (good_cons gc_L_changed_L_good_3_17 (good_cons gc_L_changed_L_good_3_18 (good_cons gc_L_changed_L_good_3_19 (good_cons gc_L_changed_L_good_3_20 (good_cons gc_L_changed_L_good_3_21 (good_cons gc_L_changed_L_good_3_22 (good_cons gc_L_changed_L_good_3_23 (fun _ h => absurd h List.not_mem_nil))))))))))))))))))))))))
set_option maxRecDepth 20000 in
theorem gc_L_changed_L_good_4 : GoodIn wsL_changed wsL_good_r4 := goodIn_r _ [122, 123, 124, 125, 126, 127, 128, 129, 130, 131, 132, 52] (by decide +kernel) (by decide +kernel)
set_option maxRecDepth 20000 in
theorem gc_L_changed_L_good_h : GoodIn wsL_changed [.code yL_good cL_good 3 (some .boolean)] := goodIn_r _ [88] rfl (by decide +kernel)
set_option maxRecDepth 20000 in
theorem gc_L_changed_L_good_x6 : GoodIn wsL_changed wsX60 := goodIn_r _ [258, 259, 260, 261, 262] (by decide +kernel) (by decide +kernel)
set_option maxRecDepth 20000 in
theorem gc_L_changed_L_good_x2 : GoodIn wsL_changed wsX20 := goodIn_r _ [263, 264, 265, 266, 267, 268, 269, 270, 271, 272] (by decide +kernel) (by decide +kernel)
set_option maxRecDepth 20000 in
theorem gc_L_changed_L_good_x4 : GoodIn wsL_changed wsX40 := goodIn_r _ [273, 274, 275, 276, 277, 278, 279, 280] (by decide +kernel) (by decide +kernel)
theorem ggL_changed_L_good : GoodIn wsL_changed wsL_good := good_cons gc_L_changed_L_good_h (good_app (good_app (good_app (good_app gc_L_changed_L_good_1 (good_app gc_L_changed_L_good_2 (good_app gc_L_changed_L_good_3 (gc_L_changed_L_good_4)))) gc_L_changed_L_good_x6) gc_L_changed_L_good_x2) gc_L_changed_L_good_x4)
set_option maxRecDepth 20000 in
theorem gL_changed_L_good : GoodIn wsL_changed (va_wsS RL 84 yL_good wsL_good) := goodIn_app (goodIn_of _ (by decide +kernel)) ggL_changed_L_good
set_option maxRecDepth 20000 in
theorem gc_L_changed_X6_takeBack_1 : GoodIn wsL_changed wsX6_takeBack_r1 := goodIn_r _ [21, 7, 137, 138, 139, 140, 141, 142, 143, 144, 145, 26, 146, 147, 148, 149, 150, 151, 1, 41, 84, 152, 153, 154] (by decide +kernel) (by decide +kernel)
set_option maxRecDepth 20000 in
theorem gc_L_changed_X6_takeBack_2 : GoodIn wsL_changed wsX6_takeBack_r2 := goodIn_r _ [155, 156, 157, 158, 159, 160, 161, 47, 28, 162, 163, 70, 164, 165, 166, 167, 132, 168, 169, 170, 106, 171, 172, 173] (by decide +kernel) (by decide +kernel)
set_option maxRecDepth 20000 in
theorem gc_L_changed_X6_takeBack_3 : GoodIn wsL_changed wsX6_takeBack_r3 := goodIn_r _ [174, 175, 176, 177, 178, 179, 180, 181, 182, 183, 184, 185, 186, 187, 188, 189, 190, 191, 192, 193, 194, 195, 196, 197] (by decide +kernel) (by decide +kernel)
set_option maxRecDepth 20000 in
theorem gc_L_changed_X6_takeBack_4 : GoodIn wsL_changed wsX6_takeBack_r4 := goodIn_r _ [198, 199, 200, 49, 201, 202, 203, 204, 205, 72, 206, 207, 208, 209, 210, 211, 32, 39, 44, 45, 46, 48, 33, 5] (by decide +kernel) (by decide +kernel)
set_option maxRecDepth 20000 in
theorem gc_L_changed_X6_takeBack_5 : GoodIn wsL_changed wsX6_takeBack_r5 := goodIn_r _ [34, 212, 24, 25, 27, 29, 30, 31, 35, 36, 37, 38, 40, 42, 43, 50, 51, 213, 214, 215, 216, 217, 218, 219] (by decide +kernel) (by decide +kernel)
set_option maxRecDepth 20000 in
theorem gc_L_changed_X6_takeBack_6 : GoodIn wsL_changed wsX6_takeBack_r6 := goodIn_r _ [220, 221, 222, 223, 224, 225, 226, 227, 228, 229, 230, 231, 232, 233, 234, 235, 236, 237, 238, 239, 240, 241, 81, 82] (by decide +kernel) (by decide +kernel)
set_option maxRecDepth 20000 in
theorem gc_L_changed_X6_takeBack_7 : GoodIn wsL_changed wsX6_takeBack_r7 := goodIn_r _ [83, 78, 79, 242, 243, 244, 245, 246, 247, 248, 249] (by decide +kernel) (by decide +kernel)
set_option maxRecDepth 20000 in
theorem gc_L_changed_X6_takeBack_h : GoodIn wsL_changed [.code yX6_takeBack cX6_takeBack 2 (some .int)] := goodIn_r _ [136] (by decide +kernel) (by decide +kernel)
set_option maxRecDepth 20000 in
theorem gc_L_changed_X6_takeBack_x6 : GoodIn wsL_changed wsX60 := goodIn_r _ [258, 259, 260, 261, 262] (by decide +kernel) (by decide +kernel)
set_option maxRecDepth 20000 in
theorem gc_L_changed_X6_takeBack_x1 : GoodIn wsL_changed wsX10 := goodIn_r _ [294, 295] (by decide +kernel) (by decide +kernel)
set_option maxRecDepth 20000 in
theorem gc_L_changed_X6_takeBack_x2 : GoodIn wsL_changed wsX20 := goodIn_r _ [263, 264, 265, 266, 267, 268, 269, 270, 271, 272] (by decide +kernel) (by decide +kernel)
set_option maxRecDepth 20000 in
theorem gc_L_changed_X6_takeBack_x4 : GoodIn wsL_changed wsX40 := goodIn_r _ [273, 274, 275, 276, 277, 278, 279, 280] (by decide +kernel) (by decide +kernel)
set_option maxRecDepth 20000 in
theorem gc_L_changed_X6_takeBack_x0 : GoodIn wsL_changed wsX00 := goodIn_r _ [281, 282, 283, 284, 285, 286, 287] (by decide +kernel) (by decide +kernel)
theorem ggL_changed_X6_takeBack : GoodIn wsL_changed wsX6_takeBack := good_cons gc_L_changed_X6_takeBack_h (good_app (good_app (good_app (good_app (good_app (good_app gc_L_changed_X6_takeBack_1 (good_app gc_L_changed_X6_takeBack_2 (good_app gc_L_changed_X6_takeBack_3 (good_app gc_L_changed_X6_takeBack_4 (good_app gc_L_changed_X6_takeBack_5 (good_app gc_L_changed_X6_takeBack_6 (gc_L_changed_X6_takeBack_7))))))) gc_L_changed_X6_takeBack_x6) gc_L_changed_X6_takeBack_x1) gc_L_changed_X6_takeBack_x2) gc_L_changed_X6_takeBack_x4) gc_L_changed_X6_takeBack_x0)
set_option maxRecDepth 20000 in
theorem gL_changed_X6_takeBack : GoodIn wsL_changed (wsV RL 69 RX6 yX6_takeBack wsX6_takeBack) := goodIn_app (goodIn_of _ (by decide +kernel)) ggL_changed_X6_takeBack
set_option maxRecDepth 20000 in
theorem gc_L_changed_X6_own_1 : GoodIn wsL_changed wsX6_own_r1 := goodIn_r _ [21, 7, 137, 138, 139, 140, 141, 142, 143, 144, 145, 26, 146, 147, 148, 149, 150, 151, 1, 41, 84, 152, 153, 154] (by decide +kernel) (by decide +kernel)
set_option maxRecDepth 20000 in
theorem gc_L_changed_X6_own_2 : GoodIn wsL_changed wsX6_own_r2 := goodIn_r _ [155, 156, 157, 158, 159, 160, 161, 47, 28, 162, 163, 70, 164, 165, 166, 167, 132, 168, 169, 170, 106, 171, 172, 173] (by decide +kernel) (by decide +kernel)
set_option maxRecDepth 20000 in
theorem gc_L_changed_X6_own_3 : GoodIn wsL_changed wsX6_own_r3 := goodIn_r _ [174, 175, 176, 177, 178, 179, 180, 181, 182, 183, 184, 185, 186, 187, 188, 189, 190, 191, 192, 193, 194, 195, 196, 197] (by decide +kernel) (by decide +kernel)
set_option maxRecDepth 20000 in
theorem gc_L_changed_X6_own_4 : GoodIn wsL_changed wsX6_own_r4 := goodIn_r _ [198, 199, 200, 49, 201, 202, 203, 204, 205, 72, 206, 207, 254, 255, 256, 257, 50, 5, 51, 126, 127, 212, 24, 25] (by decide +kernel) (by decide +kernel)
set_option maxRecDepth 20000 in
theorem gc_L_changed_X6_own_5 : GoodIn wsL_changed wsX6_own_r5 := goodIn_r _ [27, 29, 30, 31, 32, 33, 34, 35, 36, 37, 38, 39, 40, 42, 43, 44, 45, 46, 48, 213, 214, 215, 216, 217] (by decide +kernel) (by decide +kernel)
set_option maxRecDepth 20000 in
theorem gc_L_changed_X6_own_6 : GoodIn wsL_changed wsX6_own_r6 := goodIn_r _ [218, 219, 220, 221, 222, 223, 224, 225, 226, 227, 228, 229, 230, 231, 232, 233, 234, 235, 236, 237, 238, 239, 240, 241] (by decide +kernel) (by decide +kernel)
set_option maxRecDepth 20000 in
theorem gc_L_changed_X6_own_7 : GoodIn wsL_changed wsX6_own_r7 := goodIn_r _ [81, 82, 83, 78, 79, 242, 243, 244, 245, 246, 247, 248, 249] (by decide +kernel) (by decide +kernel)
set_option maxRecDepth 20000 in
theorem gc_L_changed_X6_own_h : GoodIn wsL_changed [.code yX6_own cX6_own 3 (some .int)] := goodIn_r _ [253] (by decide +kernel) (by decide +kernel)
set_option maxRecDepth 20000 in
theorem gc_L_changed_X6_own_x6 : GoodIn wsL_changed wsX60 := goodIn_r _ [258, 259, 260, 261, 262] (by decide +kernel) (by decide +kernel)
set_option maxRecDepth 20000 in
theorem gc_L_changed_X6_own_x1 : GoodIn wsL_changed wsX10 := goodIn_r _ [294, 295] (by decide +kernel) (by decide +kernel)
set_option maxRecDepth 20000 in
theorem gc_L_changed_X6_own_x2 : GoodIn wsL_changed wsX20 := goodIn_r _ [263, 264, 265, 266, 267, 268, 269, 270, 271, 272] (by decide +kernel) (by decide +kernel)
set_option maxRecDepth 20000 in
theorem gc_L_changed_X6_own_x4 : GoodIn wsL_changed wsX40 := goodIn_r _ [273, 274, 275, 276, 277, 278, 279, 280] (by decide +kernel) (by decide +kernel)
set_option maxRecDepth 20000 in
theorem gc_L_changed_X6_own_x0 : GoodIn wsL_changed wsX00 := goodIn_r _ [281, 282, 283, 284, 285, 286, 287] (by decide +kernel) (by decide +kernel)
theorem ggL_changed_X6_own : GoodIn wsL_changed wsX6_own := good_cons gc_L_changed_X6_own_h (good_app (good_app (good_app (good_app (good_app (good_app gc_L_changed_X6_own_1 (good_app gc_L_changed_X6_own_2 (good_app gc_L_changed_X6_own_3 (good_app gc_L_changed_X6_own_4 (good_app gc_L_changed_X6_own_5 (good_app gc_L_changed_X6_own_6 (gc_L_changed_X6_own_7))))))) gc_L_changed_X6_own_x6) gc_L_changed_X6_own_x1) gc_L_changed_X6_own_x2) gc_L_changed_X6_own_x4) gc_L_changed_X6_own_x0)
set_option maxRecDepth 20000 in
theorem gL_changed_X6_own : GoodIn wsL_changed (wsV RL 108 RX6 yX6_own wsX6_own) := goodIn_app (goodIn_of _ (by decide +kernel)) ggL_changed_X6_own
set_option maxRecDepth 20000 in
theorem ggL_changed_X6_ofStamp : GoodIn wsL_changed wsX6_ofStamp := goodIn_r _ [92, 7, 8, 93, 94, 95, 96, 97, 98, 99, 100, 45, 46, 47, 48, 49, 101, 33, 5, 34, 23, 24, 25, 26, 27, 28, 29, 30, 31, 32, 35, 36, 37, 38, 39, 40, 41, 42, 43, 44, 50, 51, 102, 103, 104, 105, 106, 107, 108, 109, 110, 111, 112, 53, 54, 55, 56, 57, 58, 258, 259, 260, 261, 262, 263, 264, 265, 266, 267, 268, 269, 270, 271, 272, 273, 274, 275, 276, 277, 278, 279, 280] (by decide +kernel) (by decide +kernel)
set_option maxRecDepth 20000 in
theorem gL_changed_X6_ofStamp : GoodIn wsL_changed (wsV RL 50 RX6 yX6_ofStamp wsX6_ofStamp) := goodIn_app (goodIn_of _ (by decide +kernel)) ggL_changed_X6_ofStamp
set_option maxRecDepth 20000 in
theorem ggL_changed_X6_ofPage : GoodIn wsL_changed wsX6_ofPage := goodIn_r _ [119, 7, 120, 8, 121, 50, 5, 51, 23, 24, 25, 26, 27, 28, 29, 30, 31, 32, 33, 34, 35, 36, 37, 38, 39, 40, 41, 42, 43, 44, 45, 46, 47, 48, 49, 122, 123, 124, 125, 126, 127, 128, 129, 130, 131, 132, 52, 53, 54, 55, 56, 57, 58, 258, 259, 260, 261, 262, 263, 264, 265, 266, 267, 268, 269, 270, 271, 272, 273, 274, 275, 276, 277, 278, 279, 280] (by decide +kernel) (by decide +kernel)
set_option maxRecDepth 20000 in
theorem gL_changed_X6_ofPage : GoodIn wsL_changed (wsV RL 43 RX6 yX6_ofPage wsX6_ofPage) := goodIn_app (goodIn_of _ (by decide +kernel)) ggL_changed_X6_ofPage
set_option maxRecDepth 20000 in
theorem ggL_come_X6_count : GoodIn wsL_come wsX6_count := goodIn_r _ [5, 6, 7, 8, 9, 10, 11, 12, 13, 14, 15, 16, 17, 18, 19, 20, 21, 22, 23, 24, 25, 26, 27, 28, 29, 30, 31, 32, 4, 33, 34, 35, 36, 37, 38, 39, 40, 41, 42, 43, 44, 45, 46, 47, 48, 49, 50, 51, 52, 53, 54, 55, 56, 57, 300, 301, 302, 303, 304, 305, 306, 307, 308, 309, 310, 311, 312, 313, 314, 315, 316, 317, 318, 319, 320, 321, 322, 323, 324, 325, 326, 327, 328, 329, 330, 331, 332, 333, 334, 335, 336, 337] (by decide +kernel) (by decide +kernel)
set_option maxRecDepth 20000 in
theorem gL_come_X6_count : GoodIn wsL_come (wsV RL 46 RX6 yX6_count wsX6_count) := goodIn_app (goodIn_of _ (by decide +kernel)) ggL_come_X6_count
set_option maxRecDepth 20000 in
theorem ggL_come_X6_note : GoodIn wsL_come wsX6_note := goodIn_r _ [61, 6, 9, 62, 63, 64, 65, 66, 67, 68, 69, 70, 71, 300, 301, 302, 303, 304, 305, 306, 307, 308, 309, 310, 311, 312, 313, 314, 323, 324, 325, 326, 327, 328, 329] (by decide +kernel) (by decide +kernel)
set_option maxRecDepth 20000 in
theorem gL_come_X6_note : GoodIn wsL_come (wsV RL 56 RX6 yX6_note wsX6_note) := goodIn_app (goodIn_of _ (by decide +kernel)) ggL_come_X6_note
set_option maxRecDepth 20000 in
theorem gc_L_come_L_walk_1 : GoodIn wsL_come wsL_walk_r1 := goodIn_r _ [76, 77, 78, 4, 79, 6, 80, 81, 82, 83, 84, 85, 25, 86, 87, 88, 89, 90, 91, 7, 92, 93, 94, 95] (by decide +kernel) (by decide +kernel)
set_option maxRecDepth 20000 in
theorem gc_L_come_L_walk_2 : GoodIn wsL_come wsL_walk_r2 := goodIn_r _ [96, 97, 98, 99, 44, 45, 46, 47, 48, 100, 32, 33, 22, 23, 24, 26, 27, 28, 29, 30, 31, 34, 35, 36] (by decide +kernel) (by decide +kernel)
set_option maxRecDepth 20000 in
theorem gc_L_come_L_walk_3 : GoodIn wsL_come wsL_walk_r3 := goodIn_r _ [37, 38, 39, 40, 41, 42, 43, 49, 50, 101, 102, 103, 104, 105, 106, 107, 108, 109, 110, 111, 52, 53, 54, 55] (by decide +kernel) (by decide +kernel)
set_option maxRecDepth 20000 in
theorem gc_L_come_L_walk_4_0 : GoodIn wsL_come [Cond.constantLong RJ13 316 (3689348814741910323)] := goodIn_r _ [56] (by decide +kernel) (by decide +kernel)
set_option maxRecDepth 20000 in
theorem gc_L_come_L_walk_4_1 : GoodIn wsL_come [Cond.constantLong RJ13 318 (1085102592571150095)] := goodIn_r _ [57] (by decide +kernel) (by decide +kernel)
set_option maxRecDepth 20000 in
theorem gc_L_come_L_walk_4_2 : GoodIn wsL_come [Cond.methodLink RL 62 yL_based] := goodIn_r _ [112] (by decide +kernel) (by decide +kernel)
set_option maxRecDepth 20000 in
theorem gc_L_come_L_walk_4_3 : GoodIn wsL_come [Cond.static yL_based] := goodIn_r _ [113] (by decide +kernel) (by decide +kernel)
set_option maxRecDepth 20000 in
theorem gc_L_come_L_walk_4_4 : GoodIn wsL_come [Cond.initialized RL] := goodIn_r _ [74] (by decide +kernel) (by decide +kernel)
set_option maxRecDepth 20000 in
theorem gc_L_come_L_walk_4_5 : GoodIn wsL_come [Cond.code yL_based cL_based 4 (some .boolean)] := goodIn_r _ [114] rfl (by decide +kernel)
set_option maxRecDepth 20000 in
theorem gc_L_come_L_walk_4_6 : GoodIn wsL_come [Cond.methodLink RL 43 yX6_ofPage] := goodIn_r _ [115] (by decide +kernel) (by decide +kernel)
set_option maxRecDepth 20000 in
theorem gc_L_come_L_walk_4_7 : GoodIn wsL_come [Cond.instanceMethod yX6_ofPage] := goodIn_r _ [116] (by decide +kernel) (by decide +kernel)
set_option maxRecDepth 20000 in
theorem gc_L_come_L_walk_4_8 : GoodIn wsL_come [Cond.selects RX6 yX6_ofPage yX6_ofPage] := goodIn_r _ [117] (by decide +kernel) (by decide +kernel)
set_option maxRecDepth 20000 in
theorem gc_L_come_L_walk_4_9 : GoodIn wsL_come [Cond.code yX6_ofPage cX6_ofPage 3 (some .int)] := goodIn_r _ [118] (by decide +kernel) (by decide +kernel)
set_option maxRecDepth 20000 in
theorem gc_L_come_L_walk_4_10 : GoodIn wsL_come [Cond.fieldLink RX6 95 "VisaPages$House" "owners" "[I"] := goodIn_r _ [119] (by decide +kernel) (by decide +kernel)
set_option maxRecDepth 20000 in
theorem gc_L_come_L_walk_4_11 : GoodIn wsL_come [Cond.methodLink RX6 91 yX6_isPage] := goodIn_r _ [120] (by decide +kernel) (by decide +kernel)
set_option maxRecDepth 20000 in
theorem gc_L_come_L_walk_4_12 : GoodIn wsL_come [Cond.methodLink RX6 103 yX2_guestsWith] := goodIn_r _ [121] (by decide +kernel) (by decide +kernel)
set_option maxRecDepth 20000 in
theorem gc_L_come_L_walk_4_13 : GoodIn wsL_come [Cond.instanceMethod yX2_guestsWith] := goodIn_r _ [122] (by decide +kernel) (by decide +kernel)
set_option maxRecDepth 20000 in
theorem gc_L_come_L_walk_4_14 : GoodIn wsL_come [Cond.selects RX2 yX2_guestsWith yX2_guestsWith] := goodIn_r _ [123] (by decide +kernel) (by decide +kernel)
set_option maxRecDepth 20000 in
theorem gc_L_come_L_walk_4_15 : GoodIn wsL_come [Cond.code yX2_guestsWith cX2_guestsWith 7 (some .int)] := goodIn_r _ [124] (by decide +kernel) (by decide +kernel)
set_option maxRecDepth 20000 in
theorem gc_L_come_L_walk_4_16 : GoodIn wsL_come [Cond.static yX6_isGuest] := goodIn_r _ [125] (by decide +kernel) (by decide +kernel)
set_option maxRecDepth 20000 in
theorem gc_L_come_L_walk_4_17 : GoodIn wsL_come [Cond.code yX6_isGuest cX6_isGuest 1 (some .boolean)] := goodIn_r _ [126] (by decide +kernel) (by decide +kernel)
set_option maxRecDepth 20000 in
theorem gc_L_come_L_walk_4_18 : GoodIn wsL_come [Cond.methodLink RX6 111 yX4_ofOnePage] := goodIn_r _ [127] (by decide +kernel) (by decide +kernel)
set_option maxRecDepth 20000 in
theorem gc_L_come_L_walk_4_19 : GoodIn wsL_come [Cond.instanceMethod yX4_ofOnePage] := goodIn_r _ [128] (by decide +kernel) (by decide +kernel)
set_option maxRecDepth 20000 in
theorem gc_L_come_L_walk_4_20 : GoodIn wsL_come [Cond.selects RX4 yX4_ofOnePage yX4_ofOnePage] := goodIn_r _ [129] (by decide +kernel) (by decide +kernel)
set_option maxRecDepth 20000 in
theorem gc_L_come_L_walk_4_21 : GoodIn wsL_come [Cond.code yX4_ofOnePage cX4_ofOnePage 5 (some .long)] := goodIn_r _ [130] (by decide +kernel) (by decide +kernel)
set_option maxRecDepth 20000 in
theorem gc_L_come_L_walk_4_22 : GoodIn wsL_come [Cond.fieldLink RX4 9 "VisaPages$Stamps" "page" "[I"] := goodIn_r _ [131] (by decide +kernel) (by decide +kernel)
set_option maxRecDepth 20000 in
theorem gc_L_come_L_walk_4_23 : GoodIn wsL_come [Cond.methodLink RX6 116 yJ13_bitCount_95d88] := goodIn_r _ [51] (by decide +kernel) (by decide +kernel)
theorem gc_L_come_L_walk_4 : GoodIn wsL_come wsL_walk_r4 := good_cons gc_L_come_L_walk_4_0 (good_cons gc_L_come_L_walk_4_1 (good_cons gc_L_come_L_walk_4_2 (good_cons gc_L_come_L_walk_4_3 (good_cons gc_L_come_L_walk_4_4 (good_cons gc_L_come_L_walk_4_5 (good_cons gc_L_come_L_walk_4_6 (good_cons gc_L_come_L_walk_4_7 (good_cons gc_L_come_L_walk_4_8 (good_cons gc_L_come_L_walk_4_9 (good_cons gc_L_come_L_walk_4_10 (good_cons gc_L_come_L_walk_4_11 (good_cons gc_L_come_L_walk_4_12 (good_cons gc_L_come_L_walk_4_13 (good_cons gc_L_come_L_walk_4_14 (good_cons gc_L_come_L_walk_4_15 (good_cons gc_L_come_L_walk_4_16 (good_cons gc_L_come_L_walk_4_17 (good_cons gc_L_come_L_walk_4_18 (good_cons gc_L_come_L_walk_4_19 (good_cons gc_L_come_L_walk_4_20 (good_cons gc_L_come_L_walk_4_21 (good_cons gc_L_come_L_walk_4_22 (good_cons gc_L_come_L_walk_4_23 (fun _ h => absurd h List.not_mem_nil))))))))))))))))))))))))
set_option maxRecDepth 20000 in
theorem gc_L_come_L_walk_h : GoodIn wsL_come [.code yL_walk cL_walk 7 (some .int)] := goodIn_r _ [75] rfl (by decide +kernel)
set_option maxRecDepth 20000 in
theorem gc_L_come_L_walk_x6 : GoodIn wsL_come wsX60 := goodIn_r _ [300, 301, 302, 303, 304] (by decide +kernel) (by decide +kernel)
set_option maxRecDepth 20000 in
theorem gc_L_come_L_walk_x2 : GoodIn wsL_come wsX20 := goodIn_r _ [305, 306, 307, 308, 309, 310, 311, 312, 313, 314] (by decide +kernel) (by decide +kernel)
set_option maxRecDepth 20000 in
theorem gc_L_come_L_walk_x4 : GoodIn wsL_come wsX40 := goodIn_r _ [315, 316, 317, 318, 319, 320, 321, 322] (by decide +kernel) (by decide +kernel)
theorem ggL_come_L_walk : GoodIn wsL_come wsL_walk := good_cons gc_L_come_L_walk_h (good_app (good_app (good_app (good_app gc_L_come_L_walk_1 (good_app gc_L_come_L_walk_2 (good_app gc_L_come_L_walk_3 (gc_L_come_L_walk_4)))) gc_L_come_L_walk_x6) gc_L_come_L_walk_x2) gc_L_come_L_walk_x4)
set_option maxRecDepth 20000 in
theorem gL_come_L_walk : GoodIn wsL_come (va_wsS RL 111 yL_walk wsL_walk) := goodIn_app (goodIn_of _ (by decide +kernel)) ggL_come_L_walk
set_option maxRecDepth 20000 in
theorem ggL_come_X6_ended : GoodIn wsL_come wsX6_ended := goodIn_r _ [135, 6, 136, 300, 301, 302, 303, 304, 305, 306, 307, 308, 309, 310, 311, 312, 313, 314] (by decide +kernel) (by decide +kernel)
set_option maxRecDepth 20000 in
theorem gL_come_X6_ended : GoodIn wsL_come (wsV RL 59 RX6 yX6_ended wsX6_ended) := goodIn_app (goodIn_of _ (by decide +kernel)) ggL_come_X6_ended
set_option maxRecDepth 20000 in
theorem ggL_come_X6_walk : GoodIn wsL_come wsX6_walk := goodIn_r _ [140, 141, 6, 142, 143, 80, 81, 4, 82, 144, 145, 146, 147, 148, 149, 150, 151, 152, 153, 154, 155, 156, 84, 85, 25, 86, 87, 157, 44, 45, 46, 47, 48, 158, 159, 160, 161, 162, 163, 164, 32, 33, 165, 35, 36, 37, 27, 29, 38, 39, 40, 41, 42, 43, 49, 50, 300, 301, 302, 303, 304, 338, 339, 305, 306, 307, 308, 309, 310, 311, 312, 313, 314, 315, 316, 317, 318, 319, 320, 321, 322] (by decide +kernel) (by decide +kernel)
set_option maxRecDepth 20000 in
theorem gL_come_X6_walk : GoodIn wsL_come (wsV RL 115 RX6 yX6_walk wsX6_walk) := goodIn_app (goodIn_of _ (by decide +kernel)) ggL_come_X6_walk
set_option maxRecDepth 20000 in
theorem gc_L_come_X6_come_1 : GoodIn wsL_come wsX6_come_r1 := goodIn_r _ [20, 6, 141, 170, 171, 172, 173, 174, 175, 176, 177, 178, 25, 179, 180, 181, 182, 183, 184, 185, 40, 87, 186, 187] (by decide +kernel) (by decide +kernel)
set_option maxRecDepth 20000 in
theorem gc_L_come_X6_come_2 : GoodIn wsL_come wsX6_come_r2 := goodIn_r _ [188, 189, 190, 191, 192, 193, 194, 195, 46, 27, 196, 197, 69, 198, 199, 200, 201, 131, 202, 203, 204, 105, 205, 206] (by decide +kernel) (by decide +kernel)
set_option maxRecDepth 20000 in
theorem gc_L_come_X6_come_3 : GoodIn wsL_come wsX6_come_r3 := goodIn_r _ [207, 208, 209, 210, 211, 212, 213, 214, 215, 216, 217, 218, 219, 220, 221, 222, 223, 224, 225, 226, 227, 228, 229, 230] (by decide +kernel) (by decide +kernel)
set_option maxRecDepth 20000 in
theorem gc_L_come_X6_come_4 : GoodIn wsL_come wsX6_come_r4 := goodIn_r _ [231, 232, 233, 234, 48, 235, 236, 237, 238, 239, 71, 240, 241, 242, 243, 244, 245, 246, 247, 81, 4, 82, 145, 146] (by decide +kernel) (by decide +kernel)
set_option maxRecDepth 20000 in
theorem gc_L_come_X6_come_5 : GoodIn wsL_come wsX6_come_r5 := goodIn_r _ [248, 249, 250, 251, 252, 253, 254, 255, 256, 257, 258, 259, 260, 261, 262, 263, 32, 33, 264, 265, 266, 267, 268, 67] (by decide +kernel) (by decide +kernel)
set_option maxRecDepth 20000 in
theorem gc_L_come_X6_come_6 : GoodIn wsL_come wsX6_come_r6 := goodIn_r _ [68, 70, 269, 270, 271, 272, 273, 274, 275, 276, 277, 278, 279, 280, 281, 148, 149, 150, 151, 152, 153, 154, 155, 156] (by decide +kernel) (by decide +kernel)
set_option maxRecDepth 20000 in
theorem gc_L_come_X6_come_7 : GoodIn wsL_come wsX6_come_r7 := goodIn_r _ [84, 85, 86, 157, 44, 45, 47, 158, 159, 160, 161, 162, 163, 164, 165, 35, 36, 37, 29, 38, 39, 41, 42, 43] (by decide +kernel) (by decide +kernel)
set_option maxRecDepth 20000 in
theorem gc_L_come_X6_come_8 : GoodIn wsL_come wsX6_come_r8 := goodIn_r _ [49, 50, 282, 283, 284, 285, 286, 287, 288, 289, 290, 291, 292, 293, 294, 295, 296, 297, 298, 299] (by decide +kernel) (by decide +kernel)
set_option maxRecDepth 20000 in
theorem gc_L_come_X6_come_h : GoodIn wsL_come [.code yX6_come cX6_come 4 (some .int)] := goodIn_r _ [169] (by decide +kernel) (by decide +kernel)
set_option maxRecDepth 20000 in
theorem gc_L_come_X6_come_x6 : GoodIn wsL_come wsX60 := goodIn_r _ [300, 301, 302, 303, 304] (by decide +kernel) (by decide +kernel)
set_option maxRecDepth 20000 in
theorem gc_L_come_X6_come_x1 : GoodIn wsL_come wsX10 := goodIn_r _ [336, 337] (by decide +kernel) (by decide +kernel)
set_option maxRecDepth 20000 in
theorem gc_L_come_X6_come_x2 : GoodIn wsL_come wsX20 := goodIn_r _ [305, 306, 307, 308, 309, 310, 311, 312, 313, 314] (by decide +kernel) (by decide +kernel)
set_option maxRecDepth 20000 in
theorem gc_L_come_X6_come_x4 : GoodIn wsL_come wsX40 := goodIn_r _ [315, 316, 317, 318, 319, 320, 321, 322] (by decide +kernel) (by decide +kernel)
set_option maxRecDepth 20000 in
theorem gc_L_come_X6_come_x0 : GoodIn wsL_come wsX00 := goodIn_r _ [323, 324, 325, 326, 327, 328, 329] (by decide +kernel) (by decide +kernel)
set_option maxRecDepth 20000 in
theorem gc_L_come_X6_come_x5 : GoodIn wsL_come wsX50 := goodIn_r _ [338, 339] (by decide +kernel) (by decide +kernel)
theorem ggL_come_X6_come : GoodIn wsL_come wsX6_come := good_cons gc_L_come_X6_come_h (good_app (good_app (good_app (good_app (good_app (good_app (good_app gc_L_come_X6_come_1 (good_app gc_L_come_X6_come_2 (good_app gc_L_come_X6_come_3 (good_app gc_L_come_X6_come_4 (good_app gc_L_come_X6_come_5 (good_app gc_L_come_X6_come_6 (good_app gc_L_come_X6_come_7 (gc_L_come_X6_come_8)))))))) gc_L_come_X6_come_x6) gc_L_come_X6_come_x1) gc_L_come_X6_come_x2) gc_L_come_X6_come_x4) gc_L_come_X6_come_x0) gc_L_come_X6_come_x5)
set_option maxRecDepth 20000 in
theorem gL_come_X6_come : GoodIn wsL_come (wsV RL 117 RX6 yX6_come wsX6_come) := goodIn_app (goodIn_of _ (by decide +kernel)) ggL_come_X6_come
set_option maxRecDepth 20000 in
theorem ggL_come_X6_leads : GoodIn wsL_come wsX6_leads := goodIn_r _ [79, 6, 80, 81, 4, 82, 83, 84, 85, 25, 86, 87, 300, 301, 302, 303, 304, 305, 306, 307, 308, 309, 310, 311, 312, 313, 314] (by decide +kernel) (by decide +kernel)
set_option maxRecDepth 20000 in
theorem gL_come_X6_leads : GoodIn wsL_come (wsV RL 53 RX6 yX6_leads wsX6_leads) := goodIn_app (goodIn_of _ (by decide +kernel)) ggL_come_X6_leads
set_option maxRecDepth 20000 in
theorem ggL_come_X6_ofStamp : GoodIn wsL_come wsX6_ofStamp := goodIn_r _ [91, 6, 7, 92, 93, 94, 95, 96, 97, 98, 99, 44, 45, 46, 47, 48, 100, 32, 4, 33, 22, 23, 24, 25, 26, 27, 28, 29, 30, 31, 34, 35, 36, 37, 38, 39, 40, 41, 42, 43, 49, 50, 101, 102, 103, 104, 105, 106, 107, 108, 109, 110, 111, 52, 53, 54, 55, 56, 57, 300, 301, 302, 303, 304, 305, 306, 307, 308, 309, 310, 311, 312, 313, 314, 315, 316, 317, 318, 319, 320, 321, 322] (by decide +kernel) (by decide +kernel)
set_option maxRecDepth 20000 in
theorem gL_come_X6_ofStamp : GoodIn wsL_come (wsV RL 50 RX6 yX6_ofStamp wsX6_ofStamp) := goodIn_app (goodIn_of _ (by decide +kernel)) ggL_come_X6_ofStamp
set_option maxRecDepth 20000 in
theorem ggL_type_X6_put : GoodIn wsL_type wsX6_put := goodIn_r _ [5, 6, 7, 8, 9, 10, 11, 12, 13, 14, 15, 16, 17, 18, 19, 20, 21, 22, 23, 24, 25, 26, 27, 28, 29, 30, 31] (by decide +kernel) (by decide +kernel)
set_option maxRecDepth 20000 in
theorem gL_type_X6_put : GoodIn wsL_type (wsV RL 119 RX6 yX6_put wsX6_put) := goodIn_app (goodIn_of _ (by decide +kernel)) ggL_type_X6_put
set_option maxRecDepth 20000 in
theorem ggL_text_L_up : GoodIn wsL_text wsL_up := goodIn_r _ [4, 5] (by decide +kernel) (by decide +kernel)
set_option maxRecDepth 20000 in
theorem gL_text_L_up : GoodIn wsL_text (va_wsS RL 22 yL_up wsL_up) := goodIn_app (goodIn_of _ (by decide +kernel)) ggL_text_L_up
set_option maxRecDepth 20000 in
theorem ggL_text_X6_wipe : GoodIn wsL_text wsX6_wipe := goodIn_r _ [10, 11, 12, 13, 14, 15, 16, 17, 527, 528, 529, 530, 531, 532, 533, 534, 535, 536, 537] (by decide +kernel) (by decide +kernel)
set_option maxRecDepth 20000 in
theorem gL_text_X6_wipe : GoodIn wsL_text (wsV RL 123 RX6 yX6_wipe wsX6_wipe) := goodIn_app (goodIn_of _ (by decide +kernel)) ggL_text_X6_wipe
set_option maxRecDepth 20000 in
theorem ggL_text_L_type : GoodIn wsL_text wsL_type := goodIn_r _ [20, 21, 22, 23, 9, 24, 11, 25, 26, 27, 15, 28, 17, 29, 30, 31, 32, 33, 34, 35, 36, 527, 528, 529, 530, 531, 532, 533, 534, 535, 536, 537] (by decide +kernel) (by decide +kernel)
set_option maxRecDepth 20000 in
theorem gL_text_L_type : GoodIn wsL_text (va_wsS RL 126 yL_type wsL_type) := goodIn_app (goodIn_of _ (by decide +kernel)) ggL_text_L_type
set_option maxRecDepth 20000 in
theorem ggL_text_X6_fault : GoodIn wsL_text wsX6_fault := goodIn_r _ [40, 11, 41, 42, 43, 15, 44, 45, 17, 29, 46, 47, 48, 49, 50, 51, 52, 53, 54, 55, 56, 57, 58, 59, 60, 61, 62, 63, 64, 65, 66, 67, 68, 69, 70, 71, 72, 73, 74, 75, 76, 77, 78, 79, 80, 81, 82, 83, 84, 85, 86, 87, 88, 89, 90, 91, 92, 93, 94, 95, 96, 97, 98, 99, 100, 101, 102, 103, 104, 105, 106, 107, 108, 109, 110, 111, 112, 113, 114, 115, 116, 117, 118, 119, 120, 121, 122, 123, 124, 125, 126, 127, 128, 129, 130, 131, 132, 133, 134, 135, 136, 137, 138, 139, 140, 527, 528, 529, 530, 531, 532, 533, 534, 535, 536, 537] (by decide +kernel) (by decide +kernel)
set_option maxRecDepth 20000 in
theorem gL_text_X6_fault : GoodIn wsL_text (wsV RL 130 RX6 yX6_fault wsX6_fault) := goodIn_app (goodIn_of _ (by decide +kernel)) ggL_text_X6_fault
set_option maxRecDepth 20000 in
theorem gc_L_text_L_print_1 : GoodIn wsL_text wsL_print_r1 := goodIn_r _ [144, 145, 146, 147, 148, 9, 149, 150, 151, 152, 153, 154, 155, 156, 157, 158, 159, 160, 161, 162, 163, 164, 165, 166] (by decide +kernel) (by decide +kernel)
set_option maxRecDepth 20000 in
theorem gc_L_text_L_print_2 : GoodIn wsL_text wsL_print_r2 := goodIn_r _ [167, 168, 169, 170, 171, 172, 173, 174, 175, 176, 177, 178, 179, 180, 181, 182, 183, 184, 185, 186, 187, 188, 189, 190] (by decide +kernel) (by decide +kernel)
set_option maxRecDepth 20000 in
theorem gc_L_text_L_print_3 : GoodIn wsL_text wsL_print_r3 := goodIn_r _ [191, 192, 193, 194, 195, 196, 197, 198, 199, 200, 201, 202, 203, 204, 205, 206, 207, 208, 209, 210, 211, 212, 213, 214] (by decide +kernel) (by decide +kernel)
set_option maxRecDepth 20000 in
theorem gc_L_text_L_print_4 : GoodIn wsL_text wsL_print_r4 := goodIn_r _ [11, 215, 216, 217, 218, 219, 220, 221, 222, 223, 224, 225, 226, 227, 228, 229, 230, 231, 232, 233, 234, 235, 236, 237] (by decide +kernel) (by decide +kernel)
set_option maxRecDepth 20000 in
theorem gc_L_text_L_print_5 : GoodIn wsL_text wsL_print_r5 := goodIn_r _ [238, 239, 240, 241, 242, 243, 244, 245, 246, 247, 248, 249, 250, 251, 252, 253, 254, 255, 256, 257, 258, 259, 260, 261] (by decide +kernel) (by decide +kernel)
set_option maxRecDepth 20000 in
theorem gc_L_text_L_print_6 : GoodIn wsL_text wsL_print_r6 := goodIn_r _ [262, 263, 264, 265, 266, 267, 268, 269, 270, 271, 272] (by decide +kernel) (by decide +kernel)
set_option maxRecDepth 20000 in
theorem gc_L_text_L_print_h : GoodIn wsL_text [.code yL_print cL_print 5 (some .long)] := goodIn_r _ [143] rfl (by decide +kernel)
set_option maxRecDepth 20000 in
theorem gc_L_text_L_print_x6 : GoodIn wsL_text wsX60 := goodIn_r _ [527, 528, 529, 530, 531] (by decide +kernel) (by decide +kernel)
set_option maxRecDepth 20000 in
theorem gc_L_text_L_print_x2 : GoodIn wsL_text wsX20 := goodIn_r _ [538, 539, 540, 541, 542, 543, 544, 545, 546, 547] (by decide +kernel) (by decide +kernel)
set_option maxRecDepth 20000 in
theorem gc_L_text_L_print_x4 : GoodIn wsL_text wsX40 := goodIn_r _ [548, 549, 550, 551, 552, 553, 554, 555] (by decide +kernel) (by decide +kernel)
set_option maxRecDepth 20000 in
theorem gc_L_text_L_print_x0 : GoodIn wsL_text wsX00 := goodIn_r _ [556, 557, 558, 559, 560, 561, 562] (by decide +kernel) (by decide +kernel)
set_option maxRecDepth 20000 in
theorem gc_L_text_L_print_x3 : GoodIn wsL_text wsX30 := goodIn_r _ [532, 533, 534, 535, 536, 537] (by decide +kernel) (by decide +kernel)
set_option maxRecDepth 20000 in
theorem gc_L_text_L_print_x1 : GoodIn wsL_text wsX10 := goodIn_r _ [563, 564] (by decide +kernel) (by decide +kernel)
theorem ggL_text_L_print : GoodIn wsL_text wsL_print := good_cons gc_L_text_L_print_h (good_app (good_app (good_app (good_app (good_app (good_app (good_app gc_L_text_L_print_1 (good_app gc_L_text_L_print_2 (good_app gc_L_text_L_print_3 (good_app gc_L_text_L_print_4 (good_app gc_L_text_L_print_5 (gc_L_text_L_print_6)))))) gc_L_text_L_print_x6) gc_L_text_L_print_x2) gc_L_text_L_print_x4) gc_L_text_L_print_x0) gc_L_text_L_print_x3) gc_L_text_L_print_x1)
set_option maxRecDepth 20000 in
theorem gL_text_L_print : GoodIn wsL_text (va_wsS RL 133 yL_print wsL_print) := goodIn_app (goodIn_of _ (by decide +kernel)) ggL_text_L_print
set_option maxRecDepth 20000 in
theorem gc_L_text_X6_carryOut_1 : GoodIn wsL_text wsX6_carryOut_r1 := goodIn_r _ [11, 216, 150, 277, 41, 42, 43, 15, 44, 45, 17, 29, 46, 47, 48, 49, 50, 51, 52, 53, 54, 55, 56, 57] (by decide +kernel) (by decide +kernel)
set_option maxRecDepth 20000 in
theorem gc_L_text_X6_carryOut_2 : GoodIn wsL_text wsX6_carryOut_r2 := goodIn_r _ [58, 59, 60, 61, 62, 63, 64, 65, 66, 67, 68, 69, 70, 71, 72, 73, 74, 75, 76, 77, 78, 79, 80, 81] (by decide +kernel) (by decide +kernel)
set_option maxRecDepth 20000 in
theorem gc_L_text_X6_carryOut_3 : GoodIn wsL_text wsX6_carryOut_r3 := goodIn_r _ [82, 83, 84, 85, 86, 87, 88, 89, 90, 91, 92, 93, 94, 95, 96, 97, 98, 99, 100, 101, 102, 103, 104, 105] (by decide +kernel) (by decide +kernel)
set_option maxRecDepth 20000 in
theorem gc_L_text_X6_carryOut_4 : GoodIn wsL_text wsX6_carryOut_r4 := goodIn_r _ [106, 107, 108, 109, 110, 111, 112, 113, 114, 115, 116, 117, 118, 119, 120, 121, 122, 123, 124, 125, 126, 127, 128, 129] (by decide +kernel) (by decide +kernel)
set_option maxRecDepth 20000 in
theorem gc_L_text_X6_carryOut_5 : GoodIn wsL_text wsX6_carryOut_r5 := goodIn_r _ [130, 131, 132, 133, 134, 135, 136, 137, 138, 139, 140, 278, 279, 280, 281, 282, 283, 284, 285, 286, 159, 287, 288, 289] (by decide +kernel) (by decide +kernel)
set_option maxRecDepth 20000 in
theorem gc_L_text_X6_carryOut_6 : GoodIn wsL_text wsX6_carryOut_r6 := goodIn_r _ [290, 291, 292, 293, 174, 253, 294, 295, 296, 297, 298, 299, 300, 301, 302, 303, 180, 161, 304, 305, 265, 306, 307, 308] (by decide +kernel) (by decide +kernel)
set_option maxRecDepth 20000 in
theorem gc_L_text_X6_carryOut_7 : GoodIn wsL_text wsX6_carryOut_r7 := goodIn_r _ [309, 193, 310, 311, 312, 235, 313, 314, 315, 316, 317, 318, 319, 320, 321, 322, 323, 324, 325, 326, 327, 328, 329, 330] (by decide +kernel) (by decide +kernel)
set_option maxRecDepth 20000 in
theorem gc_L_text_X6_carryOut_8 : GoodIn wsL_text wsX6_carryOut_r8 := goodIn_r _ [331, 332, 333, 334, 335, 336, 337, 338, 339, 340, 341, 342, 182, 343, 344, 345, 346, 347, 267, 348, 349, 350, 351, 352] (by decide +kernel) (by decide +kernel)
set_option maxRecDepth 20000 in
theorem gc_L_text_X6_carryOut_9 : GoodIn wsL_text wsX6_carryOut_r9 := goodIn_r _ [353, 354, 355, 356, 357, 358, 359, 360, 361, 154, 9, 155, 187, 188, 362, 157, 158, 160, 162, 163, 164, 165, 166, 167] (by decide +kernel) (by decide +kernel)
set_option maxRecDepth 20000 in
theorem gc_L_text_X6_carryOut_10 : GoodIn wsL_text wsX6_carryOut_r10 := goodIn_r _ [168, 169, 170, 171, 172, 173, 175, 176, 177, 178, 179, 181, 363, 364, 365, 366, 367, 368, 369, 370, 371, 372, 373, 374] (by decide +kernel) (by decide +kernel)
set_option maxRecDepth 20000 in
theorem gc_L_text_X6_carryOut_11 : GoodIn wsL_text wsX6_carryOut_r11 := goodIn_r _ [375, 376, 377, 378, 379, 380, 381, 382, 383, 384, 385, 386, 387, 388, 389, 390, 391, 250, 251, 252, 247, 248, 392, 393] (by decide +kernel) (by decide +kernel)
set_option maxRecDepth 20000 in
theorem gc_L_text_X6_carryOut_12 : GoodIn wsL_text wsX6_carryOut_r12 := goodIn_r _ [394, 395, 396, 397, 398, 399, 400, 401, 402, 403, 404, 405, 406, 407, 408, 409, 410, 411, 412, 413, 414, 415, 416, 417] (by decide +kernel) (by decide +kernel)
set_option maxRecDepth 20000 in
theorem gc_L_text_X6_carryOut_13 : GoodIn wsL_text wsX6_carryOut_r13 := goodIn_r _ [418, 419, 420, 421, 422, 423, 424, 425, 426, 427, 428, 429, 430, 431, 432, 433, 434, 435, 436, 437, 438, 439, 263, 264] (by decide +kernel) (by decide +kernel)
set_option maxRecDepth 20000 in
theorem gc_L_text_X6_carryOut_14 : GoodIn wsL_text wsX6_carryOut_r14 := goodIn_r _ [266, 440, 441, 442, 443, 444, 445, 446, 447, 448, 449, 450, 451, 452, 453, 454, 455, 456, 457, 458, 459, 460, 461, 462] (by decide +kernel) (by decide +kernel)
set_option maxRecDepth 20000 in
theorem gc_L_text_X6_carryOut_15 : GoodIn wsL_text wsX6_carryOut_r15 := goodIn_r _ [463, 464, 465, 466, 467, 468, 469, 470, 471, 472, 473, 474, 475, 476, 477, 478, 479, 480, 12, 13, 14, 16, 481, 482] (by decide +kernel) (by decide +kernel)
set_option maxRecDepth 20000 in
theorem gc_L_text_X6_carryOut_16 : GoodIn wsL_text wsX6_carryOut_r16 := goodIn_r _ [483, 484, 485, 486, 487, 488] (by decide +kernel) (by decide +kernel)
set_option maxRecDepth 20000 in
theorem gc_L_text_X6_carryOut_h : GoodIn wsL_text [.code yX6_carryOut cX6_carryOut 2 (some .int)] := goodIn_r _ [276] (by decide +kernel) (by decide +kernel)
set_option maxRecDepth 20000 in
theorem gc_L_text_X6_carryOut_x6 : GoodIn wsL_text wsX60 := goodIn_r _ [527, 528, 529, 530, 531] (by decide +kernel) (by decide +kernel)
set_option maxRecDepth 20000 in
theorem gc_L_text_X6_carryOut_x3 : GoodIn wsL_text wsX30 := goodIn_r _ [532, 533, 534, 535, 536, 537] (by decide +kernel) (by decide +kernel)
set_option maxRecDepth 20000 in
theorem gc_L_text_X6_carryOut_x1 : GoodIn wsL_text wsX10 := goodIn_r _ [563, 564] (by decide +kernel) (by decide +kernel)
set_option maxRecDepth 20000 in
theorem gc_L_text_X6_carryOut_x2 : GoodIn wsL_text wsX20 := goodIn_r _ [538, 539, 540, 541, 542, 543, 544, 545, 546, 547] (by decide +kernel) (by decide +kernel)
set_option maxRecDepth 20000 in
theorem gc_L_text_X6_carryOut_x4 : GoodIn wsL_text wsX40 := goodIn_r _ [548, 549, 550, 551, 552, 553, 554, 555] (by decide +kernel) (by decide +kernel)
set_option maxRecDepth 20000 in
theorem gc_L_text_X6_carryOut_x0 : GoodIn wsL_text wsX00 := goodIn_r _ [556, 557, 558, 559, 560, 561, 562] (by decide +kernel) (by decide +kernel)
set_option maxRecDepth 20000 in
theorem gc_L_text_X6_carryOut_x5 : GoodIn wsL_text wsX50 := goodIn_r _ [565, 566] (by decide +kernel) (by decide +kernel)
theorem ggL_text_X6_carryOut : GoodIn wsL_text wsX6_carryOut := good_cons gc_L_text_X6_carryOut_h (good_app (good_app (good_app (good_app (good_app (good_app (good_app (good_app gc_L_text_X6_carryOut_1 (good_app gc_L_text_X6_carryOut_2 (good_app gc_L_text_X6_carryOut_3 (good_app gc_L_text_X6_carryOut_4 (good_app gc_L_text_X6_carryOut_5 (good_app gc_L_text_X6_carryOut_6 (good_app gc_L_text_X6_carryOut_7 (good_app gc_L_text_X6_carryOut_8 (good_app gc_L_text_X6_carryOut_9 (good_app gc_L_text_X6_carryOut_10 (good_app gc_L_text_X6_carryOut_11 (good_app gc_L_text_X6_carryOut_12 (good_app gc_L_text_X6_carryOut_13 (good_app gc_L_text_X6_carryOut_14 (good_app gc_L_text_X6_carryOut_15 (gc_L_text_X6_carryOut_16)))))))))))))))) gc_L_text_X6_carryOut_x6) gc_L_text_X6_carryOut_x3) gc_L_text_X6_carryOut_x1) gc_L_text_X6_carryOut_x2) gc_L_text_X6_carryOut_x4) gc_L_text_X6_carryOut_x0) gc_L_text_X6_carryOut_x5)
set_option maxRecDepth 20000 in
theorem gL_text_X6_carryOut : GoodIn wsL_text (wsV RL 137 RX6 yX6_carryOut wsX6_carryOut) := goodIn_app (goodIn_of _ (by decide +kernel)) ggL_text_X6_carryOut
set_option maxRecDepth 20000 in
theorem ggL_text_X6_count : GoodIn wsL_text wsX6_count := goodIn_r _ [204, 150, 152, 205, 206, 207, 208, 209, 210, 211, 212, 213, 214, 11, 215, 216, 217, 156, 157, 158, 159, 160, 161, 162, 163, 164, 165, 166, 9, 167, 168, 169, 170, 171, 172, 173, 174, 175, 176, 177, 178, 179, 180, 181, 182, 154, 155, 194, 195, 196, 197, 198, 199, 200, 527, 528, 529, 530, 531, 538, 539, 540, 541, 542, 543, 544, 545, 546, 547, 548, 549, 550, 551, 552, 553, 554, 555, 556, 557, 558, 559, 560, 561, 562, 532, 533, 534, 535, 536, 537, 563, 564] (by decide +kernel) (by decide +kernel)
set_option maxRecDepth 20000 in
theorem gL_text_X6_count : GoodIn wsL_text (wsV RL 46 RX6 yX6_count wsX6_count) := goodIn_app (goodIn_of _ (by decide +kernel)) ggL_text_X6_count
set_option maxRecDepth 20000 in
theorem ggL_text_X6_undo : GoodIn wsL_text wsX6_undo := goodIn_r _ [492, 216, 150, 493, 494, 495, 281, 496, 284, 283, 324, 325, 326, 159, 327, 174, 328, 329, 330, 331, 253, 300, 301, 161, 306, 332, 333, 334, 335, 336, 337, 338, 180, 339, 193, 340, 310, 311, 312, 235, 341, 342, 182, 343, 344, 345, 265, 346, 316, 347, 317, 318, 319, 267, 348, 349, 527, 528, 529, 530, 531, 563, 564, 538, 539, 540, 541, 542, 543, 544, 545, 546, 547, 548, 549, 550, 551, 552, 553, 554, 555, 556, 557, 558, 559, 560, 561, 562] (by decide +kernel) (by decide +kernel)
set_option maxRecDepth 20000 in
theorem gL_text_X6_undo : GoodIn wsL_text (wsV RL 140 RX6 yX6_undo wsX6_undo) := goodIn_app (goodIn_of _ (by decide +kernel)) ggL_text_X6_undo
set_option maxRecDepth 20000 in
theorem gc_L_text_X6_own_1 : GoodIn wsL_text wsX6_own_r1 := goodIn_r _ [216, 150, 278, 279, 280, 281, 282, 283, 284, 285, 286, 159, 287, 288, 289, 290, 291, 292, 293, 174, 253, 294, 295, 296] (by decide +kernel) (by decide +kernel)
set_option maxRecDepth 20000 in
theorem gc_L_text_X6_own_2 : GoodIn wsL_text wsX6_own_r2 := goodIn_r _ [297, 298, 299, 300, 301, 302, 303, 180, 161, 304, 305, 265, 306, 307, 308, 309, 193, 310, 311, 312, 235, 313, 314, 315] (by decide +kernel) (by decide +kernel)
set_option maxRecDepth 20000 in
theorem gc_L_text_X6_own_3 : GoodIn wsL_text wsX6_own_r3 := goodIn_r _ [316, 317, 318, 319, 320, 321, 322, 323, 324, 325, 326, 327, 328, 329, 330, 331, 332, 333, 334, 335, 336, 337, 338, 339] (by decide +kernel) (by decide +kernel)
set_option maxRecDepth 20000 in
theorem gc_L_text_X6_own_4 : GoodIn wsL_text wsX6_own_r4 := goodIn_r _ [340, 341, 342, 182, 343, 344, 345, 346, 347, 267, 348, 349, 501, 359, 360, 361, 154, 9, 155, 187, 188, 362, 157, 158] (by decide +kernel) (by decide +kernel)
set_option maxRecDepth 20000 in
theorem gc_L_text_X6_own_5 : GoodIn wsL_text wsX6_own_r5 := goodIn_r _ [160, 162, 163, 164, 165, 166, 167, 168, 169, 170, 171, 172, 173, 175, 176, 177, 178, 179, 181, 363, 364, 365, 366, 367] (by decide +kernel) (by decide +kernel)
set_option maxRecDepth 20000 in
theorem gc_L_text_X6_own_6 : GoodIn wsL_text wsX6_own_r6 := goodIn_r _ [368, 369, 370, 371, 372, 373, 374, 375, 376, 377, 378, 379, 380, 381, 382, 383, 384, 385, 386, 387, 388, 389, 390, 391] (by decide +kernel) (by decide +kernel)
set_option maxRecDepth 20000 in
theorem gc_L_text_X6_own_7 : GoodIn wsL_text wsX6_own_r7 := goodIn_r _ [250, 251, 252, 247, 248, 481, 482, 483, 484, 485, 486, 487, 488] (by decide +kernel) (by decide +kernel)
set_option maxRecDepth 20000 in
theorem gc_L_text_X6_own_h : GoodIn wsL_text [.code yX6_own cX6_own 3 (some .int)] := goodIn_r _ [500] (by decide +kernel) (by decide +kernel)
set_option maxRecDepth 20000 in
theorem gc_L_text_X6_own_x6 : GoodIn wsL_text wsX60 := goodIn_r _ [527, 528, 529, 530, 531] (by decide +kernel) (by decide +kernel)
set_option maxRecDepth 20000 in
theorem gc_L_text_X6_own_x1 : GoodIn wsL_text wsX10 := goodIn_r _ [563, 564] (by decide +kernel) (by decide +kernel)
set_option maxRecDepth 20000 in
theorem gc_L_text_X6_own_x2 : GoodIn wsL_text wsX20 := goodIn_r _ [538, 539, 540, 541, 542, 543, 544, 545, 546, 547] (by decide +kernel) (by decide +kernel)
set_option maxRecDepth 20000 in
theorem gc_L_text_X6_own_x4 : GoodIn wsL_text wsX40 := goodIn_r _ [548, 549, 550, 551, 552, 553, 554, 555] (by decide +kernel) (by decide +kernel)
set_option maxRecDepth 20000 in
theorem gc_L_text_X6_own_x0 : GoodIn wsL_text wsX00 := goodIn_r _ [556, 557, 558, 559, 560, 561, 562] (by decide +kernel) (by decide +kernel)
theorem ggL_text_X6_own : GoodIn wsL_text wsX6_own := good_cons gc_L_text_X6_own_h (good_app (good_app (good_app (good_app (good_app (good_app gc_L_text_X6_own_1 (good_app gc_L_text_X6_own_2 (good_app gc_L_text_X6_own_3 (good_app gc_L_text_X6_own_4 (good_app gc_L_text_X6_own_5 (good_app gc_L_text_X6_own_6 (gc_L_text_X6_own_7))))))) gc_L_text_X6_own_x6) gc_L_text_X6_own_x1) gc_L_text_X6_own_x2) gc_L_text_X6_own_x4) gc_L_text_X6_own_x0)
set_option maxRecDepth 20000 in
theorem gL_text_X6_own : GoodIn wsL_text (wsV RL 108 RX6 yX6_own wsX6_own) := goodIn_app (goodIn_of _ (by decide +kernel)) ggL_text_X6_own
set_option maxRecDepth 20000 in
theorem gc_L_text_X6_stamp_1 : GoodIn wsL_text wsX6_stamp_r1 := goodIn_r _ [216, 150, 278, 279, 280, 281, 282, 283, 284, 285, 286, 159, 287, 288, 289, 290, 291, 292, 293, 174, 253, 294, 295, 296] (by decide +kernel) (by decide +kernel)
set_option maxRecDepth 20000 in
theorem gc_L_text_X6_stamp_2 : GoodIn wsL_text wsX6_stamp_r2 := goodIn_r _ [297, 298, 299, 300, 301, 302, 303, 180, 161, 304, 305, 265, 306, 307, 308, 309, 193, 310, 311, 312, 235, 313, 314, 315] (by decide +kernel) (by decide +kernel)
set_option maxRecDepth 20000 in
theorem gc_L_text_X6_stamp_3 : GoodIn wsL_text wsX6_stamp_r3 := goodIn_r _ [316, 317, 318, 319, 320, 321, 322, 323, 324, 325, 326, 327, 328, 329, 330, 331, 332, 333, 334, 335, 336, 337, 338, 339] (by decide +kernel) (by decide +kernel)
set_option maxRecDepth 20000 in
theorem gc_L_text_X6_stamp_4 : GoodIn wsL_text wsX6_stamp_r4 := goodIn_r _ [340, 341, 342, 182, 343, 344, 345, 346, 347, 267, 348, 349, 506, 393, 394, 395, 187, 9, 188, 154, 155, 396, 397, 398] (by decide +kernel) (by decide +kernel)
set_option maxRecDepth 20000 in
theorem gc_L_text_X6_stamp_5 : GoodIn wsL_text wsX6_stamp_r5 := goodIn_r _ [399, 400, 401, 402, 403, 404, 405, 406, 481, 482, 483, 484, 485, 486, 487, 488] (by decide +kernel) (by decide +kernel)
set_option maxRecDepth 20000 in
theorem gc_L_text_X6_stamp_h : GoodIn wsL_text [.code yX6_stamp cX6_stamp 5 (some .int)] := goodIn_r _ [505] (by decide +kernel) (by decide +kernel)
set_option maxRecDepth 20000 in
theorem gc_L_text_X6_stamp_x6 : GoodIn wsL_text wsX60 := goodIn_r _ [527, 528, 529, 530, 531] (by decide +kernel) (by decide +kernel)
set_option maxRecDepth 20000 in
theorem gc_L_text_X6_stamp_x1 : GoodIn wsL_text wsX10 := goodIn_r _ [563, 564] (by decide +kernel) (by decide +kernel)
set_option maxRecDepth 20000 in
theorem gc_L_text_X6_stamp_x2 : GoodIn wsL_text wsX20 := goodIn_r _ [538, 539, 540, 541, 542, 543, 544, 545, 546, 547] (by decide +kernel) (by decide +kernel)
set_option maxRecDepth 20000 in
theorem gc_L_text_X6_stamp_x4 : GoodIn wsL_text wsX40 := goodIn_r _ [548, 549, 550, 551, 552, 553, 554, 555] (by decide +kernel) (by decide +kernel)
set_option maxRecDepth 20000 in
theorem gc_L_text_X6_stamp_x0 : GoodIn wsL_text wsX00 := goodIn_r _ [556, 557, 558, 559, 560, 561, 562] (by decide +kernel) (by decide +kernel)
theorem ggL_text_X6_stamp : GoodIn wsL_text wsX6_stamp := good_cons gc_L_text_X6_stamp_h (good_app (good_app (good_app (good_app (good_app (good_app gc_L_text_X6_stamp_1 (good_app gc_L_text_X6_stamp_2 (good_app gc_L_text_X6_stamp_3 (good_app gc_L_text_X6_stamp_4 (gc_L_text_X6_stamp_5))))) gc_L_text_X6_stamp_x6) gc_L_text_X6_stamp_x1) gc_L_text_X6_stamp_x2) gc_L_text_X6_stamp_x4) gc_L_text_X6_stamp_x0)
