set_option maxRecDepth 20000 in
theorem gL_act_L_changed : GoodIn wsL_act (va_wsS RL 65 yL_changed wsL_changed) := goodIn_app (goodIn_of _ (by decide +kernel)) ggL_act_L_changed
set_option maxRecDepth 20000 in
theorem gc_L_act_X6_takeBack_1 : GoodIn wsL_act wsX6_takeBack_r1 := goodIn_r _ [25, 11, 144, 145, 146, 147, 148, 149, 150, 151, 152, 30, 153, 154, 155, 156, 157, 158, 83, 45, 109, 159, 160, 161] (by decide +kernel) (by decide +kernel)
set_option maxRecDepth 20000 in
theorem gc_L_act_X6_takeBack_2 : GoodIn wsL_act wsX6_takeBack_r2 := goodIn_r _ [162, 163, 164, 165, 166, 167, 168, 51, 32, 169, 170, 95, 171, 172, 173, 174, 79, 175, 176, 177, 130, 178, 179, 180] (by decide +kernel) (by decide +kernel)
set_option maxRecDepth 20000 in
theorem gc_L_act_X6_takeBack_3 : GoodIn wsL_act wsX6_takeBack_r3 := goodIn_r _ [181, 182, 183, 184, 185, 186, 187, 188, 189, 190, 191, 192, 193, 194, 195, 196, 197, 198, 199, 200, 201, 202, 203, 204] (by decide +kernel) (by decide +kernel)
set_option maxRecDepth 20000 in
theorem gc_L_act_X6_takeBack_4 : GoodIn wsL_act wsX6_takeBack_r4 := goodIn_r _ [205, 206, 207, 53, 208, 209, 210, 211, 212, 97, 213, 214, 215, 216, 217, 218, 36, 43, 48, 49, 50, 52, 37, 9] (by decide +kernel) (by decide +kernel)
set_option maxRecDepth 20000 in
theorem gc_L_act_X6_takeBack_5 : GoodIn wsL_act wsX6_takeBack_r5 := goodIn_r _ [38, 219, 28, 29, 31, 33, 34, 35, 39, 40, 41, 42, 44, 46, 47, 54, 55, 220, 221, 222, 223, 224, 225, 226] (by decide +kernel) (by decide +kernel)
set_option maxRecDepth 20000 in
theorem gc_L_act_X6_takeBack_6 : GoodIn wsL_act wsX6_takeBack_r6 := goodIn_r _ [227, 228, 229, 230, 231, 232, 233, 234, 235, 236, 237, 238, 239, 240, 241, 242, 243, 244, 245, 246, 247, 248, 106, 107] (by decide +kernel) (by decide +kernel)
set_option maxRecDepth 20000 in
theorem gc_L_act_X6_takeBack_7 : GoodIn wsL_act wsX6_takeBack_r7 := goodIn_r _ [108, 103, 104, 249, 250, 251, 252, 253, 254, 255, 256] (by decide +kernel) (by decide +kernel)
set_option maxRecDepth 20000 in
theorem gc_L_act_X6_takeBack_h : GoodIn wsL_act [.code yX6_takeBack cX6_takeBack 2 (some .int)] := goodIn_r _ [143] (by decide +kernel) (by decide +kernel)
set_option maxRecDepth 20000 in
theorem gc_L_act_X6_takeBack_x6 : GoodIn wsL_act wsX60 := goodIn_r _ [581, 582, 583, 584, 585] (by decide +kernel) (by decide +kernel)
set_option maxRecDepth 20000 in
theorem gc_L_act_X6_takeBack_x1 : GoodIn wsL_act wsX10 := goodIn_r _ [617, 618] (by decide +kernel) (by decide +kernel)
set_option maxRecDepth 20000 in
theorem gc_L_act_X6_takeBack_x2 : GoodIn wsL_act wsX20 := goodIn_r _ [586, 587, 588, 589, 590, 591, 592, 593, 594, 595] (by decide +kernel) (by decide +kernel)
set_option maxRecDepth 20000 in
theorem gc_L_act_X6_takeBack_x4 : GoodIn wsL_act wsX40 := goodIn_r _ [596, 597, 598, 599, 600, 601, 602, 603] (by decide +kernel) (by decide +kernel)
set_option maxRecDepth 20000 in
theorem gc_L_act_X6_takeBack_x0 : GoodIn wsL_act wsX00 := goodIn_r _ [604, 605, 606, 607, 608, 609, 610] (by decide +kernel) (by decide +kernel)
theorem ggL_act_X6_takeBack : GoodIn wsL_act wsX6_takeBack := good_cons gc_L_act_X6_takeBack_h (good_app (good_app (good_app (good_app (good_app (good_app gc_L_act_X6_takeBack_1 (good_app gc_L_act_X6_takeBack_2 (good_app gc_L_act_X6_takeBack_3 (good_app gc_L_act_X6_takeBack_4 (good_app gc_L_act_X6_takeBack_5 (good_app gc_L_act_X6_takeBack_6 (gc_L_act_X6_takeBack_7))))))) gc_L_act_X6_takeBack_x6) gc_L_act_X6_takeBack_x1) gc_L_act_X6_takeBack_x2) gc_L_act_X6_takeBack_x4) gc_L_act_X6_takeBack_x0)
set_option maxRecDepth 20000 in
theorem gL_act_X6_takeBack : GoodIn wsL_act (wsV RL 69 RX6 yX6_takeBack wsX6_takeBack) := goodIn_app (goodIn_of _ (by decide +kernel)) ggL_act_X6_takeBack
set_option maxRecDepth 20000 in
theorem ggL_act_X6_ofStamp : GoodIn wsL_act wsX6_ofStamp := goodIn_r _ [116, 11, 12, 117, 118, 119, 120, 121, 122, 123, 124, 49, 50, 51, 52, 53, 125, 37, 9, 38, 27, 28, 29, 30, 31, 32, 33, 34, 35, 36, 39, 40, 41, 42, 43, 44, 45, 46, 47, 48, 54, 55, 126, 127, 128, 129, 130, 131, 132, 133, 134, 135, 136, 57, 58, 59, 60, 61, 62, 581, 582, 583, 584, 585, 586, 587, 588, 589, 590, 591, 592, 593, 594, 595, 596, 597, 598, 599, 600, 601, 602, 603] (by decide +kernel) (by decide +kernel)
set_option maxRecDepth 20000 in
theorem gL_act_X6_ofStamp : GoodIn wsL_act (wsV RL 50 RX6 yX6_ofStamp wsX6_ofStamp) := goodIn_app (goodIn_of _ (by decide +kernel)) ggL_act_X6_ofStamp
set_option maxRecDepth 20000 in
theorem gc_L_act_X6_stamp_1 : GoodIn wsL_act wsX6_stamp_r1 := goodIn_r _ [25, 11, 144, 145, 146, 147, 148, 149, 150, 151, 152, 30, 153, 154, 155, 156, 157, 158, 83, 45, 109, 159, 160, 161] (by decide +kernel) (by decide +kernel)
set_option maxRecDepth 20000 in
theorem gc_L_act_X6_stamp_2 : GoodIn wsL_act wsX6_stamp_r2 := goodIn_r _ [162, 163, 164, 165, 166, 167, 168, 51, 32, 169, 170, 95, 171, 172, 173, 174, 79, 175, 176, 177, 130, 178, 179, 180] (by decide +kernel) (by decide +kernel)
set_option maxRecDepth 20000 in
theorem gc_L_act_X6_stamp_3 : GoodIn wsL_act wsX6_stamp_r3 := goodIn_r _ [181, 182, 183, 184, 185, 186, 187, 188, 189, 190, 191, 192, 193, 194, 195, 196, 197, 198, 199, 200, 201, 202, 203, 204] (by decide +kernel) (by decide +kernel)
set_option maxRecDepth 20000 in
theorem gc_L_act_X6_stamp_4 : GoodIn wsL_act wsX6_stamp_r4 := goodIn_r _ [205, 206, 207, 53, 208, 209, 210, 211, 212, 97, 213, 214, 269, 270, 271, 272, 73, 9, 74, 54, 55, 273, 274, 275] (by decide +kernel) (by decide +kernel)
set_option maxRecDepth 20000 in
theorem gc_L_act_X6_stamp_5 : GoodIn wsL_act wsX6_stamp_r5 := goodIn_r _ [276, 277, 278, 279, 280, 281, 282, 283, 249, 250, 251, 252, 253, 254, 255, 256] (by decide +kernel) (by decide +kernel)
set_option maxRecDepth 20000 in
theorem gc_L_act_X6_stamp_h : GoodIn wsL_act [.code yX6_stamp cX6_stamp 5 (some .int)] := goodIn_r _ [268] (by decide +kernel) (by decide +kernel)
set_option maxRecDepth 20000 in
theorem gc_L_act_X6_stamp_x6 : GoodIn wsL_act wsX60 := goodIn_r _ [581, 582, 583, 584, 585] (by decide +kernel) (by decide +kernel)
set_option maxRecDepth 20000 in
theorem gc_L_act_X6_stamp_x1 : GoodIn wsL_act wsX10 := goodIn_r _ [617, 618] (by decide +kernel) (by decide +kernel)
set_option maxRecDepth 20000 in
theorem gc_L_act_X6_stamp_x2 : GoodIn wsL_act wsX20 := goodIn_r _ [586, 587, 588, 589, 590, 591, 592, 593, 594, 595] (by decide +kernel) (by decide +kernel)
set_option maxRecDepth 20000 in
theorem gc_L_act_X6_stamp_x4 : GoodIn wsL_act wsX40 := goodIn_r _ [596, 597, 598, 599, 600, 601, 602, 603] (by decide +kernel) (by decide +kernel)
set_option maxRecDepth 20000 in
theorem gc_L_act_X6_stamp_x0 : GoodIn wsL_act wsX00 := goodIn_r _ [604, 605, 606, 607, 608, 609, 610] (by decide +kernel) (by decide +kernel)
theorem ggL_act_X6_stamp : GoodIn wsL_act wsX6_stamp := good_cons gc_L_act_X6_stamp_h (good_app (good_app (good_app (good_app (good_app (good_app gc_L_act_X6_stamp_1 (good_app gc_L_act_X6_stamp_2 (good_app gc_L_act_X6_stamp_3 (good_app gc_L_act_X6_stamp_4 (gc_L_act_X6_stamp_5))))) gc_L_act_X6_stamp_x6) gc_L_act_X6_stamp_x1) gc_L_act_X6_stamp_x2) gc_L_act_X6_stamp_x4) gc_L_act_X6_stamp_x0)
set_option maxRecDepth 20000 in
theorem gL_act_X6_stamp : GoodIn wsL_act (wsV RL 72 RX6 yX6_stamp wsX6_stamp) := goodIn_app (goodIn_of _ (by decide +kernel)) ggL_act_X6_stamp
set_option maxRecDepth 20000 in
theorem gc_L_act_L_made_1 : GoodIn wsL_act wsL_made_r1 := goodIn_r _ [6, 7, 8, 9, 10, 11, 12, 13, 14, 15, 16, 17, 18, 19, 20, 21, 22, 23, 24, 25, 26, 27, 28, 29] (by decide +kernel) (by decide +kernel)
set_option maxRecDepth 20000 in
theorem gc_L_act_L_made_2 : GoodIn wsL_act wsL_made_r2 := goodIn_r _ [30, 31, 32, 33, 34, 35, 36, 37, 38, 39, 40, 41, 42, 43, 44, 45, 46, 47, 48, 49, 50, 51, 52, 53] (by decide +kernel) (by decide +kernel)
set_option maxRecDepth 20000 in
theorem gc_L_act_L_made_3 : GoodIn wsL_act wsL_made_r3 := goodIn_r _ [54, 55, 56, 57, 58, 59, 60, 61, 62, 113, 114, 115, 116, 117, 118, 119, 120, 121, 122, 123, 124, 125, 126, 127] (by decide +kernel) (by decide +kernel)
set_option maxRecDepth 20000 in
theorem gc_L_act_L_made_4 : GoodIn wsL_act wsL_made_r4 := goodIn_r _ [128, 129, 130, 131, 132, 133, 134, 135, 136] (by decide +kernel) (by decide +kernel)
set_option maxRecDepth 20000 in
theorem gc_L_act_L_made_h : GoodIn wsL_act [.code yL_made cL_made 8 (some .boolean)] := goodIn_r _ [286] rfl (by decide +kernel)
set_option maxRecDepth 20000 in
theorem gc_L_act_L_made_x6 : GoodIn wsL_act wsX60 := goodIn_r _ [581, 582, 583, 584, 585] (by decide +kernel) (by decide +kernel)
set_option maxRecDepth 20000 in
theorem gc_L_act_L_made_x2 : GoodIn wsL_act wsX20 := goodIn_r _ [586, 587, 588, 589, 590, 591, 592, 593, 594, 595] (by decide +kernel) (by decide +kernel)
set_option maxRecDepth 20000 in
theorem gc_L_act_L_made_x4 : GoodIn wsL_act wsX40 := goodIn_r _ [596, 597, 598, 599, 600, 601, 602, 603] (by decide +kernel) (by decide +kernel)
set_option maxRecDepth 20000 in
theorem gc_L_act_L_made_x0 : GoodIn wsL_act wsX00 := goodIn_r _ [604, 605, 606, 607, 608, 609, 610] (by decide +kernel) (by decide +kernel)
set_option maxRecDepth 20000 in
theorem gc_L_act_L_made_x3 : GoodIn wsL_act wsX30 := goodIn_r _ [611, 612, 613, 614, 615, 616] (by decide +kernel) (by decide +kernel)
set_option maxRecDepth 20000 in
theorem gc_L_act_L_made_x1 : GoodIn wsL_act wsX10 := goodIn_r _ [617, 618] (by decide +kernel) (by decide +kernel)
theorem ggL_act_L_made : GoodIn wsL_act wsL_made := good_cons gc_L_act_L_made_h (good_app (good_app (good_app (good_app (good_app (good_app (good_app gc_L_act_L_made_1 (good_app gc_L_act_L_made_2 (good_app gc_L_act_L_made_3 (gc_L_act_L_made_4)))) gc_L_act_L_made_x6) gc_L_act_L_made_x2) gc_L_act_L_made_x4) gc_L_act_L_made_x0) gc_L_act_L_made_x3) gc_L_act_L_made_x1)
set_option maxRecDepth 20000 in
theorem gL_act_L_made : GoodIn wsL_act (va_wsS RL 76 yL_made wsL_made) := goodIn_app (goodIn_of _ (by decide +kernel)) ggL_act_L_made
set_option maxRecDepth 20000 in
theorem gc_L_act_X6_pass_1 : GoodIn wsL_act wsX6_pass_r1 := goodIn_r _ [25, 11, 144, 145, 146, 147, 148, 149, 150, 151, 152, 30, 153, 154, 155, 156, 157, 158, 83, 45, 109, 159, 160, 161] (by decide +kernel) (by decide +kernel)
set_option maxRecDepth 20000 in
theorem gc_L_act_X6_pass_2 : GoodIn wsL_act wsX6_pass_r2 := goodIn_r _ [162, 163, 164, 165, 166, 167, 168, 51, 32, 169, 170, 95, 171, 172, 173, 174, 79, 175, 176, 177, 130, 178, 179, 180] (by decide +kernel) (by decide +kernel)
set_option maxRecDepth 20000 in
theorem gc_L_act_X6_pass_3 : GoodIn wsL_act wsX6_pass_r3 := goodIn_r _ [181, 182, 183, 184, 185, 186, 187, 188, 189, 190, 191, 192, 193, 194, 195, 196, 197, 198, 199, 200, 201, 202, 203, 204] (by decide +kernel) (by decide +kernel)
set_option maxRecDepth 20000 in
theorem gc_L_act_X6_pass_4 : GoodIn wsL_act wsX6_pass_r4 := goodIn_r _ [205, 206, 207, 53, 208, 209, 210, 211, 212, 97, 213, 214, 291, 292, 293, 294, 46, 47, 43, 48, 49, 50, 52, 73] (by decide +kernel) (by decide +kernel)
set_option maxRecDepth 20000 in
theorem gc_L_act_X6_pass_5 : GoodIn wsL_act wsX6_pass_r5 := goodIn_r _ [9, 74, 273, 274, 275, 276, 277, 278, 219, 28, 29, 31, 33, 34, 35, 36, 37, 38, 39, 40, 41, 42, 44, 54] (by decide +kernel) (by decide +kernel)
set_option maxRecDepth 20000 in
theorem gc_L_act_X6_pass_6 : GoodIn wsL_act wsX6_pass_r6 := goodIn_r _ [55, 279, 280, 281, 282, 283, 249, 250, 251, 252, 253, 254, 255, 256] (by decide +kernel) (by decide +kernel)
set_option maxRecDepth 20000 in
theorem gc_L_act_X6_pass_h : GoodIn wsL_act [.code yX6_pass cX6_pass 4 (some .int)] := goodIn_r _ [290] (by decide +kernel) (by decide +kernel)
set_option maxRecDepth 20000 in
theorem gc_L_act_X6_pass_x6 : GoodIn wsL_act wsX60 := goodIn_r _ [581, 582, 583, 584, 585] (by decide +kernel) (by decide +kernel)
set_option maxRecDepth 20000 in
theorem gc_L_act_X6_pass_x1 : GoodIn wsL_act wsX10 := goodIn_r _ [617, 618] (by decide +kernel) (by decide +kernel)
set_option maxRecDepth 20000 in
theorem gc_L_act_X6_pass_x2 : GoodIn wsL_act wsX20 := goodIn_r _ [586, 587, 588, 589, 590, 591, 592, 593, 594, 595] (by decide +kernel) (by decide +kernel)
set_option maxRecDepth 20000 in
theorem gc_L_act_X6_pass_x4 : GoodIn wsL_act wsX40 := goodIn_r _ [596, 597, 598, 599, 600, 601, 602, 603] (by decide +kernel) (by decide +kernel)
set_option maxRecDepth 20000 in
theorem gc_L_act_X6_pass_x0 : GoodIn wsL_act wsX00 := goodIn_r _ [604, 605, 606, 607, 608, 609, 610] (by decide +kernel) (by decide +kernel)
theorem ggL_act_X6_pass : GoodIn wsL_act wsX6_pass := good_cons gc_L_act_X6_pass_h (good_app (good_app (good_app (good_app (good_app (good_app gc_L_act_X6_pass_1 (good_app gc_L_act_X6_pass_2 (good_app gc_L_act_X6_pass_3 (good_app gc_L_act_X6_pass_4 (good_app gc_L_act_X6_pass_5 (gc_L_act_X6_pass_6)))))) gc_L_act_X6_pass_x6) gc_L_act_X6_pass_x1) gc_L_act_X6_pass_x2) gc_L_act_X6_pass_x4) gc_L_act_X6_pass_x0)
set_option maxRecDepth 20000 in
theorem gL_act_X6_pass : GoodIn wsL_act (wsV RL 80 RX6 yX6_pass wsX6_pass) := goodIn_app (goodIn_of _ (by decide +kernel)) ggL_act_X6_pass
set_option maxRecDepth 20000 in
theorem gc_L_act_L_good_1 : GoodIn wsL_act wsL_good_r1 := goodIn_r _ [113, 114, 115, 9, 116, 11, 12, 117, 118, 119, 120, 121, 122, 123, 124, 49, 50, 51, 52, 53, 125, 37, 38, 27] (by decide +kernel) (by decide +kernel)
set_option maxRecDepth 20000 in
theorem gc_L_act_L_good_2 : GoodIn wsL_act wsL_good_r2 := goodIn_r _ [28, 29, 30, 31, 32, 33, 34, 35, 36, 39, 40, 41, 42, 43, 44, 45, 46, 47, 48, 54, 55, 126, 127, 128] (by decide +kernel) (by decide +kernel)
set_option maxRecDepth 20000 in
theorem gc_L_act_L_good_3_0 : GoodIn wsL_act [Cond.code yX4_chainLength cX4_chainLength 4 (some .int)] := goodIn_r _ [129] (by decide +kernel) (by decide +kernel)
set_option maxRecDepth 20000 in
theorem gc_L_act_L_good_3_1 : GoodIn wsL_act [Cond.fieldLink RX4 24 "VisaPages$Stamps" "root" "[I"] := goodIn_r _ [130] (by decide +kernel) (by decide +kernel)
set_option maxRecDepth 20000 in
theorem gc_L_act_L_good_3_2 : GoodIn wsL_act [Cond.methodLink RX4 48 yX4_has] := goodIn_r _ [131] (by decide +kernel) (by decide +kernel)
set_option maxRecDepth 20000 in
theorem gc_L_act_L_good_3_3 : GoodIn wsL_act [Cond.methodLink RX6 154 yX4_countBelow] := goodIn_r _ [132] (by decide +kernel) (by decide +kernel)
set_option maxRecDepth 20000 in
theorem gc_L_act_L_good_3_4 : GoodIn wsL_act [Cond.instanceMethod yX4_countBelow] := goodIn_r _ [133] (by decide +kernel) (by decide +kernel)
set_option maxRecDepth 20000 in
theorem gc_L_act_L_good_3_5 : GoodIn wsL_act [Cond.selects RX4 yX4_countBelow yX4_countBelow] := goodIn_r _ [134] (by decide +kernel) (by decide +kernel)
set_option maxRecDepth 20000 in
theorem gc_L_act_L_good_3_6 : GoodIn wsL_act [Cond.code yX4_countBelow cX4_countBelow 5 (some .int)] := goodIn_r _ [135] (by decide +kernel) (by decide +kernel)
set_option maxRecDepth 20000 in
theorem gc_L_act_L_good_3_7 : GoodIn wsL_act [Cond.methodLink RX4 56 yJ13_bitCount_95d88] := goodIn_r _ [136] (by decide +kernel) (by decide +kernel)
set_option maxRecDepth 20000 in
theorem gc_L_act_L_good_3_8 : GoodIn wsL_act [Cond.static yJ13_bitCount_95d88] := goodIn_r _ [57] (by decide +kernel) (by decide +kernel)
set_option maxRecDepth 20000 in
theorem gc_L_act_L_good_3_9 : GoodIn wsL_act [Cond.initialized RJ13] := goodIn_r _ [58] (by decide +kernel) (by decide +kernel)
set_option maxRecDepth 20000 in
theorem gc_L_act_L_good_3_10 : GoodIn wsL_act [Cond.code yJ13_bitCount_95d88 cJ13_bitCount_95d88 2 (some .int)] := goodIn_r _ [59] (by decide +kernel) (by decide +kernel)
set_option maxRecDepth 20000 in
theorem gc_L_act_L_good_3_11 : GoodIn wsL_act [Cond.constantLong RJ13 314 (6148914691236517205)] := goodIn_r _ [60] (by decide +kernel) (by decide +kernel)
set_option maxRecDepth 20000 in
theorem gc_L_act_L_good_3_12 : GoodIn wsL_act [Cond.constantLong RJ13 316 (3689348814741910323)] := goodIn_r _ [61] (by decide +kernel) (by decide +kernel)
set_option maxRecDepth 20000 in
theorem gc_L_act_L_good_3_13 : GoodIn wsL_act [Cond.constantLong RJ13 318 (1085102592571150095)] := goodIn_r _ [62] (by decide +kernel) (by decide +kernel)
set_option maxRecDepth 20000 in
theorem gc_L_act_L_good_3_14 : GoodIn wsL_act [Cond.methodLink RL 62 yL_based] := goodIn_r _ [137] (by decide +kernel) (by decide +kernel)
set_option maxRecDepth 20000 in
theorem gc_L_act_L_good_3_15 : GoodIn wsL_act [Cond.static yL_based] := goodIn_r _ [138] (by decide +kernel) (by decide +kernel)
set_option maxRecDepth 20000 in
theorem gc_L_act_L_good_3_16 : GoodIn wsL_act [Cond.initialized RL] := goodIn_r _ [3] (by decide +kernel) (by decide +kernel)
set_option maxRecDepth 20000 in
theorem gc_L_act_L_good_3_17 : GoodIn wsL_act [Cond.code yL_based cL_based 4 (some .boolean)] := goodIn_r _ [139] rfl (by decide +kernel)
set_option maxRecDepth 20000 in
theorem gc_L_act_L_good_3_18 : GoodIn wsL_act [Cond.methodLink RL 43 yX6_ofPage] := goodIn_r _ [63] (by decide +kernel) (by decide +kernel)
set_option maxRecDepth 20000 in
theorem gc_L_act_L_good_3_19 : GoodIn wsL_act [Cond.instanceMethod yX6_ofPage] := goodIn_r _ [64] (by decide +kernel) (by decide +kernel)
set_option maxRecDepth 20000 in
theorem gc_L_act_L_good_3_20 : GoodIn wsL_act [Cond.selects RX6 yX6_ofPage yX6_ofPage] := goodIn_r _ [65] (by decide +kernel) (by decide +kernel)
set_option maxRecDepth 20000 in
theorem gc_L_act_L_good_3_21 : GoodIn wsL_act [Cond.code yX6_ofPage cX6_ofPage 3 (some .int)] := goodIn_r _ [66] (by decide +kernel) (by decide +kernel)
set_option maxRecDepth 20000 in
theorem gc_L_act_L_good_3_22 : GoodIn wsL_act [Cond.fieldLink RX6 95 "VisaPages$House" "owners" "[I"] := goodIn_r _ [67] (by decide +kernel) (by decide +kernel)
set_option maxRecDepth 20000 in
theorem gc_L_act_L_good_3_23 : GoodIn wsL_act [Cond.methodLink RX6 91 yX6_isPage] := goodIn_r _ [68] (by decide +kernel) (by decide +kernel)
theorem gc_L_act_L_good_3 : GoodIn wsL_act wsL_good_r3 := good_cons gc_L_act_L_good_3_0 (good_cons gc_L_act_L_good_3_1 (good_cons gc_L_act_L_good_3_2 (good_cons gc_L_act_L_good_3_3 (good_cons gc_L_act_L_good_3_4 (good_cons gc_L_act_L_good_3_5 (good_cons gc_L_act_L_good_3_6 (good_cons gc_L_act_L_good_3_7 (good_cons gc_L_act_L_good_3_8 (good_cons gc_L_act_L_good_3_9 (good_cons gc_L_act_L_good_3_10 (good_cons gc_L_act_L_good_3_11 (good_cons gc_L_act_L_good_3_12 (good_cons gc_L_act_L_good_3_13 (good_cons gc_L_act_L_good_3_14 (good_cons gc_L_act_L_good_3_15 (good_cons gc_L_act_L_good_3_16 (good_cons gc_L_act_L_good_3_17 (good_cons gc_L_act_L_good_3_18 (good_cons gc_L_act_L_good_3_19 (good_cons gc_L_act_L_good_3_20 (good_cons gc_L_act_L_good_3_21 (good_cons gc_L_act_L_good_3_22 (good_cons gc_L_act_L_good_3_23 (fun _ h => absurd h List.not_mem_nil))))))))))))))))))))))))
set_option maxRecDepth 20000 in
theorem gc_L_act_L_good_4 : GoodIn wsL_act wsL_good_r4 := goodIn_r _ [69, 70, 71, 72, 73, 74, 75, 76, 77, 78, 79, 56] (by decide +kernel) (by decide +kernel)
set_option maxRecDepth 20000 in
theorem gc_L_act_L_good_h : GoodIn wsL_act [.code yL_good cL_good 3 (some .boolean)] := goodIn_r _ [112] rfl (by decide +kernel)
set_option maxRecDepth 20000 in
theorem gc_L_act_L_good_x6 : GoodIn wsL_act wsX60 := goodIn_r _ [581, 582, 583, 584, 585] (by decide +kernel) (by decide +kernel)
set_option maxRecDepth 20000 in
theorem gc_L_act_L_good_x2 : GoodIn wsL_act wsX20 := goodIn_r _ [586, 587, 588, 589, 590, 591, 592, 593, 594, 595] (by decide +kernel) (by decide +kernel)
set_option maxRecDepth 20000 in
theorem gc_L_act_L_good_x4 : GoodIn wsL_act wsX40 := goodIn_r _ [596, 597, 598, 599, 600, 601, 602, 603] (by decide +kernel) (by decide +kernel)
theorem ggL_act_L_good : GoodIn wsL_act wsL_good := good_cons gc_L_act_L_good_h (good_app (good_app (good_app (good_app gc_L_act_L_good_1 (good_app gc_L_act_L_good_2 (good_app gc_L_act_L_good_3 (gc_L_act_L_good_4)))) gc_L_act_L_good_x6) gc_L_act_L_good_x2) gc_L_act_L_good_x4)
set_option maxRecDepth 20000 in
theorem gL_act_L_good : GoodIn wsL_act (va_wsS RL 84 yL_good wsL_good) := goodIn_app (goodIn_of _ (by decide +kernel)) ggL_act_L_good
set_option maxRecDepth 20000 in
theorem gc_L_act_X6_forge_1 : GoodIn wsL_act wsX6_forge_r1 := goodIn_r _ [25, 11, 144, 145, 146, 147, 148, 149, 150, 151, 152, 30, 153, 154, 155, 156, 157, 158, 83, 45, 109, 159, 160, 161] (by decide +kernel) (by decide +kernel)
set_option maxRecDepth 20000 in
theorem gc_L_act_X6_forge_2 : GoodIn wsL_act wsX6_forge_r2 := goodIn_r _ [162, 163, 164, 165, 166, 167, 168, 51, 32, 169, 170, 95, 171, 172, 173, 174, 79, 175, 176, 177, 130, 178, 179, 180] (by decide +kernel) (by decide +kernel)
set_option maxRecDepth 20000 in
theorem gc_L_act_X6_forge_3 : GoodIn wsL_act wsX6_forge_r3 := goodIn_r _ [181, 182, 183, 184, 185, 186, 187, 188, 189, 190, 191, 192, 193, 194, 195, 196, 197, 198, 199, 200, 201, 202, 203, 204] (by decide +kernel) (by decide +kernel)
set_option maxRecDepth 20000 in
theorem gc_L_act_X6_forge_4 : GoodIn wsL_act wsX6_forge_r4 := goodIn_r _ [205, 206, 207, 53, 208, 209, 210, 211, 212, 97, 213, 214, 299, 300, 301, 302, 73, 9, 74, 54, 55, 48, 49, 50] (by decide +kernel) (by decide +kernel)
set_option maxRecDepth 20000 in
theorem gc_L_act_X6_forge_5 : GoodIn wsL_act wsX6_forge_r5 := goodIn_r _ [52, 273, 274, 275, 276, 277, 278, 279, 280, 281, 282, 283, 249, 250, 251, 252, 253, 254, 255, 256] (by decide +kernel) (by decide +kernel)
set_option maxRecDepth 20000 in
theorem gc_L_act_X6_forge_h : GoodIn wsL_act [.code yX6_forge cX6_forge 6 (some .int)] := goodIn_r _ [298] (by decide +kernel) (by decide +kernel)
set_option maxRecDepth 20000 in
theorem gc_L_act_X6_forge_x6 : GoodIn wsL_act wsX60 := goodIn_r _ [581, 582, 583, 584, 585] (by decide +kernel) (by decide +kernel)
set_option maxRecDepth 20000 in
theorem gc_L_act_X6_forge_x1 : GoodIn wsL_act wsX10 := goodIn_r _ [617, 618] (by decide +kernel) (by decide +kernel)
set_option maxRecDepth 20000 in
theorem gc_L_act_X6_forge_x2 : GoodIn wsL_act wsX20 := goodIn_r _ [586, 587, 588, 589, 590, 591, 592, 593, 594, 595] (by decide +kernel) (by decide +kernel)
set_option maxRecDepth 20000 in
theorem gc_L_act_X6_forge_x4 : GoodIn wsL_act wsX40 := goodIn_r _ [596, 597, 598, 599, 600, 601, 602, 603] (by decide +kernel) (by decide +kernel)
set_option maxRecDepth 20000 in
theorem gc_L_act_X6_forge_x0 : GoodIn wsL_act wsX00 := goodIn_r _ [604, 605, 606, 607, 608, 609, 610] (by decide +kernel) (by decide +kernel)
theorem ggL_act_X6_forge : GoodIn wsL_act wsX6_forge := good_cons gc_L_act_X6_forge_h (good_app (good_app (good_app (good_app (good_app (good_app gc_L_act_X6_forge_1 (good_app gc_L_act_X6_forge_2 (good_app gc_L_act_X6_forge_3 (good_app gc_L_act_X6_forge_4 (gc_L_act_X6_forge_5))))) gc_L_act_X6_forge_x6) gc_L_act_X6_forge_x1) gc_L_act_X6_forge_x2) gc_L_act_X6_forge_x4) gc_L_act_X6_forge_x0)
set_option maxRecDepth 20000 in
theorem gL_act_X6_forge : GoodIn wsL_act (wsV RL 87 RX6 yX6_forge wsX6_forge) := goodIn_app (goodIn_of _ (by decide +kernel)) ggL_act_X6_forge
set_option maxRecDepth 20000 in
theorem ggL_act_X6_leads : GoodIn wsL_act wsX6_leads := goodIn_r _ [101, 11, 102, 103, 9, 104, 105, 106, 107, 30, 108, 109, 581, 582, 583, 584, 585, 586, 587, 588, 589, 590, 591, 592, 593, 594, 595] (by decide +kernel) (by decide +kernel)
set_option maxRecDepth 20000 in
theorem gL_act_X6_leads : GoodIn wsL_act (wsV RL 53 RX6 yX6_leads wsX6_leads) := goodIn_app (goodIn_of _ (by decide +kernel)) ggL_act_X6_leads
set_option maxRecDepth 20000 in
theorem ggL_act_X6_note : GoodIn wsL_act wsX6_note := goodIn_r _ [87, 11, 14, 88, 89, 90, 91, 92, 93, 94, 95, 96, 97, 581, 582, 583, 584, 585, 586, 587, 588, 589, 590, 591, 592, 593, 594, 595, 604, 605, 606, 607, 608, 609, 610] (by decide +kernel) (by decide +kernel)
set_option maxRecDepth 20000 in
theorem gL_act_X6_note : GoodIn wsL_act (wsV RL 56 RX6 yX6_note wsX6_note) := goodIn_app (goodIn_of _ (by decide +kernel)) ggL_act_X6_note
set_option maxRecDepth 20000 in
theorem gc_L_act_X6_door_1 : GoodIn wsL_act wsX6_door_r1 := goodIn_r _ [25, 11, 144, 145, 146, 147, 148, 149, 150, 151, 152, 30, 153, 154, 155, 156, 157, 158, 83, 45, 109, 159, 160, 161] (by decide +kernel) (by decide +kernel)
set_option maxRecDepth 20000 in
theorem gc_L_act_X6_door_2 : GoodIn wsL_act wsX6_door_r2 := goodIn_r _ [162, 163, 164, 165, 166, 167, 168, 51, 32, 169, 170, 95, 171, 172, 173, 174, 79, 175, 176, 177, 130, 178, 179, 180] (by decide +kernel) (by decide +kernel)
set_option maxRecDepth 20000 in
theorem gc_L_act_X6_door_3 : GoodIn wsL_act wsX6_door_r3 := goodIn_r _ [181, 182, 183, 184, 185, 186, 187, 188, 189, 190, 191, 192, 193, 194, 195, 196, 197, 198, 199, 200, 201, 202, 203, 204] (by decide +kernel) (by decide +kernel)
set_option maxRecDepth 20000 in
theorem gc_L_act_X6_door_4 : GoodIn wsL_act wsX6_door_r4 := goodIn_r _ [205, 206, 207, 53, 208, 209, 210, 211, 212, 97, 213, 214, 307, 308, 309, 310, 103, 9, 104, 48, 49, 50, 52, 311] (by decide +kernel) (by decide +kernel)
set_option maxRecDepth 20000 in
theorem gc_L_act_X6_door_5 : GoodIn wsL_act wsX6_door_r5 := goodIn_r _ [312, 313, 314, 229, 230, 231, 232, 233, 234, 235, 236, 37, 38, 249, 250, 251, 252, 253, 254, 255, 256] (by decide +kernel) (by decide +kernel)
set_option maxRecDepth 20000 in
theorem gc_L_act_X6_door_h : GoodIn wsL_act [.code yX6_door cX6_door 4 (some .int)] := goodIn_r _ [306] (by decide +kernel) (by decide +kernel)
set_option maxRecDepth 20000 in
theorem gc_L_act_X6_door_x6 : GoodIn wsL_act wsX60 := goodIn_r _ [581, 582, 583, 584, 585] (by decide +kernel) (by decide +kernel)
set_option maxRecDepth 20000 in
theorem gc_L_act_X6_door_x1 : GoodIn wsL_act wsX10 := goodIn_r _ [617, 618] (by decide +kernel) (by decide +kernel)
set_option maxRecDepth 20000 in
theorem gc_L_act_X6_door_x2 : GoodIn wsL_act wsX20 := goodIn_r _ [586, 587, 588, 589, 590, 591, 592, 593, 594, 595] (by decide +kernel) (by decide +kernel)
set_option maxRecDepth 20000 in
theorem gc_L_act_X6_door_x4 : GoodIn wsL_act wsX40 := goodIn_r _ [596, 597, 598, 599, 600, 601, 602, 603] (by decide +kernel) (by decide +kernel)
set_option maxRecDepth 20000 in
theorem gc_L_act_X6_door_x0 : GoodIn wsL_act wsX00 := goodIn_r _ [604, 605, 606, 607, 608, 609, 610] (by decide +kernel) (by decide +kernel)
theorem ggL_act_X6_door : GoodIn wsL_act wsX6_door := good_cons gc_L_act_X6_door_h (good_app (good_app (good_app (good_app (good_app (good_app gc_L_act_X6_door_1 (good_app gc_L_act_X6_door_2 (good_app gc_L_act_X6_door_3 (good_app gc_L_act_X6_door_4 (gc_L_act_X6_door_5))))) gc_L_act_X6_door_x6) gc_L_act_X6_door_x1) gc_L_act_X6_door_x2) gc_L_act_X6_door_x4) gc_L_act_X6_door_x0)
set_option maxRecDepth 20000 in
theorem gL_act_X6_door : GoodIn wsL_act (wsV RL 91 RX6 yX6_door wsX6_door) := goodIn_app (goodIn_of _ (by decide +kernel)) ggL_act_X6_door
set_option maxRecDepth 20000 in
theorem gc_L_act_L_noted_1 : GoodIn wsL_act wsL_noted_r1 := goodIn_r _ [6, 7, 8, 9, 10, 11, 12, 13, 14, 15, 16, 17, 18, 19, 20, 21, 22, 23, 24, 25, 26, 27, 28, 29] (by decide +kernel) (by decide +kernel)
set_option maxRecDepth 20000 in
theorem gc_L_act_L_noted_2 : GoodIn wsL_act wsL_noted_r2 := goodIn_r _ [30, 31, 32, 33, 34, 35, 36, 37, 38, 39, 40, 41, 42, 43, 44, 45, 46, 47, 48, 49, 50, 51, 52, 53] (by decide +kernel) (by decide +kernel)
set_option maxRecDepth 20000 in
theorem gc_L_act_L_noted_3 : GoodIn wsL_act wsL_noted_r3 := goodIn_r _ [54, 55, 56, 57, 58, 59, 60, 61, 62, 84, 85, 86, 87, 88, 89, 90, 91, 92, 93, 94, 95, 96, 97] (by decide +kernel) (by decide +kernel)
set_option maxRecDepth 20000 in
theorem gc_L_act_L_noted_h : GoodIn wsL_act [.code yL_noted cL_noted 5 (some .boolean)] := goodIn_r _ [317] rfl (by decide +kernel)
set_option maxRecDepth 20000 in
theorem gc_L_act_L_noted_x6 : GoodIn wsL_act wsX60 := goodIn_r _ [581, 582, 583, 584, 585] (by decide +kernel) (by decide +kernel)
set_option maxRecDepth 20000 in
theorem gc_L_act_L_noted_x2 : GoodIn wsL_act wsX20 := goodIn_r _ [586, 587, 588, 589, 590, 591, 592, 593, 594, 595] (by decide +kernel) (by decide +kernel)
set_option maxRecDepth 20000 in
theorem gc_L_act_L_noted_x4 : GoodIn wsL_act wsX40 := goodIn_r _ [596, 597, 598, 599, 600, 601, 602, 603] (by decide +kernel) (by decide +kernel)
set_option maxRecDepth 20000 in
theorem gc_L_act_L_noted_x0 : GoodIn wsL_act wsX00 := goodIn_r _ [604, 605, 606, 607, 608, 609, 610] (by decide +kernel) (by decide +kernel)
set_option maxRecDepth 20000 in
theorem gc_L_act_L_noted_x3 : GoodIn wsL_act wsX30 := goodIn_r _ [611, 612, 613, 614, 615, 616] (by decide +kernel) (by decide +kernel)
set_option maxRecDepth 20000 in
theorem gc_L_act_L_noted_x1 : GoodIn wsL_act wsX10 := goodIn_r _ [617, 618] (by decide +kernel) (by decide +kernel)
theorem ggL_act_L_noted : GoodIn wsL_act wsL_noted := good_cons gc_L_act_L_noted_h (good_app (good_app (good_app (good_app (good_app (good_app (good_app gc_L_act_L_noted_1 (good_app gc_L_act_L_noted_2 (gc_L_act_L_noted_3))) gc_L_act_L_noted_x6) gc_L_act_L_noted_x2) gc_L_act_L_noted_x4) gc_L_act_L_noted_x0) gc_L_act_L_noted_x3) gc_L_act_L_noted_x1)
set_option maxRecDepth 20000 in
theorem gL_act_L_noted : GoodIn wsL_act (va_wsS RL 94 yL_noted wsL_noted) := goodIn_app (goodIn_of _ (by decide +kernel)) ggL_act_L_noted
set_option maxRecDepth 20000 in
theorem gc_L_act_L_come_1 : GoodIn wsL_act wsL_come_r1 := goodIn_r _ [6, 7, 8, 9, 10, 11, 12, 13, 14, 15, 16, 17, 18, 19, 20, 21, 22, 23, 24, 25, 26, 27, 28, 29] (by decide +kernel) (by decide +kernel)
set_option maxRecDepth 20000 in
theorem gc_L_act_L_come_2 : GoodIn wsL_act wsL_come_r2 := goodIn_r _ [30, 31, 32, 33, 34, 35, 36, 37, 38, 39, 40, 41, 42, 43, 44, 45, 46, 47, 48, 49, 50, 51, 52, 53] (by decide +kernel) (by decide +kernel)
set_option maxRecDepth 20000 in
theorem gc_L_act_L_come_3 : GoodIn wsL_act wsL_come_r3 := goodIn_r _ [54, 55, 56, 57, 58, 59, 60, 61, 62, 84, 85, 86, 87, 88, 89, 90, 91, 92, 93, 94, 95, 96, 97, 321] (by decide +kernel) (by decide +kernel)
set_option maxRecDepth 20000 in
theorem gc_L_act_L_come_4_0 : GoodIn wsL_act [Cond.static yL_walk] := goodIn_r _ [322] (by decide +kernel) (by decide +kernel)
set_option maxRecDepth 20000 in
theorem gc_L_act_L_come_4_1 : GoodIn wsL_act [Cond.initialized RL] := goodIn_r _ [3] (by decide +kernel) (by decide +kernel)
set_option maxRecDepth 20000 in
theorem gc_L_act_L_come_4_2 : GoodIn wsL_act [Cond.code yL_walk cL_walk 7 (some .int)] := goodIn_r _ [323] rfl (by decide +kernel)
set_option maxRecDepth 20000 in
theorem gc_L_act_L_come_4_3 : GoodIn wsL_act [Cond.methodLink RL 53 yX6_leads] := goodIn_r _ [98] (by decide +kernel) (by decide +kernel)
set_option maxRecDepth 20000 in
theorem gc_L_act_L_come_4_4 : GoodIn wsL_act [Cond.instanceMethod yX6_leads] := goodIn_r _ [99] (by decide +kernel) (by decide +kernel)
set_option maxRecDepth 20000 in
theorem gc_L_act_L_come_4_5 : GoodIn wsL_act [Cond.selects RX6 yX6_leads yX6_leads] := goodIn_r _ [100] (by decide +kernel) (by decide +kernel)
set_option maxRecDepth 20000 in
theorem gc_L_act_L_come_4_6 : GoodIn wsL_act [Cond.code yX6_leads cX6_leads 3 (some .int)] := goodIn_r _ [101] (by decide +kernel) (by decide +kernel)
set_option maxRecDepth 20000 in
theorem gc_L_act_L_come_4_7 : GoodIn wsL_act [Cond.methodLink RX6 157 yX6_isDoor] := goodIn_r _ [102] (by decide +kernel) (by decide +kernel)
set_option maxRecDepth 20000 in
theorem gc_L_act_L_come_4_8 : GoodIn wsL_act [Cond.static yX6_isDoor] := goodIn_r _ [103] (by decide +kernel) (by decide +kernel)
set_option maxRecDepth 20000 in
theorem gc_L_act_L_come_4_9 : GoodIn wsL_act [Cond.code yX6_isDoor cX6_isDoor 2 (some .boolean)] := goodIn_r _ [104] (by decide +kernel) (by decide +kernel)
set_option maxRecDepth 20000 in
theorem gc_L_act_L_come_4_10 : GoodIn wsL_act [Cond.methodLink RX6 161 yX2_ledBy] := goodIn_r _ [105] (by decide +kernel) (by decide +kernel)
set_option maxRecDepth 20000 in
theorem gc_L_act_L_come_4_11 : GoodIn wsL_act [Cond.instanceMethod yX2_ledBy] := goodIn_r _ [106] (by decide +kernel) (by decide +kernel)
set_option maxRecDepth 20000 in
theorem gc_L_act_L_come_4_12 : GoodIn wsL_act [Cond.selects RX2 yX2_ledBy yX2_ledBy] := goodIn_r _ [107] (by decide +kernel) (by decide +kernel)
set_option maxRecDepth 20000 in
theorem gc_L_act_L_come_4_13 : GoodIn wsL_act [Cond.code yX2_ledBy cX2_ledBy 3 (some .int)] := goodIn_r _ [108] (by decide +kernel) (by decide +kernel)
set_option maxRecDepth 20000 in
theorem gc_L_act_L_come_4_14 : GoodIn wsL_act [Cond.fieldLink RX2 15 "VisaPages$House" "doors" "[I"] := goodIn_r _ [109] (by decide +kernel) (by decide +kernel)
set_option maxRecDepth 20000 in
theorem gc_L_act_L_come_4_15 : GoodIn wsL_act [Cond.methodLink RL 50 yX6_ofStamp] := goodIn_r _ [113] (by decide +kernel) (by decide +kernel)
set_option maxRecDepth 20000 in
theorem gc_L_act_L_come_4_16 : GoodIn wsL_act [Cond.instanceMethod yX6_ofStamp] := goodIn_r _ [114] (by decide +kernel) (by decide +kernel)
set_option maxRecDepth 20000 in
theorem gc_L_act_L_come_4_17 : GoodIn wsL_act [Cond.selects RX6 yX6_ofStamp yX6_ofStamp] := goodIn_r _ [115] (by decide +kernel) (by decide +kernel)
set_option maxRecDepth 20000 in
theorem gc_L_act_L_come_4_18 : GoodIn wsL_act [Cond.code yX6_ofStamp cX6_ofStamp 4 (some .int)] := goodIn_r _ [116] (by decide +kernel) (by decide +kernel)
set_option maxRecDepth 20000 in
theorem gc_L_act_L_come_4_19 : GoodIn wsL_act [Cond.fieldLink RX6 125 "VisaPages$Stamps" "page" "[I"] := goodIn_r _ [117] (by decide +kernel) (by decide +kernel)
set_option maxRecDepth 20000 in
theorem gc_L_act_L_come_4_20 : GoodIn wsL_act [Cond.fieldLink RX6 128 "VisaPages$Stamps" "giver" "[I"] := goodIn_r _ [118] (by decide +kernel) (by decide +kernel)
set_option maxRecDepth 20000 in
theorem gc_L_act_L_come_4_21 : GoodIn wsL_act [Cond.fieldLink RX6 131 "VisaPages$Stamps" "holder" "[I"] := goodIn_r _ [119] (by decide +kernel) (by decide +kernel)
set_option maxRecDepth 20000 in
theorem gc_L_act_L_come_4_22 : GoodIn wsL_act [Cond.fieldLink RX6 134 "VisaPages$Stamps" "rights" "[I"] := goodIn_r _ [120] (by decide +kernel) (by decide +kernel)
set_option maxRecDepth 20000 in
theorem gc_L_act_L_come_4_23 : GoodIn wsL_act [Cond.fieldLink RX6 137 "VisaPages$Stamps" "root" "[I"] := goodIn_r _ [121] (by decide +kernel) (by decide +kernel)
theorem gc_L_act_L_come_4 : GoodIn wsL_act wsL_come_r4 := good_cons gc_L_act_L_come_4_0 (good_cons gc_L_act_L_come_4_1 (good_cons gc_L_act_L_come_4_2 (good_cons gc_L_act_L_come_4_3 (good_cons gc_L_act_L_come_4_4 (good_cons gc_L_act_L_come_4_5 (good_cons gc_L_act_L_come_4_6 (good_cons gc_L_act_L_come_4_7 (good_cons gc_L_act_L_come_4_8 (good_cons gc_L_act_L_come_4_9 (good_cons gc_L_act_L_come_4_10 (good_cons gc_L_act_L_come_4_11 (good_cons gc_L_act_L_come_4_12 (good_cons gc_L_act_L_come_4_13 (good_cons gc_L_act_L_come_4_14 (good_cons gc_L_act_L_come_4_15 (good_cons gc_L_act_L_come_4_16 (good_cons gc_L_act_L_come_4_17 (good_cons gc_L_act_L_come_4_18 (good_cons gc_L_act_L_come_4_19 (good_cons gc_L_act_L_come_4_20 (good_cons gc_L_act_L_come_4_21 (good_cons gc_L_act_L_come_4_22 (good_cons gc_L_act_L_come_4_23 (fun _ h => absurd h List.not_mem_nil))))))))))))))))))))))))
set_option maxRecDepth 20000 in
theorem gc_L_act_L_come_5_0 : GoodIn wsL_act [Cond.fieldLink RX6 140 "VisaPages$Stamps" "forged" "J"] := goodIn_r _ [122] (by decide +kernel) (by decide +kernel)
set_option maxRecDepth 20000 in
theorem gc_L_act_L_come_5_1 : GoodIn wsL_act [Cond.fieldLink RX6 148 "VisaPages$Stamps" "taken" "J"] := goodIn_r _ [123] (by decide +kernel) (by decide +kernel)
set_option maxRecDepth 20000 in
theorem gc_L_act_L_come_5_2 : GoodIn wsL_act [Cond.methodLink RX6 122 yX4_has] := goodIn_r _ [124] (by decide +kernel) (by decide +kernel)
set_option maxRecDepth 20000 in
theorem gc_L_act_L_come_5_3 : GoodIn wsL_act [Cond.methodLink RX6 144 yX6_isIn] := goodIn_r _ [125] (by decide +kernel) (by decide +kernel)
set_option maxRecDepth 20000 in
theorem gc_L_act_L_come_5_4 : GoodIn wsL_act [Cond.methodLink RX6 151 yX4_chainLength] := goodIn_r _ [126] (by decide +kernel) (by decide +kernel)
set_option maxRecDepth 20000 in
theorem gc_L_act_L_come_5_5 : GoodIn wsL_act [Cond.instanceMethod yX4_chainLength] := goodIn_r _ [127] (by decide +kernel) (by decide +kernel)
set_option maxRecDepth 20000 in
theorem gc_L_act_L_come_5_6 : GoodIn wsL_act [Cond.selects RX4 yX4_chainLength yX4_chainLength] := goodIn_r _ [128] (by decide +kernel) (by decide +kernel)
set_option maxRecDepth 20000 in
theorem gc_L_act_L_come_5_7 : GoodIn wsL_act [Cond.code yX4_chainLength cX4_chainLength 4 (some .int)] := goodIn_r _ [129] (by decide +kernel) (by decide +kernel)
set_option maxRecDepth 20000 in
theorem gc_L_act_L_come_5_8 : GoodIn wsL_act [Cond.fieldLink RX4 24 "VisaPages$Stamps" "root" "[I"] := goodIn_r _ [130] (by decide +kernel) (by decide +kernel)
set_option maxRecDepth 20000 in
theorem gc_L_act_L_come_5_9 : GoodIn wsL_act [Cond.methodLink RX4 48 yX4_has] := goodIn_r _ [131] (by decide +kernel) (by decide +kernel)
set_option maxRecDepth 20000 in
theorem gc_L_act_L_come_5_10 : GoodIn wsL_act [Cond.methodLink RX6 154 yX4_countBelow] := goodIn_r _ [132] (by decide +kernel) (by decide +kernel)
set_option maxRecDepth 20000 in
theorem gc_L_act_L_come_5_11 : GoodIn wsL_act [Cond.instanceMethod yX4_countBelow] := goodIn_r _ [133] (by decide +kernel) (by decide +kernel)
set_option maxRecDepth 20000 in
theorem gc_L_act_L_come_5_12 : GoodIn wsL_act [Cond.selects RX4 yX4_countBelow yX4_countBelow] := goodIn_r _ [134] (by decide +kernel) (by decide +kernel)
set_option maxRecDepth 20000 in
theorem gc_L_act_L_come_5_13 : GoodIn wsL_act [Cond.code yX4_countBelow cX4_countBelow 5 (some .int)] := goodIn_r _ [135] (by decide +kernel) (by decide +kernel)
set_option maxRecDepth 20000 in
theorem gc_L_act_L_come_5_14 : GoodIn wsL_act [Cond.methodLink RX4 56 yJ13_bitCount_95d88] := goodIn_r _ [136] (by decide +kernel) (by decide +kernel)
set_option maxRecDepth 20000 in
theorem gc_L_act_L_come_5_15 : GoodIn wsL_act [Cond.methodLink RL 62 yL_based] := goodIn_r _ [137] (by decide +kernel) (by decide +kernel)
set_option maxRecDepth 20000 in
theorem gc_L_act_L_come_5_16 : GoodIn wsL_act [Cond.static yL_based] := goodIn_r _ [138] (by decide +kernel) (by decide +kernel)
set_option maxRecDepth 20000 in
theorem gc_L_act_L_come_5_17 : GoodIn wsL_act [Cond.code yL_based cL_based 4 (some .boolean)] := goodIn_r _ [139] rfl (by decide +kernel)
set_option maxRecDepth 20000 in
theorem gc_L_act_L_come_5_18 : GoodIn wsL_act [Cond.methodLink RL 43 yX6_ofPage] := goodIn_r _ [63] (by decide +kernel) (by decide +kernel)
set_option maxRecDepth 20000 in
theorem gc_L_act_L_come_5_19 : GoodIn wsL_act [Cond.instanceMethod yX6_ofPage] := goodIn_r _ [64] (by decide +kernel) (by decide +kernel)
set_option maxRecDepth 20000 in
theorem gc_L_act_L_come_5_20 : GoodIn wsL_act [Cond.selects RX6 yX6_ofPage yX6_ofPage] := goodIn_r _ [65] (by decide +kernel) (by decide +kernel)
set_option maxRecDepth 20000 in
theorem gc_L_act_L_come_5_21 : GoodIn wsL_act [Cond.code yX6_ofPage cX6_ofPage 3 (some .int)] := goodIn_r _ [66] (by decide +kernel) (by decide +kernel)
set_option maxRecDepth 20000 in
theorem gc_L_act_L_come_5_22 : GoodIn wsL_act [Cond.fieldLink RX6 95 "VisaPages$House" "owners" "[I"] := goodIn_r _ [67] (by decide +kernel) (by decide +kernel)
set_option maxRecDepth 20000 in
theorem gc_L_act_L_come_5_23 : GoodIn wsL_act [Cond.methodLink RX6 91 yX6_isPage] := goodIn_r _ [68] (by decide +kernel) (by decide +kernel)
theorem gc_L_act_L_come_5 : GoodIn wsL_act wsL_come_r5 := good_cons gc_L_act_L_come_5_0 (good_cons gc_L_act_L_come_5_1 (good_cons gc_L_act_L_come_5_2 (good_cons gc_L_act_L_come_5_3 (good_cons gc_L_act_L_come_5_4 (good_cons gc_L_act_L_come_5_5 (good_cons gc_L_act_L_come_5_6 (good_cons gc_L_act_L_come_5_7 (good_cons gc_L_act_L_come_5_8 (good_cons gc_L_act_L_come_5_9 (good_cons gc_L_act_L_come_5_10 (good_cons gc_L_act_L_come_5_11 (good_cons gc_L_act_L_come_5_12 (good_cons gc_L_act_L_come_5_13 (good_cons gc_L_act_L_come_5_14 (good_cons gc_L_act_L_come_5_15 (good_cons gc_L_act_L_come_5_16 (good_cons gc_L_act_L_come_5_17 (good_cons gc_L_act_L_come_5_18 (good_cons gc_L_act_L_come_5_19 (good_cons gc_L_act_L_come_5_20 (good_cons gc_L_act_L_come_5_21 (good_cons gc_L_act_L_come_5_22 (good_cons gc_L_act_L_come_5_23 (fun _ h => absurd h List.not_mem_nil))))))))))))))))))))))))
set_option maxRecDepth 20000 in
theorem gc_L_act_L_come_6 : GoodIn wsL_act wsL_come_r6 := goodIn_r _ [69, 70, 71, 72, 73, 74, 75, 76, 77, 78, 79, 324, 325, 326, 327, 328, 329, 330, 331, 332, 333, 334, 335, 336] (by decide +kernel) (by decide +kernel)
set_option maxRecDepth 20000 in
theorem gc_L_act_L_come_7 : GoodIn wsL_act wsL_come_r7 := goodIn_r _ [337, 338, 339, 340, 341, 342, 343, 344, 345, 346, 347, 348, 349, 350, 351, 352, 353, 354, 355, 356, 357, 358, 359, 360] (by decide +kernel) (by decide +kernel)
set_option maxRecDepth 20000 in
theorem gc_L_act_L_come_8 : GoodIn wsL_act wsL_come_r8 := goodIn_r _ [361, 144, 145, 146, 147, 148, 149, 150, 151, 152, 153, 154, 155, 156, 157, 158, 83, 159, 160, 161, 162, 163, 164, 165] (by decide +kernel) (by decide +kernel)
set_option maxRecDepth 20000 in
theorem gc_L_act_L_come_9 : GoodIn wsL_act wsL_come_r9 := goodIn_r _ [166, 167, 168, 169, 170, 171, 172, 173, 174, 175, 176, 177, 178, 179, 180, 181, 182, 183, 184, 185, 186, 187, 188, 189] (by decide +kernel) (by decide +kernel)
set_option maxRecDepth 20000 in
theorem gc_L_act_L_come_10 : GoodIn wsL_act wsL_come_r10 := goodIn_r _ [190, 191, 192, 193, 194, 195, 196, 197, 198, 199, 200, 201, 202, 203, 204, 205, 206, 207, 208, 209, 210, 211, 212, 213] (by decide +kernel) (by decide +kernel)
set_option maxRecDepth 20000 in
theorem gc_L_act_L_come_11 : GoodIn wsL_act wsL_come_r11 := goodIn_r _ [214, 362, 363, 364, 365, 366, 367, 368, 369, 370, 371, 225, 226, 227, 228, 229, 230, 231, 232, 233, 234, 235, 236, 372] (by decide +kernel) (by decide +kernel)
set_option maxRecDepth 20000 in
theorem gc_L_act_L_come_12 : GoodIn wsL_act wsL_come_r12 := goodIn_r _ [373, 374, 375, 376, 377, 378, 379, 380, 381, 382, 383, 384, 385, 386, 387, 388, 389, 390, 391, 392, 393, 248, 394, 395] (by decide +kernel) (by decide +kernel)
set_option maxRecDepth 20000 in
theorem gc_L_act_L_come_13 : GoodIn wsL_act wsL_come_r13 := goodIn_r _ [396, 397, 398, 249, 250, 251, 252, 253, 254, 255, 256] (by decide +kernel) (by decide +kernel)
set_option maxRecDepth 20000 in
theorem gc_L_act_L_come_h : GoodIn wsL_act [.code yL_come cL_come 19 (some .boolean)] := goodIn_r _ [320] rfl (by decide +kernel)
set_option maxRecDepth 20000 in
theorem gc_L_act_L_come_x6 : GoodIn wsL_act wsX60 := goodIn_r _ [581, 582, 583, 584, 585] (by decide +kernel) (by decide +kernel)
set_option maxRecDepth 20000 in
theorem gc_L_act_L_come_x2 : GoodIn wsL_act wsX20 := goodIn_r _ [586, 587, 588, 589, 590, 591, 592, 593, 594, 595] (by decide +kernel) (by decide +kernel)
set_option maxRecDepth 20000 in
theorem gc_L_act_L_come_x4 : GoodIn wsL_act wsX40 := goodIn_r _ [596, 597, 598, 599, 600, 601, 602, 603] (by decide +kernel) (by decide +kernel)
set_option maxRecDepth 20000 in
theorem gc_L_act_L_come_x0 : GoodIn wsL_act wsX00 := goodIn_r _ [604, 605, 606, 607, 608, 609, 610] (by decide +kernel) (by decide +kernel)
set_option maxRecDepth 20000 in
theorem gc_L_act_L_come_x3 : GoodIn wsL_act wsX30 := goodIn_r _ [611, 612, 613, 614, 615, 616] (by decide +kernel) (by decide +kernel)
set_option maxRecDepth 20000 in
theorem gc_L_act_L_come_x1 : GoodIn wsL_act wsX10 := goodIn_r _ [617, 618] (by decide +kernel) (by decide +kernel)
set_option maxRecDepth 20000 in
theorem gc_L_act_L_come_x5 : GoodIn wsL_act wsX50 := goodIn_r _ [619, 620] (by decide +kernel) (by decide +kernel)
theorem ggL_act_L_come : GoodIn wsL_act wsL_come := good_cons gc_L_act_L_come_h (good_app (good_app (good_app (good_app (good_app (good_app (good_app (good_app gc_L_act_L_come_1 (good_app gc_L_act_L_come_2 (good_app gc_L_act_L_come_3 (good_app gc_L_act_L_come_4 (good_app gc_L_act_L_come_5 (good_app gc_L_act_L_come_6 (good_app gc_L_act_L_come_7 (good_app gc_L_act_L_come_8 (good_app gc_L_act_L_come_9 (good_app gc_L_act_L_come_10 (good_app gc_L_act_L_come_11 (good_app gc_L_act_L_come_12 (gc_L_act_L_come_13))))))))))))) gc_L_act_L_come_x6) gc_L_act_L_come_x2) gc_L_act_L_come_x4) gc_L_act_L_come_x0) gc_L_act_L_come_x3) gc_L_act_L_come_x1) gc_L_act_L_come_x5)
set_option maxRecDepth 20000 in
theorem gL_act_L_come : GoodIn wsL_act (va_wsS RL 97 yL_come wsL_come) := goodIn_app (goodIn_of _ (by decide +kernel)) ggL_act_L_come
set_option maxRecDepth 20000 in
theorem gc_L_act_L_text_1_0 : GoodIn wsL_act [Cond.methodLink RL 22 yL_up] := goodIn_r _ [1] (by decide +kernel) (by decide +kernel)
set_option maxRecDepth 20000 in
theorem gc_L_act_L_text_1_1 : GoodIn wsL_act [Cond.static yL_up] := goodIn_r _ [2] (by decide +kernel) (by decide +kernel)
set_option maxRecDepth 20000 in
theorem gc_L_act_L_text_1_2 : GoodIn wsL_act [Cond.initialized RL] := goodIn_r _ [3] (by decide +kernel) (by decide +kernel)
set_option maxRecDepth 20000 in
theorem gc_L_act_L_text_1_3 : GoodIn wsL_act [Cond.code yL_up cL_up 2 (some .int)] := goodIn_r _ [4] rfl (by decide +kernel)
set_option maxRecDepth 20000 in
theorem gc_L_act_L_text_1_4 : GoodIn wsL_act [Cond.constant RL 8 (2147483647)] := goodIn_r _ [5] (by decide +kernel) (by decide +kernel)
set_option maxRecDepth 20000 in
theorem gc_L_act_L_text_1_5 : GoodIn wsL_act [Cond.methodLink RL 123 yX6_wipe] := goodIn_r _ [402] (by decide +kernel) (by decide +kernel)
set_option maxRecDepth 20000 in
theorem gc_L_act_L_text_1_6 : GoodIn wsL_act [Cond.instanceMethod yX6_wipe] := goodIn_r _ [403] (by decide +kernel) (by decide +kernel)
set_option maxRecDepth 20000 in
theorem gc_L_act_L_text_1_7 : GoodIn wsL_act [Cond.selects RX6 yX6_wipe yX6_wipe] := goodIn_r _ [404] (by decide +kernel) (by decide +kernel)
set_option maxRecDepth 20000 in
theorem gc_L_act_L_text_1_8 : GoodIn wsL_act [Cond.initialized RX6] := goodIn_r _ [9] (by decide +kernel) (by decide +kernel)
set_option maxRecDepth 20000 in
theorem gc_L_act_L_text_1_9 : GoodIn wsL_act [Cond.code yX6_wipe cX6_wipe 1 (some .int)] := goodIn_r _ [405] (by decide +kernel) (by decide +kernel)
set_option maxRecDepth 20000 in
theorem gc_L_act_L_text_1_10 : GoodIn wsL_act [Cond.fieldLink RX6 26 "VisaPages" "pad" "LVisaPages$Pad;"] := goodIn_r _ [23] (by decide +kernel) (by decide +kernel)
set_option maxRecDepth 20000 in
theorem gc_L_act_L_text_1_11 : GoodIn wsL_act [Cond.methodLink RX6 238 yX3_clear] := goodIn_r _ [406] (by decide +kernel) (by decide +kernel)
set_option maxRecDepth 20000 in
theorem gc_L_act_L_text_1_12 : GoodIn wsL_act [Cond.instanceMethod yX3_clear] := goodIn_r _ [407] (by decide +kernel) (by decide +kernel)
set_option maxRecDepth 20000 in
theorem gc_L_act_L_text_1_13 : GoodIn wsL_act [Cond.selects RX3 yX3_clear yX3_clear] := goodIn_r _ [408] (by decide +kernel) (by decide +kernel)
set_option maxRecDepth 20000 in
theorem gc_L_act_L_text_1_14 : GoodIn wsL_act [Cond.initialized RX3] := goodIn_r _ [409] (by decide +kernel) (by decide +kernel)
set_option maxRecDepth 20000 in
theorem gc_L_act_L_text_1_15 : GoodIn wsL_act [Cond.code yX3_clear cX3_clear 2 (some .int)] := goodIn_r _ [410] (by decide +kernel) (by decide +kernel)
set_option maxRecDepth 20000 in
theorem gc_L_act_L_text_1_16 : GoodIn wsL_act [Cond.fieldLink RX3 23 "VisaPages$Pad" "length" "I"] := goodIn_r _ [411] (by decide +kernel) (by decide +kernel)
set_option maxRecDepth 20000 in
theorem gc_L_act_L_text_1_17 : GoodIn wsL_act [Cond.methodLink RL 126 yL_type] := goodIn_r _ [412] (by decide +kernel) (by decide +kernel)
set_option maxRecDepth 20000 in
theorem gc_L_act_L_text_1_18 : GoodIn wsL_act [Cond.static yL_type] := goodIn_r _ [413] (by decide +kernel) (by decide +kernel)
set_option maxRecDepth 20000 in
theorem gc_L_act_L_text_1_19 : GoodIn wsL_act [Cond.code yL_type cL_type 11 (some .boolean)] := goodIn_r _ [414] rfl (by decide +kernel)
set_option maxRecDepth 20000 in
theorem gc_L_act_L_text_1_20 : GoodIn wsL_act [Cond.methodLink RL 119 yX6_put] := goodIn_r _ [415] (by decide +kernel) (by decide +kernel)
set_option maxRecDepth 20000 in
theorem gc_L_act_L_text_1_21 : GoodIn wsL_act [Cond.instanceMethod yX6_put] := goodIn_r _ [416] (by decide +kernel) (by decide +kernel)
set_option maxRecDepth 20000 in
theorem gc_L_act_L_text_1_22 : GoodIn wsL_act [Cond.selects RX6 yX6_put yX6_put] := goodIn_r _ [417] (by decide +kernel) (by decide +kernel)
set_option maxRecDepth 20000 in
theorem gc_L_act_L_text_1_23 : GoodIn wsL_act [Cond.code yX6_put cX6_put 3 (some .int)] := goodIn_r _ [418] (by decide +kernel) (by decide +kernel)
theorem gc_L_act_L_text_1 : GoodIn wsL_act wsL_text_r1 := good_cons gc_L_act_L_text_1_0 (good_cons gc_L_act_L_text_1_1 (good_cons gc_L_act_L_text_1_2 (good_cons gc_L_act_L_text_1_3 (good_cons gc_L_act_L_text_1_4 (good_cons gc_L_act_L_text_1_5 (good_cons gc_L_act_L_text_1_6 (good_cons gc_L_act_L_text_1_7 (good_cons gc_L_act_L_text_1_8 (good_cons gc_L_act_L_text_1_9 (good_cons gc_L_act_L_text_1_10 (good_cons gc_L_act_L_text_1_11 (good_cons gc_L_act_L_text_1_12 (good_cons gc_L_act_L_text_1_13 (good_cons gc_L_act_L_text_1_14 (good_cons gc_L_act_L_text_1_15 (good_cons gc_L_act_L_text_1_16 (good_cons gc_L_act_L_text_1_17 (good_cons gc_L_act_L_text_1_18 (good_cons gc_L_act_L_text_1_19 (good_cons gc_L_act_L_text_1_20 (good_cons gc_L_act_L_text_1_21 (good_cons gc_L_act_L_text_1_22 (good_cons gc_L_act_L_text_1_23 (fun _ h => absurd h List.not_mem_nil))))))))))))))))))))))))
set_option maxRecDepth 20000 in
theorem gc_L_act_L_text_2 : GoodIn wsL_act wsL_text_r2 := goodIn_r _ [419, 420, 421, 422, 423, 424, 425, 426, 427, 428, 429, 430, 431, 432, 433, 434, 435, 436, 437, 438, 439, 440, 441, 442] (by decide +kernel) (by decide +kernel)
set_option maxRecDepth 20000 in
theorem gc_L_act_L_text_3 : GoodIn wsL_act wsL_text_r3 := goodIn_r _ [443, 444, 445, 446, 447, 448, 449, 450, 451, 452, 453, 454, 455, 456, 457, 458, 459, 460, 461, 462, 463, 464, 465, 466] (by decide +kernel) (by decide +kernel)
set_option maxRecDepth 20000 in
theorem gc_L_act_L_text_4 : GoodIn wsL_act wsL_text_r4 := goodIn_r _ [467, 468, 469, 470, 471, 472, 473, 474, 475, 476, 477, 478, 479, 480, 481, 482, 483, 484, 485, 486, 487, 488, 489, 490] (by decide +kernel) (by decide +kernel)
set_option maxRecDepth 20000 in
theorem gc_L_act_L_text_5 : GoodIn wsL_act wsL_text_r5 := goodIn_r _ [491, 492, 493, 494, 495, 496, 497, 498, 499, 500, 501, 502, 503, 504, 505, 506, 507, 508, 509, 510, 511, 512, 513, 514] (by decide +kernel) (by decide +kernel)
set_option maxRecDepth 20000 in
theorem gc_L_act_L_text_6_0 : GoodIn wsL_act [Cond.instanceMethod yX3_readNumber] := goodIn_r _ [515] (by decide +kernel) (by decide +kernel)
set_option maxRecDepth 20000 in
theorem gc_L_act_L_text_6_1 : GoodIn wsL_act [Cond.selects RX3 yX3_readNumber yX3_readNumber] := goodIn_r _ [516] (by decide +kernel) (by decide +kernel)
set_option maxRecDepth 20000 in
theorem gc_L_act_L_text_6_2 : GoodIn wsL_act [Cond.code yX3_readNumber cX3_readNumber 3 (some .boolean)] := goodIn_r _ [517] (by decide +kernel) (by decide +kernel)
set_option maxRecDepth 20000 in
theorem gc_L_act_L_text_6_3 : GoodIn wsL_act [Cond.methodLink RX3 90 yX3_take] := goodIn_r _ [518] (by decide +kernel) (by decide +kernel)
set_option maxRecDepth 20000 in
theorem gc_L_act_L_text_6_4 : GoodIn wsL_act [Cond.instanceMethod yX3_take] := goodIn_r _ [519] (by decide +kernel) (by decide +kernel)
set_option maxRecDepth 20000 in
theorem gc_L_act_L_text_6_5 : GoodIn wsL_act [Cond.selects RX3 yX3_take yX3_take] := goodIn_r _ [520] (by decide +kernel) (by decide +kernel)
set_option maxRecDepth 20000 in
theorem gc_L_act_L_text_6_6 : GoodIn wsL_act [Cond.code yX3_take cX3_take 2 (some .boolean)] := goodIn_r _ [521] (by decide +kernel) (by decide +kernel)
set_option maxRecDepth 20000 in
theorem gc_L_act_L_text_6_7 : GoodIn wsL_act [Cond.fieldLink RX3 15 "VisaPages$Pad" "values" "[I"] := goodIn_r _ [522] (by decide +kernel) (by decide +kernel)
set_option maxRecDepth 20000 in
theorem gc_L_act_L_text_6_8 : GoodIn wsL_act [Cond.methodLink RX3 94 yX3_readDigit] := goodIn_r _ [523] (by decide +kernel) (by decide +kernel)
set_option maxRecDepth 20000 in
theorem gc_L_act_L_text_6_9 : GoodIn wsL_act [Cond.instanceMethod yX3_readDigit] := goodIn_r _ [524] (by decide +kernel) (by decide +kernel)
set_option maxRecDepth 20000 in
theorem gc_L_act_L_text_6_10 : GoodIn wsL_act [Cond.selects RX3 yX3_readDigit yX3_readDigit] := goodIn_r _ [525] (by decide +kernel) (by decide +kernel)
set_option maxRecDepth 20000 in
theorem gc_L_act_L_text_6_11 : GoodIn wsL_act [Cond.code yX3_readDigit cX3_readDigit 4 (some .boolean)] := goodIn_r _ [526] (by decide +kernel) (by decide +kernel)
set_option maxRecDepth 20000 in
theorem gc_L_act_L_text_6_12 : GoodIn wsL_act [Cond.methodLink RX3 98 yX3_readNeed] := goodIn_r _ [527] (by decide +kernel) (by decide +kernel)
set_option maxRecDepth 20000 in
theorem gc_L_act_L_text_6_13 : GoodIn wsL_act [Cond.instanceMethod yX3_readNeed] := goodIn_r _ [528] (by decide +kernel) (by decide +kernel)
set_option maxRecDepth 20000 in
theorem gc_L_act_L_text_6_14 : GoodIn wsL_act [Cond.selects RX3 yX3_readNeed yX3_readNeed] := goodIn_r _ [529] (by decide +kernel) (by decide +kernel)
set_option maxRecDepth 20000 in
theorem gc_L_act_L_text_6_15 : GoodIn wsL_act [Cond.code yX3_readNeed cX3_readNeed 1 (some .boolean)] := goodIn_r _ [530] (by decide +kernel) (by decide +kernel)
set_option maxRecDepth 20000 in
theorem gc_L_act_L_text_6_16 : GoodIn wsL_act [Cond.methodLink RX3 101 yX3_readItself] := goodIn_r _ [531] (by decide +kernel) (by decide +kernel)
set_option maxRecDepth 20000 in
theorem gc_L_act_L_text_6_17 : GoodIn wsL_act [Cond.instanceMethod yX3_readItself] := goodIn_r _ [532] (by decide +kernel) (by decide +kernel)
set_option maxRecDepth 20000 in
theorem gc_L_act_L_text_6_18 : GoodIn wsL_act [Cond.selects RX3 yX3_readItself yX3_readItself] := goodIn_r _ [533] (by decide +kernel) (by decide +kernel)
set_option maxRecDepth 20000 in
theorem gc_L_act_L_text_6_19 : GoodIn wsL_act [Cond.code yX3_readItself cX3_readItself 2 (some .boolean)] := goodIn_r _ [534] (by decide +kernel) (by decide +kernel)
set_option maxRecDepth 20000 in
theorem gc_L_act_L_text_6_20 : GoodIn wsL_act [Cond.methodLink RL 133 yL_print] := goodIn_r _ [535] (by decide +kernel) (by decide +kernel)
set_option maxRecDepth 20000 in
theorem gc_L_act_L_text_6_21 : GoodIn wsL_act [Cond.static yL_print] := goodIn_r _ [536] (by decide +kernel) (by decide +kernel)
set_option maxRecDepth 20000 in
theorem gc_L_act_L_text_6_22 : GoodIn wsL_act [Cond.code yL_print cL_print 5 (some .long)] := goodIn_r _ [537] rfl (by decide +kernel)
set_option maxRecDepth 20000 in
theorem gc_L_act_L_text_6_23 : GoodIn wsL_act [Cond.constantLong RL 39 (7)] := goodIn_r _ [538] (by decide +kernel) (by decide +kernel)
theorem gc_L_act_L_text_6 : GoodIn wsL_act wsL_text_r6 := good_cons gc_L_act_L_text_6_0 (good_cons gc_L_act_L_text_6_1 (good_cons gc_L_act_L_text_6_2 (good_cons gc_L_act_L_text_6_3 (good_cons gc_L_act_L_text_6_4 (good_cons gc_L_act_L_text_6_5 (good_cons gc_L_act_L_text_6_6 (good_cons gc_L_act_L_text_6_7 (good_cons gc_L_act_L_text_6_8 (good_cons gc_L_act_L_text_6_9 (good_cons gc_L_act_L_text_6_10 (good_cons gc_L_act_L_text_6_11 (good_cons gc_L_act_L_text_6_12 (good_cons gc_L_act_L_text_6_13 (good_cons gc_L_act_L_text_6_14 (good_cons gc_L_act_L_text_6_15 (good_cons gc_L_act_L_text_6_16 (good_cons gc_L_act_L_text_6_17 (good_cons gc_L_act_L_text_6_18 (good_cons gc_L_act_L_text_6_19 (good_cons gc_L_act_L_text_6_20 (good_cons gc_L_act_L_text_6_21 (good_cons gc_L_act_L_text_6_22 (good_cons gc_L_act_L_text_6_23 (fun _ h => absurd h List.not_mem_nil))))))))))))))))))))))))
set_option maxRecDepth 20000 in
theorem gc_L_act_L_text_7 : GoodIn wsL_act wsL_text_r7 := goodIn_r _ [539, 63, 64, 65, 66, 11, 67, 12, 68, 54, 55, 27, 28, 29, 30, 31, 32, 33, 34, 35, 36, 37, 38, 39] (by decide +kernel) (by decide +kernel)
set_option maxRecDepth 20000 in
theorem gc_L_act_L_text_8 : GoodIn wsL_act wsL_text_r8 := goodIn_r _ [40, 41, 42, 43, 44, 45, 46, 47, 48, 49, 50, 51, 52, 53, 69, 70, 71, 72, 73, 74, 75, 76, 77, 78] (by decide +kernel) (by decide +kernel)
set_option maxRecDepth 20000 in
theorem gc_L_act_L_text_9 : GoodIn wsL_act wsL_text_r9 := goodIn_r _ [79, 56, 57, 58, 59, 60, 61, 62, 6, 7, 8, 10, 13, 14, 15, 16, 17, 18, 19, 20, 21, 22, 24, 25] (by decide +kernel) (by decide +kernel)
set_option maxRecDepth 20000 in
theorem gc_L_act_L_text_10 : GoodIn wsL_act wsL_text_r10 := goodIn_r _ [26, 113, 114, 115, 116, 117, 118, 119, 120, 121, 122, 123, 124, 125, 126, 127, 128, 129, 130, 131, 132, 133, 134, 135] (by decide +kernel) (by decide +kernel)
set_option maxRecDepth 20000 in
theorem gc_L_act_L_text_11 : GoodIn wsL_act wsL_text_r11 := goodIn_r _ [136, 98, 99, 100, 101, 102, 103, 104, 105, 106, 107, 108, 109, 84, 85, 86, 87, 88, 89, 90, 91, 92, 93, 94] (by decide +kernel) (by decide +kernel)
set_option maxRecDepth 20000 in
theorem gc_L_act_L_text_12 : GoodIn wsL_act wsL_text_r12 := goodIn_r _ [95, 96, 97, 324, 325, 326, 327, 328, 540, 541, 542, 543, 333, 144, 145, 146, 147, 148, 149, 150, 151, 152, 153, 154] (by decide +kernel) (by decide +kernel)
set_option maxRecDepth 20000 in
theorem gc_L_act_L_text_13 : GoodIn wsL_act wsL_text_r13 := goodIn_r _ [155, 156, 157, 158, 83, 159, 160, 161, 162, 163, 164, 165, 166, 167, 168, 169, 170, 171, 172, 173, 174, 175, 176, 177] (by decide +kernel) (by decide +kernel)
set_option maxRecDepth 20000 in
theorem gc_L_act_L_text_14 : GoodIn wsL_act wsL_text_r14 := goodIn_r _ [178, 179, 180, 181, 182, 183, 184, 185, 186, 187, 188, 189, 190, 191, 192, 193, 194, 195, 196, 197, 198, 199, 200, 201] (by decide +kernel) (by decide +kernel)
set_option maxRecDepth 20000 in
theorem gc_L_act_L_text_15 : GoodIn wsL_act wsL_text_r15 := goodIn_r _ [202, 203, 204, 205, 206, 207, 208, 209, 210, 211, 212, 213, 214, 544, 545, 546, 547, 548, 549, 550, 551, 552, 262, 263] (by decide +kernel) (by decide +kernel)
set_option maxRecDepth 20000 in
theorem gc_L_act_L_text_16 : GoodIn wsL_act wsL_text_r16 := goodIn_r _ [264, 219, 220, 221, 222, 223, 224, 225, 226, 227, 228, 229, 230, 231, 232, 233, 234, 235, 236, 237, 238, 239, 240, 241] (by decide +kernel) (by decide +kernel)
set_option maxRecDepth 20000 in
theorem gc_L_act_L_text_17 : GoodIn wsL_act wsL_text_r17 := goodIn_r _ [242, 243, 244, 245, 246, 247, 248, 553, 270, 271, 272, 273, 274, 275, 276, 277, 278, 279, 280, 281, 282, 283, 554, 292] (by decide +kernel) (by decide +kernel)
set_option maxRecDepth 20000 in
theorem gc_L_act_L_text_18 : GoodIn wsL_act wsL_text_r18 := goodIn_r _ [293, 294, 555, 216, 217, 218, 556, 308, 309, 310, 311, 312, 313, 314, 557, 363, 364, 365, 366, 367, 337, 338, 368, 369] (by decide +kernel) (by decide +kernel)
set_option maxRecDepth 20000 in
theorem gc_L_act_L_text_19 : GoodIn wsL_act wsL_text_r19 := goodIn_r _ [370, 371, 372, 373, 374, 375, 376, 377, 378, 379, 380, 381, 382, 383, 384, 385, 386, 387, 388, 389, 340, 341, 342, 343] (by decide +kernel) (by decide +kernel)
set_option maxRecDepth 20000 in
theorem gc_L_act_L_text_20 : GoodIn wsL_act wsL_text_r20 := goodIn_r _ [344, 345, 346, 347, 348, 349, 350, 351, 352, 353, 354, 355, 356, 357, 390, 391, 392, 393, 394, 395, 396, 397, 398, 558] (by decide +kernel) (by decide +kernel)
set_option maxRecDepth 20000 in
theorem gc_L_act_L_text_21 : GoodIn wsL_act wsL_text_r21 := goodIn_r _ [249, 250, 251, 252, 253, 254, 255, 256, 559, 560, 561, 562, 563, 564, 565, 566, 257, 258, 259, 260, 261, 265, 266, 267] (by decide +kernel) (by decide +kernel)
set_option maxRecDepth 20000 in
theorem gc_L_act_L_text_22 : GoodIn wsL_act wsL_text_r22 := goodIn_r _ [268, 269, 287, 288, 289, 290, 291, 303, 304, 305, 306, 307, 358, 359, 360, 361, 362, 140, 141, 142, 143, 215] (by decide +kernel) (by decide +kernel)
set_option maxRecDepth 20000 in
theorem gc_L_act_L_text_h : GoodIn wsL_act [.code yL_text cL_text 20 (some .boolean)] := goodIn_r _ [401] rfl (by decide +kernel)
set_option maxRecDepth 20000 in
theorem gc_L_act_L_text_x6 : GoodIn wsL_act wsX60 := goodIn_r _ [581, 582, 583, 584, 585] (by decide +kernel) (by decide +kernel)
set_option maxRecDepth 20000 in
theorem gc_L_act_L_text_x3 : GoodIn wsL_act wsX30 := goodIn_r _ [611, 612, 613, 614, 615, 616] (by decide +kernel) (by decide +kernel)
set_option maxRecDepth 20000 in
theorem gc_L_act_L_text_x2 : GoodIn wsL_act wsX20 := goodIn_r _ [586, 587, 588, 589, 590, 591, 592, 593, 594, 595] (by decide +kernel) (by decide +kernel)
set_option maxRecDepth 20000 in
theorem gc_L_act_L_text_x4 : GoodIn wsL_act wsX40 := goodIn_r _ [596, 597, 598, 599, 600, 601, 602, 603] (by decide +kernel) (by decide +kernel)
set_option maxRecDepth 20000 in
theorem gc_L_act_L_text_x0 : GoodIn wsL_act wsX00 := goodIn_r _ [604, 605, 606, 607, 608, 609, 610] (by decide +kernel) (by decide +kernel)
set_option maxRecDepth 20000 in
theorem gc_L_act_L_text_x1 : GoodIn wsL_act wsX10 := goodIn_r _ [617, 618] (by decide +kernel) (by decide +kernel)
set_option maxRecDepth 20000 in
theorem gc_L_act_L_text_x5 : GoodIn wsL_act wsX50 := goodIn_r _ [619, 620] (by decide +kernel) (by decide +kernel)
theorem ggL_act_L_text : GoodIn wsL_act wsL_text := good_cons gc_L_act_L_text_h (good_app (good_app (good_app (good_app (good_app (good_app (good_app (good_app gc_L_act_L_text_1 (good_app gc_L_act_L_text_2 (good_app gc_L_act_L_text_3 (good_app gc_L_act_L_text_4 (good_app gc_L_act_L_text_5 (good_app gc_L_act_L_text_6 (good_app gc_L_act_L_text_7 (good_app gc_L_act_L_text_8 (good_app gc_L_act_L_text_9 (good_app gc_L_act_L_text_10 (good_app gc_L_act_L_text_11 (good_app gc_L_act_L_text_12 (good_app gc_L_act_L_text_13 (good_app gc_L_act_L_text_14 (good_app gc_L_act_L_text_15 (good_app gc_L_act_L_text_16 (good_app gc_L_act_L_text_17 (good_app gc_L_act_L_text_18 (good_app gc_L_act_L_text_19 (good_app gc_L_act_L_text_20 (good_app gc_L_act_L_text_21 (gc_L_act_L_text_22)))))))))))))))))))))) gc_L_act_L_text_x6) gc_L_act_L_text_x3) gc_L_act_L_text_x2) gc_L_act_L_text_x4) gc_L_act_L_text_x0) gc_L_act_L_text_x1) gc_L_act_L_text_x5)
