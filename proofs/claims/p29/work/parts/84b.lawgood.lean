set_option maxRecDepth 20000 in
theorem gL_law_L_act : GoodIn wsL_law (va_wsS RL 29 yL_act wsL_act) := goodIn_app (goodIn_of _ (by decide +kernel)) ggL_law_L_act
set_option maxRecDepth 20000 in
theorem gc_L_law_L_sound_1 : GoodIn wsL_law wsL_sound_r1 := goodIn_r _ [394, 395, 396, 2, 397, 12, 337, 398, 388, 399, 400, 401, 402, 403, 404, 405, 406, 20, 407, 24, 408, 339, 169, 170] (by decide +kernel) (by decide +kernel)
set_option maxRecDepth 20000 in
theorem gc_L_law_L_sound_2 : GoodIn wsL_law wsL_sound_r2 := goodIn_r _ [11, 171, 44, 172, 173, 174, 175, 146, 147, 176, 177, 178, 179, 180, 181, 31, 182, 183, 184, 185, 186, 43, 187, 125] (by decide +kernel) (by decide +kernel)
set_option maxRecDepth 20000 in
theorem gc_L_law_L_sound_3_0 : GoodIn wsL_law [Cond.static yX6_isPage] := goodIn_r _ [164] (by decide +kernel) (by decide +kernel)
set_option maxRecDepth 20000 in
theorem gc_L_law_L_sound_3_1 : GoodIn wsL_law [Cond.code yX6_isPage cX6_isPage 1 (some .boolean)] := goodIn_r _ [165] (by decide +kernel) (by decide +kernel)
set_option maxRecDepth 20000 in
theorem gc_L_law_L_sound_3_2 : GoodIn wsL_law [Cond.methodLink RX6 116 yJ13_bitCount_95d88] := goodIn_r _ [348] (by decide +kernel) (by decide +kernel)
set_option maxRecDepth 20000 in
theorem gc_L_law_L_sound_3_3 : GoodIn wsL_law [Cond.static yJ13_bitCount_95d88] := goodIn_r _ [349] (by decide +kernel) (by decide +kernel)
set_option maxRecDepth 20000 in
theorem gc_L_law_L_sound_3_4 : GoodIn wsL_law [Cond.initialized RJ13] := goodIn_r _ [350] (by decide +kernel) (by decide +kernel)
set_option maxRecDepth 20000 in
theorem gc_L_law_L_sound_3_5 : GoodIn wsL_law [Cond.code yJ13_bitCount_95d88 cJ13_bitCount_95d88 2 (some .int)] := goodIn_r _ [351] (by decide +kernel) (by decide +kernel)
set_option maxRecDepth 20000 in
theorem gc_L_law_L_sound_3_6 : GoodIn wsL_law [Cond.constantLong RJ13 314 (6148914691236517205)] := goodIn_r _ [352] (by decide +kernel) (by decide +kernel)
set_option maxRecDepth 20000 in
theorem gc_L_law_L_sound_3_7 : GoodIn wsL_law [Cond.constantLong RJ13 316 (3689348814741910323)] := goodIn_r _ [353] (by decide +kernel) (by decide +kernel)
set_option maxRecDepth 20000 in
theorem gc_L_law_L_sound_3_8 : GoodIn wsL_law [Cond.constantLong RJ13 318 (1085102592571150095)] := goodIn_r _ [354] (by decide +kernel) (by decide +kernel)
set_option maxRecDepth 20000 in
theorem gc_L_law_L_sound_3_9 : GoodIn wsL_law [Cond.methodLink RL 22 yL_up] := goodIn_r _ [92] (by decide +kernel) (by decide +kernel)
set_option maxRecDepth 20000 in
theorem gc_L_law_L_sound_3_10 : GoodIn wsL_law [Cond.static yL_up] := goodIn_r _ [93] (by decide +kernel) (by decide +kernel)
set_option maxRecDepth 20000 in
theorem gc_L_law_L_sound_3_11 : GoodIn wsL_law [Cond.initialized RL] := goodIn_r _ [84] (by decide +kernel) (by decide +kernel)
set_option maxRecDepth 20000 in
theorem gc_L_law_L_sound_3_12 : GoodIn wsL_law [Cond.code yL_up cL_up 2 (some .int)] := goodIn_r _ [94] rfl (by decide +kernel)
set_option maxRecDepth 20000 in
theorem gc_L_law_L_sound_3_13 : GoodIn wsL_law [Cond.constant RL 8 (2147483647)] := goodIn_r _ [95] (by decide +kernel) (by decide +kernel)
set_option maxRecDepth 20000 in
theorem gc_L_law_L_sound_3_14 : GoodIn wsL_law [Cond.methodLink RL 84 yL_good] := goodIn_r _ [615] (by decide +kernel) (by decide +kernel)
set_option maxRecDepth 20000 in
theorem gc_L_law_L_sound_3_15 : GoodIn wsL_law [Cond.static yL_good] := goodIn_r _ [616] (by decide +kernel) (by decide +kernel)
set_option maxRecDepth 20000 in
theorem gc_L_law_L_sound_3_16 : GoodIn wsL_law [Cond.code yL_good cL_good 3 (some .boolean)] := goodIn_r _ [617] rfl (by decide +kernel)
set_option maxRecDepth 20000 in
theorem gc_L_law_L_sound_3_17 : GoodIn wsL_law [Cond.methodLink RL 50 yX6_ofStamp] := goodIn_r _ [355] (by decide +kernel) (by decide +kernel)
set_option maxRecDepth 20000 in
theorem gc_L_law_L_sound_3_18 : GoodIn wsL_law [Cond.instanceMethod yX6_ofStamp] := goodIn_r _ [356] (by decide +kernel) (by decide +kernel)
set_option maxRecDepth 20000 in
theorem gc_L_law_L_sound_3_19 : GoodIn wsL_law [Cond.selects RX6 yX6_ofStamp yX6_ofStamp] := goodIn_r _ [357] (by decide +kernel) (by decide +kernel)
set_option maxRecDepth 20000 in
theorem gc_L_law_L_sound_3_20 : GoodIn wsL_law [Cond.code yX6_ofStamp cX6_ofStamp 4 (some .int)] := goodIn_r _ [358] (by decide +kernel) (by decide +kernel)
set_option maxRecDepth 20000 in
theorem gc_L_law_L_sound_3_21 : GoodIn wsL_law [Cond.fieldLink RX6 125 "VisaPages$Stamps" "page" "[I"] := goodIn_r _ [359] (by decide +kernel) (by decide +kernel)
set_option maxRecDepth 20000 in
theorem gc_L_law_L_sound_3_22 : GoodIn wsL_law [Cond.fieldLink RX6 128 "VisaPages$Stamps" "giver" "[I"] := goodIn_r _ [360] (by decide +kernel) (by decide +kernel)
set_option maxRecDepth 20000 in
theorem gc_L_law_L_sound_3_23 : GoodIn wsL_law [Cond.fieldLink RX6 131 "VisaPages$Stamps" "holder" "[I"] := goodIn_r _ [361] (by decide +kernel) (by decide +kernel)
theorem gc_L_law_L_sound_3 : GoodIn wsL_law wsL_sound_r3 := good_cons gc_L_law_L_sound_3_0 (good_cons gc_L_law_L_sound_3_1 (good_cons gc_L_law_L_sound_3_2 (good_cons gc_L_law_L_sound_3_3 (good_cons gc_L_law_L_sound_3_4 (good_cons gc_L_law_L_sound_3_5 (good_cons gc_L_law_L_sound_3_6 (good_cons gc_L_law_L_sound_3_7 (good_cons gc_L_law_L_sound_3_8 (good_cons gc_L_law_L_sound_3_9 (good_cons gc_L_law_L_sound_3_10 (good_cons gc_L_law_L_sound_3_11 (good_cons gc_L_law_L_sound_3_12 (good_cons gc_L_law_L_sound_3_13 (good_cons gc_L_law_L_sound_3_14 (good_cons gc_L_law_L_sound_3_15 (good_cons gc_L_law_L_sound_3_16 (good_cons gc_L_law_L_sound_3_17 (good_cons gc_L_law_L_sound_3_18 (good_cons gc_L_law_L_sound_3_19 (good_cons gc_L_law_L_sound_3_20 (good_cons gc_L_law_L_sound_3_21 (good_cons gc_L_law_L_sound_3_22 (good_cons gc_L_law_L_sound_3_23 (fun _ h => absurd h List.not_mem_nil))))))))))))))))))))))))
set_option maxRecDepth 20000 in
theorem gc_L_law_L_sound_4_0 : GoodIn wsL_law [Cond.fieldLink RX6 134 "VisaPages$Stamps" "rights" "[I"] := goodIn_r _ [362] (by decide +kernel) (by decide +kernel)
set_option maxRecDepth 20000 in
theorem gc_L_law_L_sound_4_1 : GoodIn wsL_law [Cond.fieldLink RX6 137 "VisaPages$Stamps" "root" "[I"] := goodIn_r _ [363] (by decide +kernel) (by decide +kernel)
set_option maxRecDepth 20000 in
theorem gc_L_law_L_sound_4_2 : GoodIn wsL_law [Cond.fieldLink RX6 140 "VisaPages$Stamps" "forged" "J"] := goodIn_r _ [364] (by decide +kernel) (by decide +kernel)
set_option maxRecDepth 20000 in
theorem gc_L_law_L_sound_4_3 : GoodIn wsL_law [Cond.fieldLink RX6 148 "VisaPages$Stamps" "taken" "J"] := goodIn_r _ [365] (by decide +kernel) (by decide +kernel)
set_option maxRecDepth 20000 in
theorem gc_L_law_L_sound_4_4 : GoodIn wsL_law [Cond.methodLink RX6 122 yX4_has] := goodIn_r _ [366] (by decide +kernel) (by decide +kernel)
set_option maxRecDepth 20000 in
theorem gc_L_law_L_sound_4_5 : GoodIn wsL_law [Cond.methodLink RX6 144 yX6_isIn] := goodIn_r _ [367] (by decide +kernel) (by decide +kernel)
set_option maxRecDepth 20000 in
theorem gc_L_law_L_sound_4_6 : GoodIn wsL_law [Cond.methodLink RX6 151 yX4_chainLength] := goodIn_r _ [368] (by decide +kernel) (by decide +kernel)
set_option maxRecDepth 20000 in
theorem gc_L_law_L_sound_4_7 : GoodIn wsL_law [Cond.instanceMethod yX4_chainLength] := goodIn_r _ [369] (by decide +kernel) (by decide +kernel)
set_option maxRecDepth 20000 in
theorem gc_L_law_L_sound_4_8 : GoodIn wsL_law [Cond.selects RX4 yX4_chainLength yX4_chainLength] := goodIn_r _ [370] (by decide +kernel) (by decide +kernel)
set_option maxRecDepth 20000 in
theorem gc_L_law_L_sound_4_9 : GoodIn wsL_law [Cond.code yX4_chainLength cX4_chainLength 4 (some .int)] := goodIn_r _ [371] (by decide +kernel) (by decide +kernel)
set_option maxRecDepth 20000 in
theorem gc_L_law_L_sound_4_10 : GoodIn wsL_law [Cond.fieldLink RX4 24 "VisaPages$Stamps" "root" "[I"] := goodIn_r _ [56] (by decide +kernel) (by decide +kernel)
set_option maxRecDepth 20000 in
theorem gc_L_law_L_sound_4_11 : GoodIn wsL_law [Cond.methodLink RX4 48 yX4_has] := goodIn_r _ [372] (by decide +kernel) (by decide +kernel)
set_option maxRecDepth 20000 in
theorem gc_L_law_L_sound_4_12 : GoodIn wsL_law [Cond.methodLink RX6 154 yX4_countBelow] := goodIn_r _ [373] (by decide +kernel) (by decide +kernel)
set_option maxRecDepth 20000 in
theorem gc_L_law_L_sound_4_13 : GoodIn wsL_law [Cond.instanceMethod yX4_countBelow] := goodIn_r _ [374] (by decide +kernel) (by decide +kernel)
set_option maxRecDepth 20000 in
theorem gc_L_law_L_sound_4_14 : GoodIn wsL_law [Cond.selects RX4 yX4_countBelow yX4_countBelow] := goodIn_r _ [375] (by decide +kernel) (by decide +kernel)
set_option maxRecDepth 20000 in
theorem gc_L_law_L_sound_4_15 : GoodIn wsL_law [Cond.code yX4_countBelow cX4_countBelow 5 (some .int)] := goodIn_r _ [376] (by decide +kernel) (by decide +kernel)
set_option maxRecDepth 20000 in
theorem gc_L_law_L_sound_4_16 : GoodIn wsL_law [Cond.methodLink RX4 56 yJ13_bitCount_95d88] := goodIn_r _ [377] (by decide +kernel) (by decide +kernel)
set_option maxRecDepth 20000 in
theorem gc_L_law_L_sound_4_17 : GoodIn wsL_law [Cond.methodLink RL 62 yL_based] := goodIn_r _ [618] (by decide +kernel) (by decide +kernel)
set_option maxRecDepth 20000 in
theorem gc_L_law_L_sound_4_18 : GoodIn wsL_law [Cond.static yL_based] := goodIn_r _ [619] (by decide +kernel) (by decide +kernel)
set_option maxRecDepth 20000 in
theorem gc_L_law_L_sound_4_19 : GoodIn wsL_law [Cond.code yL_based cL_based 4 (some .boolean)] := goodIn_r _ [620] rfl (by decide +kernel)
set_option maxRecDepth 20000 in
theorem gc_L_law_L_sound_4_20 : GoodIn wsL_law [Cond.methodLink RL 43 yX6_ofPage] := goodIn_r _ [332] (by decide +kernel) (by decide +kernel)
set_option maxRecDepth 20000 in
theorem gc_L_law_L_sound_4_21 : GoodIn wsL_law [Cond.instanceMethod yX6_ofPage] := goodIn_r _ [333] (by decide +kernel) (by decide +kernel)
set_option maxRecDepth 20000 in
theorem gc_L_law_L_sound_4_22 : GoodIn wsL_law [Cond.selects RX6 yX6_ofPage yX6_ofPage] := goodIn_r _ [334] (by decide +kernel) (by decide +kernel)
set_option maxRecDepth 20000 in
theorem gc_L_law_L_sound_4_23 : GoodIn wsL_law [Cond.code yX6_ofPage cX6_ofPage 3 (some .int)] := goodIn_r _ [335] (by decide +kernel) (by decide +kernel)
theorem gc_L_law_L_sound_4 : GoodIn wsL_law wsL_sound_r4 := good_cons gc_L_law_L_sound_4_0 (good_cons gc_L_law_L_sound_4_1 (good_cons gc_L_law_L_sound_4_2 (good_cons gc_L_law_L_sound_4_3 (good_cons gc_L_law_L_sound_4_4 (good_cons gc_L_law_L_sound_4_5 (good_cons gc_L_law_L_sound_4_6 (good_cons gc_L_law_L_sound_4_7 (good_cons gc_L_law_L_sound_4_8 (good_cons gc_L_law_L_sound_4_9 (good_cons gc_L_law_L_sound_4_10 (good_cons gc_L_law_L_sound_4_11 (good_cons gc_L_law_L_sound_4_12 (good_cons gc_L_law_L_sound_4_13 (good_cons gc_L_law_L_sound_4_14 (good_cons gc_L_law_L_sound_4_15 (good_cons gc_L_law_L_sound_4_16 (good_cons gc_L_law_L_sound_4_17 (good_cons gc_L_law_L_sound_4_18 (good_cons gc_L_law_L_sound_4_19 (good_cons gc_L_law_L_sound_4_20 (good_cons gc_L_law_L_sound_4_21 (good_cons gc_L_law_L_sound_4_22 (good_cons gc_L_law_L_sound_4_23 (fun _ h => absurd h List.not_mem_nil))))))))))))))))))))))))
set_option maxRecDepth 20000 in
theorem gc_L_law_L_sound_5_0 : GoodIn wsL_law [Cond.fieldLink RX6 95 "VisaPages$House" "owners" "[I"] := goodIn_r _ [336] (by decide +kernel) (by decide +kernel)
set_option maxRecDepth 20000 in
theorem gc_L_law_L_sound_5_1 : GoodIn wsL_law [Cond.methodLink RX6 91 yX6_isPage] := goodIn_r _ [338] (by decide +kernel) (by decide +kernel)
set_option maxRecDepth 20000 in
theorem gc_L_law_L_sound_5_2 : GoodIn wsL_law [Cond.methodLink RX6 103 yX2_guestsWith] := goodIn_r _ [340] (by decide +kernel) (by decide +kernel)
set_option maxRecDepth 20000 in
theorem gc_L_law_L_sound_5_3 : GoodIn wsL_law [Cond.instanceMethod yX2_guestsWith] := goodIn_r _ [341] (by decide +kernel) (by decide +kernel)
set_option maxRecDepth 20000 in
theorem gc_L_law_L_sound_5_4 : GoodIn wsL_law [Cond.selects RX2 yX2_guestsWith yX2_guestsWith] := goodIn_r _ [342] (by decide +kernel) (by decide +kernel)
set_option maxRecDepth 20000 in
theorem gc_L_law_L_sound_5_5 : GoodIn wsL_law [Cond.code yX2_guestsWith cX2_guestsWith 7 (some .int)] := goodIn_r _ [343] (by decide +kernel) (by decide +kernel)
set_option maxRecDepth 20000 in
theorem gc_L_law_L_sound_5_6 : GoodIn wsL_law [Cond.static yX6_isGuest] := goodIn_r _ [166] (by decide +kernel) (by decide +kernel)
set_option maxRecDepth 20000 in
theorem gc_L_law_L_sound_5_7 : GoodIn wsL_law [Cond.code yX6_isGuest cX6_isGuest 1 (some .boolean)] := goodIn_r _ [167] (by decide +kernel) (by decide +kernel)
set_option maxRecDepth 20000 in
theorem gc_L_law_L_sound_5_8 : GoodIn wsL_law [Cond.methodLink RX6 111 yX4_ofOnePage] := goodIn_r _ [344] (by decide +kernel) (by decide +kernel)
set_option maxRecDepth 20000 in
theorem gc_L_law_L_sound_5_9 : GoodIn wsL_law [Cond.instanceMethod yX4_ofOnePage] := goodIn_r _ [345] (by decide +kernel) (by decide +kernel)
set_option maxRecDepth 20000 in
theorem gc_L_law_L_sound_5_10 : GoodIn wsL_law [Cond.selects RX4 yX4_ofOnePage yX4_ofOnePage] := goodIn_r _ [346] (by decide +kernel) (by decide +kernel)
set_option maxRecDepth 20000 in
theorem gc_L_law_L_sound_5_11 : GoodIn wsL_law [Cond.code yX4_ofOnePage cX4_ofOnePage 5 (some .long)] := goodIn_r _ [347] (by decide +kernel) (by decide +kernel)
set_option maxRecDepth 20000 in
theorem gc_L_law_L_sound_5_12 : GoodIn wsL_law [Cond.fieldLink RX4 9 "VisaPages$Stamps" "page" "[I"] := goodIn_r _ [52] (by decide +kernel) (by decide +kernel)
set_option maxRecDepth 20000 in
theorem gc_L_law_L_sound_5_13 : GoodIn wsL_law [Cond.methodLink RL 143 yL_who] := goodIn_r _ [661] (by decide +kernel) (by decide +kernel)
set_option maxRecDepth 20000 in
theorem gc_L_law_L_sound_5_14 : GoodIn wsL_law [Cond.static yL_who] := goodIn_r _ [662] (by decide +kernel) (by decide +kernel)
set_option maxRecDepth 20000 in
theorem gc_L_law_L_sound_5_15 : GoodIn wsL_law [Cond.code yL_who cL_who 8 (some .int)] := goodIn_r _ [663] rfl (by decide +kernel)
set_option maxRecDepth 20000 in
theorem gc_L_law_L_sound_5_16 : GoodIn wsL_law [Cond.methodLink RL 146 yX6_hides] := goodIn_r _ [422] (by decide +kernel) (by decide +kernel)
set_option maxRecDepth 20000 in
theorem gc_L_law_L_sound_5_17 : GoodIn wsL_law [Cond.instanceMethod yX6_hides] := goodIn_r _ [423] (by decide +kernel) (by decide +kernel)
set_option maxRecDepth 20000 in
theorem gc_L_law_L_sound_5_18 : GoodIn wsL_law [Cond.selects RX6 yX6_hides yX6_hides] := goodIn_r _ [424] (by decide +kernel) (by decide +kernel)
set_option maxRecDepth 20000 in
theorem gc_L_law_L_sound_5_19 : GoodIn wsL_law [Cond.code yX6_hides cX6_hides 2 (some .int)] := goodIn_r _ [425] (by decide +kernel) (by decide +kernel)
set_option maxRecDepth 20000 in
theorem gc_L_law_L_sound_5_20 : GoodIn wsL_law [Cond.methodLink RX6 223 yX2_hiddenWithout] := goodIn_r _ [426] (by decide +kernel) (by decide +kernel)
set_option maxRecDepth 20000 in
theorem gc_L_law_L_sound_5_21 : GoodIn wsL_law [Cond.instanceMethod yX2_hiddenWithout] := goodIn_r _ [427] (by decide +kernel) (by decide +kernel)
set_option maxRecDepth 20000 in
theorem gc_L_law_L_sound_5_22 : GoodIn wsL_law [Cond.selects RX2 yX2_hiddenWithout yX2_hiddenWithout] := goodIn_r _ [428] (by decide +kernel) (by decide +kernel)
set_option maxRecDepth 20000 in
theorem gc_L_law_L_sound_5_23 : GoodIn wsL_law [Cond.code yX2_hiddenWithout cX2_hiddenWithout 5 (some .int)] := goodIn_r _ [429] (by decide +kernel) (by decide +kernel)
theorem gc_L_law_L_sound_5 : GoodIn wsL_law wsL_sound_r5 := good_cons gc_L_law_L_sound_5_0 (good_cons gc_L_law_L_sound_5_1 (good_cons gc_L_law_L_sound_5_2 (good_cons gc_L_law_L_sound_5_3 (good_cons gc_L_law_L_sound_5_4 (good_cons gc_L_law_L_sound_5_5 (good_cons gc_L_law_L_sound_5_6 (good_cons gc_L_law_L_sound_5_7 (good_cons gc_L_law_L_sound_5_8 (good_cons gc_L_law_L_sound_5_9 (good_cons gc_L_law_L_sound_5_10 (good_cons gc_L_law_L_sound_5_11 (good_cons gc_L_law_L_sound_5_12 (good_cons gc_L_law_L_sound_5_13 (good_cons gc_L_law_L_sound_5_14 (good_cons gc_L_law_L_sound_5_15 (good_cons gc_L_law_L_sound_5_16 (good_cons gc_L_law_L_sound_5_17 (good_cons gc_L_law_L_sound_5_18 (good_cons gc_L_law_L_sound_5_19 (good_cons gc_L_law_L_sound_5_20 (good_cons gc_L_law_L_sound_5_21 (good_cons gc_L_law_L_sound_5_22 (good_cons gc_L_law_L_sound_5_23 (fun _ h => absurd h List.not_mem_nil))))))))))))))))))))))))
set_option maxRecDepth 20000 in
theorem gc_L_law_L_sound_6 : GoodIn wsL_law wsL_sound_r6 := goodIn_r _ [430, 168, 442, 443, 444, 445, 446, 447, 448, 449, 450, 431, 432, 433, 434, 435, 436, 437, 438, 439, 440, 441, 409, 410] (by decide +kernel) (by decide +kernel)
set_option maxRecDepth 20000 in
theorem gc_L_law_L_sound_7 : GoodIn wsL_law wsL_sound_r7 := goodIn_r _ [411, 412, 413, 384, 385, 386, 387, 389, 390, 391, 392, 393, 294, 295, 47, 296, 131, 378, 379, 380, 381, 382, 216, 217] (by decide +kernel) (by decide +kernel)
set_option maxRecDepth 20000 in
theorem gc_L_law_L_sound_8_0 : GoodIn wsL_law [Cond.methodLink RX6 161 yX2_ledBy] := goodIn_r _ [383] (by decide +kernel) (by decide +kernel)
set_option maxRecDepth 20000 in
theorem gc_L_law_L_sound_8_1 : GoodIn wsL_law [Cond.instanceMethod yX2_ledBy] := goodIn_r _ [213] (by decide +kernel) (by decide +kernel)
set_option maxRecDepth 20000 in
theorem gc_L_law_L_sound_8_2 : GoodIn wsL_law [Cond.selects RX2 yX2_ledBy yX2_ledBy] := goodIn_r _ [214] (by decide +kernel) (by decide +kernel)
set_option maxRecDepth 20000 in
theorem gc_L_law_L_sound_8_3 : GoodIn wsL_law [Cond.code yX2_ledBy cX2_ledBy 3 (some .int)] := goodIn_r _ [215] (by decide +kernel) (by decide +kernel)
set_option maxRecDepth 20000 in
theorem gc_L_law_L_sound_8_4 : GoodIn wsL_law [Cond.fieldLink RX2 15 "VisaPages$House" "doors" "[I"] := goodIn_r _ [32] (by decide +kernel) (by decide +kernel)
set_option maxRecDepth 20000 in
theorem gc_L_law_L_sound_8_5 : GoodIn wsL_law [Cond.methodLink RL 111 yL_walk] := goodIn_r _ [630] (by decide +kernel) (by decide +kernel)
set_option maxRecDepth 20000 in
theorem gc_L_law_L_sound_8_6 : GoodIn wsL_law [Cond.static yL_walk] := goodIn_r _ [631] (by decide +kernel) (by decide +kernel)
set_option maxRecDepth 20000 in
theorem gc_L_law_L_sound_8_7 : GoodIn wsL_law [Cond.code yL_walk cL_walk 7 (some .int)] := goodIn_r _ [632] rfl (by decide +kernel)
theorem gc_L_law_L_sound_8 : GoodIn wsL_law wsL_sound_r8 := good_cons gc_L_law_L_sound_8_0 (good_cons gc_L_law_L_sound_8_1 (good_cons gc_L_law_L_sound_8_2 (good_cons gc_L_law_L_sound_8_3 (good_cons gc_L_law_L_sound_8_4 (good_cons gc_L_law_L_sound_8_5 (good_cons gc_L_law_L_sound_8_6 (good_cons gc_L_law_L_sound_8_7 (fun _ h => absurd h List.not_mem_nil))))))))
set_option maxRecDepth 20000 in
theorem gc_L_law_L_sound_h : GoodIn wsL_law [.code yL_sound cL_sound 16 (some .boolean)] := goodIn_r _ [660] rfl (by decide +kernel)
set_option maxRecDepth 20000 in
theorem gc_L_law_L_sound_x6 : GoodIn wsL_law wsX60 := goodIn_r _ [667, 668, 669, 670, 671] (by decide +kernel) (by decide +kernel)
set_option maxRecDepth 20000 in
theorem gc_L_law_L_sound_x2 : GoodIn wsL_law wsX20 := goodIn_r _ [672, 673, 674, 675, 676, 677, 678, 679, 680, 681] (by decide +kernel) (by decide +kernel)
set_option maxRecDepth 20000 in
theorem gc_L_law_L_sound_x4 : GoodIn wsL_law wsX40 := goodIn_r _ [692, 693, 694, 695, 696, 697, 698, 699] (by decide +kernel) (by decide +kernel)
set_option maxRecDepth 20000 in
theorem gc_L_law_L_sound_x0 : GoodIn wsL_law wsX00 := goodIn_r _ [700, 701, 702, 703, 704, 705, 706] (by decide +kernel) (by decide +kernel)
set_option maxRecDepth 20000 in
theorem gc_L_law_L_sound_x3 : GoodIn wsL_law wsX30 := goodIn_r _ [684, 685, 686, 687, 688, 689] (by decide +kernel) (by decide +kernel)
set_option maxRecDepth 20000 in
theorem gc_L_law_L_sound_x1 : GoodIn wsL_law wsX10 := goodIn_r _ [690, 691] (by decide +kernel) (by decide +kernel)
theorem ggL_law_L_sound : GoodIn wsL_law wsL_sound := good_cons gc_L_law_L_sound_h (good_app (good_app (good_app (good_app (good_app (good_app (good_app gc_L_law_L_sound_1 (good_app gc_L_law_L_sound_2 (good_app gc_L_law_L_sound_3 (good_app gc_L_law_L_sound_4 (good_app gc_L_law_L_sound_5 (good_app gc_L_law_L_sound_6 (good_app gc_L_law_L_sound_7 (gc_L_law_L_sound_8)))))))) gc_L_law_L_sound_x6) gc_L_law_L_sound_x2) gc_L_law_L_sound_x4) gc_L_law_L_sound_x0) gc_L_law_L_sound_x3) gc_L_law_L_sound_x1)
set_option maxRecDepth 20000 in
theorem gL_law_L_sound : GoodIn wsL_law (va_wsS RL 33 yL_sound wsL_sound) := goodIn_app (goodIn_of _ (by decide +kernel)) ggL_law_L_sound
set_option maxRecDepth 20000 in
theorem gc_L_law_L_back_1_0 : GoodIn wsL_law [Cond.methodLink RL 133 yL_print] := goodIn_r _ [647] (by decide +kernel) (by decide +kernel)
set_option maxRecDepth 20000 in
theorem gc_L_law_L_back_1_1 : GoodIn wsL_law [Cond.static yL_print] := goodIn_r _ [648] (by decide +kernel) (by decide +kernel)
set_option maxRecDepth 20000 in
theorem gc_L_law_L_back_1_2 : GoodIn wsL_law [Cond.initialized RL] := goodIn_r _ [84] (by decide +kernel) (by decide +kernel)
set_option maxRecDepth 20000 in
theorem gc_L_law_L_back_1_3 : GoodIn wsL_law [Cond.code yL_print cL_print 5 (some .long)] := goodIn_r _ [649] rfl (by decide +kernel)
set_option maxRecDepth 20000 in
theorem gc_L_law_L_back_1_4 : GoodIn wsL_law [Cond.constantLong RL 39 (7)] := goodIn_r _ [650] (by decide +kernel) (by decide +kernel)
set_option maxRecDepth 20000 in
theorem gc_L_law_L_back_1_5 : GoodIn wsL_law [Cond.constantLong RL 41 (31)] := goodIn_r _ [651] (by decide +kernel) (by decide +kernel)
set_option maxRecDepth 20000 in
theorem gc_L_law_L_back_1_6 : GoodIn wsL_law [Cond.methodLink RL 43 yX6_ofPage] := goodIn_r _ [332] (by decide +kernel) (by decide +kernel)
set_option maxRecDepth 20000 in
theorem gc_L_law_L_back_1_7 : GoodIn wsL_law [Cond.instanceMethod yX6_ofPage] := goodIn_r _ [333] (by decide +kernel) (by decide +kernel)
set_option maxRecDepth 20000 in
theorem gc_L_law_L_back_1_8 : GoodIn wsL_law [Cond.selects RX6 yX6_ofPage yX6_ofPage] := goodIn_r _ [334] (by decide +kernel) (by decide +kernel)
set_option maxRecDepth 20000 in
theorem gc_L_law_L_back_1_9 : GoodIn wsL_law [Cond.initialized RX6] := goodIn_r _ [2] (by decide +kernel) (by decide +kernel)
set_option maxRecDepth 20000 in
theorem gc_L_law_L_back_1_10 : GoodIn wsL_law [Cond.code yX6_ofPage cX6_ofPage 3 (some .int)] := goodIn_r _ [335] (by decide +kernel) (by decide +kernel)
set_option maxRecDepth 20000 in
theorem gc_L_law_L_back_1_11 : GoodIn wsL_law [Cond.fieldLink RX6 12 "VisaPages" "house" "LVisaPages$House;"] := goodIn_r _ [12] (by decide +kernel) (by decide +kernel)
set_option maxRecDepth 20000 in
theorem gc_L_law_L_back_1_12 : GoodIn wsL_law [Cond.fieldLink RX6 95 "VisaPages$House" "owners" "[I"] := goodIn_r _ [336] (by decide +kernel) (by decide +kernel)
set_option maxRecDepth 20000 in
theorem gc_L_law_L_back_1_13 : GoodIn wsL_law [Cond.fieldLink RX6 107 "VisaPages$House" "stamps" "LVisaPages$Stamps;"] := goodIn_r _ [337] (by decide +kernel) (by decide +kernel)
set_option maxRecDepth 20000 in
theorem gc_L_law_L_back_1_14 : GoodIn wsL_law [Cond.methodLink RX6 91 yX6_isPage] := goodIn_r _ [338] (by decide +kernel) (by decide +kernel)
set_option maxRecDepth 20000 in
theorem gc_L_law_L_back_1_15 : GoodIn wsL_law [Cond.static yX6_isPage] := goodIn_r _ [164] (by decide +kernel) (by decide +kernel)
set_option maxRecDepth 20000 in
theorem gc_L_law_L_back_1_16 : GoodIn wsL_law [Cond.code yX6_isPage cX6_isPage 1 (some .boolean)] := goodIn_r _ [165] (by decide +kernel) (by decide +kernel)
set_option maxRecDepth 20000 in
theorem gc_L_law_L_back_1_17 : GoodIn wsL_law [Cond.methodLink RX6 99 yX2_goodStamps] := goodIn_r _ [339] (by decide +kernel) (by decide +kernel)
set_option maxRecDepth 20000 in
theorem gc_L_law_L_back_1_18 : GoodIn wsL_law [Cond.instanceMethod yX2_goodStamps] := goodIn_r _ [169] (by decide +kernel) (by decide +kernel)
set_option maxRecDepth 20000 in
theorem gc_L_law_L_back_1_19 : GoodIn wsL_law [Cond.selects RX2 yX2_goodStamps yX2_goodStamps] := goodIn_r _ [170] (by decide +kernel) (by decide +kernel)
set_option maxRecDepth 20000 in
theorem gc_L_law_L_back_1_20 : GoodIn wsL_law [Cond.initialized RX2] := goodIn_r _ [11] (by decide +kernel) (by decide +kernel)
set_option maxRecDepth 20000 in
theorem gc_L_law_L_back_1_21 : GoodIn wsL_law [Cond.code yX2_goodStamps cX2_goodStamps 7 (some .long)] := goodIn_r _ [171] (by decide +kernel) (by decide +kernel)
set_option maxRecDepth 20000 in
theorem gc_L_law_L_back_1_22 : GoodIn wsL_law [Cond.fieldLink RX2 35 "VisaPages$House" "stamps" "LVisaPages$Stamps;"] := goodIn_r _ [44] (by decide +kernel) (by decide +kernel)
set_option maxRecDepth 20000 in
theorem gc_L_law_L_back_1_23 : GoodIn wsL_law [Cond.fieldLink RX2 216 "VisaPages$Stamps" "made" "I"] := goodIn_r _ [172] (by decide +kernel) (by decide +kernel)
theorem gc_L_law_L_back_1 : GoodIn wsL_law wsL_back_r1 := good_cons gc_L_law_L_back_1_0 (good_cons gc_L_law_L_back_1_1 (good_cons gc_L_law_L_back_1_2 (good_cons gc_L_law_L_back_1_3 (good_cons gc_L_law_L_back_1_4 (good_cons gc_L_law_L_back_1_5 (good_cons gc_L_law_L_back_1_6 (good_cons gc_L_law_L_back_1_7 (good_cons gc_L_law_L_back_1_8 (good_cons gc_L_law_L_back_1_9 (good_cons gc_L_law_L_back_1_10 (good_cons gc_L_law_L_back_1_11 (good_cons gc_L_law_L_back_1_12 (good_cons gc_L_law_L_back_1_13 (good_cons gc_L_law_L_back_1_14 (good_cons gc_L_law_L_back_1_15 (good_cons gc_L_law_L_back_1_16 (good_cons gc_L_law_L_back_1_17 (good_cons gc_L_law_L_back_1_18 (good_cons gc_L_law_L_back_1_19 (good_cons gc_L_law_L_back_1_20 (good_cons gc_L_law_L_back_1_21 (good_cons gc_L_law_L_back_1_22 (good_cons gc_L_law_L_back_1_23 (fun _ h => absurd h List.not_mem_nil))))))))))))))))))))))))
set_option maxRecDepth 20000 in
theorem gc_L_law_L_back_2 : GoodIn wsL_law wsL_back_r2 := goodIn_r _ [173, 174, 175, 146, 147, 176, 177, 178, 179, 180, 181, 31, 182, 183, 184, 185, 186, 43, 187, 125, 340, 341, 342, 343] (by decide +kernel) (by decide +kernel)
set_option maxRecDepth 20000 in
theorem gc_L_law_L_back_3 : GoodIn wsL_law wsL_back_r3 := goodIn_r _ [166, 167, 344, 345, 346, 347, 52, 348, 349, 350, 351, 352, 353, 354, 394, 395, 396, 397, 398, 388, 399, 400, 401, 402] (by decide +kernel) (by decide +kernel)
set_option maxRecDepth 20000 in
theorem gc_L_law_L_back_4 : GoodIn wsL_law wsL_back_r4 := goodIn_r _ [403, 404, 405, 406, 20, 407, 24, 408, 355, 356, 357, 358, 359, 360, 361, 362, 363, 364, 365, 366, 367, 368, 369, 370] (by decide +kernel) (by decide +kernel)
set_option maxRecDepth 20000 in
theorem gc_L_law_L_back_5 : GoodIn wsL_law wsL_back_r5 := goodIn_r _ [371, 56, 372, 373, 374, 375, 376, 377, 378, 379, 380, 381, 382, 216, 217, 383, 213, 214, 215, 32, 384, 385, 386, 387] (by decide +kernel) (by decide +kernel)
set_option maxRecDepth 20000 in
theorem gc_L_law_L_back_6_0 : GoodIn wsL_law [Cond.fieldLink RX6 165 "VisaPages$Board" "guest" "[I"] := goodIn_r _ [389] (by decide +kernel) (by decide +kernel)
set_option maxRecDepth 20000 in
theorem gc_L_law_L_back_6_1 : GoodIn wsL_law [Cond.fieldLink RX6 168 "VisaPages$Board" "door" "[I"] := goodIn_r _ [390] (by decide +kernel) (by decide +kernel)
set_option maxRecDepth 20000 in
theorem gc_L_law_L_back_6_2 : GoodIn wsL_law [Cond.fieldLink RX6 171 "VisaPages$Board" "need" "[I"] := goodIn_r _ [391] (by decide +kernel) (by decide +kernel)
set_option maxRecDepth 20000 in
theorem gc_L_law_L_back_6_3 : GoodIn wsL_law [Cond.fieldLink RX6 174 "VisaPages$Board" "page" "[I"] := goodIn_r _ [392] (by decide +kernel) (by decide +kernel)
set_option maxRecDepth 20000 in
theorem gc_L_law_L_back_6_4 : GoodIn wsL_law [Cond.methodLink RX6 164 yX0_has] := goodIn_r _ [393] (by decide +kernel) (by decide +kernel)
set_option maxRecDepth 20000 in
theorem gc_L_law_L_back_6_5 : GoodIn wsL_law [Cond.instanceMethod yX0_has] := goodIn_r _ [294] (by decide +kernel) (by decide +kernel)
set_option maxRecDepth 20000 in
theorem gc_L_law_L_back_6_6 : GoodIn wsL_law [Cond.selects RX0 yX0_has yX0_has] := goodIn_r _ [295] (by decide +kernel) (by decide +kernel)
set_option maxRecDepth 20000 in
theorem gc_L_law_L_back_6_7 : GoodIn wsL_law [Cond.initialized RX0] := goodIn_r _ [47] (by decide +kernel) (by decide +kernel)
set_option maxRecDepth 20000 in
theorem gc_L_law_L_back_6_8 : GoodIn wsL_law [Cond.code yX0_has cX0_has 2 (some .boolean)] := goodIn_r _ [296] (by decide +kernel) (by decide +kernel)
set_option maxRecDepth 20000 in
theorem gc_L_law_L_back_6_9 : GoodIn wsL_law [Cond.fieldLink RX0 30 "VisaPages$Board" "size" "I"] := goodIn_r _ [131] (by decide +kernel) (by decide +kernel)
set_option maxRecDepth 20000 in
theorem gc_L_law_L_back_6_10 : GoodIn wsL_law [Cond.methodLink RL 59 yX6_ended] := goodIn_r _ [409] (by decide +kernel) (by decide +kernel)
set_option maxRecDepth 20000 in
theorem gc_L_law_L_back_6_11 : GoodIn wsL_law [Cond.instanceMethod yX6_ended] := goodIn_r _ [410] (by decide +kernel) (by decide +kernel)
set_option maxRecDepth 20000 in
theorem gc_L_law_L_back_6_12 : GoodIn wsL_law [Cond.selects RX6 yX6_ended yX6_ended] := goodIn_r _ [411] (by decide +kernel) (by decide +kernel)
set_option maxRecDepth 20000 in
theorem gc_L_law_L_back_6_13 : GoodIn wsL_law [Cond.code yX6_ended cX6_ended 2 (some .int)] := goodIn_r _ [412] (by decide +kernel) (by decide +kernel)
set_option maxRecDepth 20000 in
theorem gc_L_law_L_back_6_14 : GoodIn wsL_law [Cond.fieldLink RX6 209 "VisaPages$House" "endings" "[I"] := goodIn_r _ [413] (by decide +kernel) (by decide +kernel)
set_option maxRecDepth 20000 in
theorem gc_L_law_L_back_6_15 : GoodIn wsL_law [Cond.methodLink RL 22 yL_up] := goodIn_r _ [92] (by decide +kernel) (by decide +kernel)
set_option maxRecDepth 20000 in
theorem gc_L_law_L_back_6_16 : GoodIn wsL_law [Cond.static yL_up] := goodIn_r _ [93] (by decide +kernel) (by decide +kernel)
set_option maxRecDepth 20000 in
theorem gc_L_law_L_back_6_17 : GoodIn wsL_law [Cond.code yL_up cL_up 2 (some .int)] := goodIn_r _ [94] rfl (by decide +kernel)
set_option maxRecDepth 20000 in
theorem gc_L_law_L_back_6_18 : GoodIn wsL_law [Cond.constant RL 8 (2147483647)] := goodIn_r _ [95] (by decide +kernel) (by decide +kernel)
set_option maxRecDepth 20000 in
theorem gc_L_law_L_back_6_19 : GoodIn wsL_law [Cond.methodLink RL 156 yX6_save] := goodIn_r _ [589] (by decide +kernel) (by decide +kernel)
set_option maxRecDepth 20000 in
theorem gc_L_law_L_back_6_20 : GoodIn wsL_law [Cond.instanceMethod yX6_save] := goodIn_r _ [590] (by decide +kernel) (by decide +kernel)
set_option maxRecDepth 20000 in
theorem gc_L_law_L_back_6_21 : GoodIn wsL_law [Cond.selects RX6 yX6_save yX6_save] := goodIn_r _ [591] (by decide +kernel) (by decide +kernel)
set_option maxRecDepth 20000 in
theorem gc_L_law_L_back_6_22 : GoodIn wsL_law [Cond.code yX6_save cX6_save 2 (some .int)] := goodIn_r _ [592] (by decide +kernel) (by decide +kernel)
set_option maxRecDepth 20000 in
theorem gc_L_law_L_back_6_23 : GoodIn wsL_law [Cond.fieldLink RX6 37 "VisaPages" "slots" "[LVisaPages$House;"] := goodIn_r _ [25] (by decide +kernel) (by decide +kernel)
theorem gc_L_law_L_back_6 : GoodIn wsL_law wsL_back_r6 := good_cons gc_L_law_L_back_6_0 (good_cons gc_L_law_L_back_6_1 (good_cons gc_L_law_L_back_6_2 (good_cons gc_L_law_L_back_6_3 (good_cons gc_L_law_L_back_6_4 (good_cons gc_L_law_L_back_6_5 (good_cons gc_L_law_L_back_6_6 (good_cons gc_L_law_L_back_6_7 (good_cons gc_L_law_L_back_6_8 (good_cons gc_L_law_L_back_6_9 (good_cons gc_L_law_L_back_6_10 (good_cons gc_L_law_L_back_6_11 (good_cons gc_L_law_L_back_6_12 (good_cons gc_L_law_L_back_6_13 (good_cons gc_L_law_L_back_6_14 (good_cons gc_L_law_L_back_6_15 (good_cons gc_L_law_L_back_6_16 (good_cons gc_L_law_L_back_6_17 (good_cons gc_L_law_L_back_6_18 (good_cons gc_L_law_L_back_6_19 (good_cons gc_L_law_L_back_6_20 (good_cons gc_L_law_L_back_6_21 (good_cons gc_L_law_L_back_6_22 (good_cons gc_L_law_L_back_6_23 (fun _ h => absurd h List.not_mem_nil))))))))))))))))))))))))
set_option maxRecDepth 20000 in
theorem gc_L_law_L_back_7 : GoodIn wsL_law wsL_back_r7 := goodIn_r _ [9, 10, 593, 594, 595, 26, 27, 28, 29, 7, 8, 30, 33, 34, 35, 36, 37, 38, 39, 40, 41, 42, 45, 46] (by decide +kernel) (by decide +kernel)
set_option maxRecDepth 20000 in
theorem gc_L_law_L_back_8 : GoodIn wsL_law wsL_back_r8 := goodIn_r _ [48, 49, 50, 51, 53, 54, 55, 57, 58, 59, 60, 61, 62, 63, 64, 65, 66, 67, 596, 107, 108, 109, 110, 111] (by decide +kernel) (by decide +kernel)
set_option maxRecDepth 20000 in
theorem gc_L_law_L_back_9 : GoodIn wsL_law wsL_back_r9 := goodIn_r _ [112, 113, 114, 115, 116, 117, 118, 119, 120, 121, 122, 123, 124, 126, 127, 128, 129, 130, 132, 133, 156, 157, 158, 159] (by decide +kernel) (by decide +kernel)
set_option maxRecDepth 20000 in
theorem gc_L_law_L_back_10 : GoodIn wsL_law wsL_back_r10 := goodIn_r _ [100, 101, 102, 23, 103, 81, 104, 80, 105, 106, 160, 161, 162, 163, 168, 188, 189, 190, 191, 192, 193, 194, 195, 196] (by decide +kernel) (by decide +kernel)
set_option maxRecDepth 20000 in
theorem gc_L_law_L_back_11 : GoodIn wsL_law wsL_back_r11 := goodIn_r _ [197, 198, 199, 200, 142, 143, 144, 145, 201, 202, 203, 204, 205, 206, 207, 208, 209, 210, 211, 212, 148, 149, 150, 151] (by decide +kernel) (by decide +kernel)
set_option maxRecDepth 20000 in
theorem gc_L_law_L_back_12 : GoodIn wsL_law wsL_back_r12 := goodIn_r _ [152, 153, 154, 155, 652, 653, 654, 655, 656, 657, 245, 246, 247, 248, 249, 250, 251, 252, 226, 227, 228, 229, 230, 231] (by decide +kernel) (by decide +kernel)
set_option maxRecDepth 20000 in
theorem gc_L_law_L_back_13 : GoodIn wsL_law wsL_back_r13 := goodIn_r _ [232, 233, 234, 235, 236, 253, 254, 255, 256, 257, 258, 259, 260, 273, 274, 275, 276, 16, 277, 278, 279, 280, 281, 282] (by decide +kernel) (by decide +kernel)
set_option maxRecDepth 20000 in
theorem gc_L_law_L_back_14 : GoodIn wsL_law wsL_back_r14 := goodIn_r _ [283, 284, 285, 286, 287, 288, 289, 290, 291, 292, 293, 297, 298, 299, 300, 301, 302, 303, 304, 305, 306, 307, 308, 309] (by decide +kernel) (by decide +kernel)
set_option maxRecDepth 20000 in
theorem gc_L_law_L_back_15 : GoodIn wsL_law wsL_back_r15 := goodIn_r _ [310, 311, 15, 312, 313, 314, 315, 316, 317, 318, 319, 320, 321, 322, 323, 324, 325, 326, 327, 328, 329, 330, 138, 139] (by decide +kernel) (by decide +kernel)
set_option maxRecDepth 20000 in
theorem gc_L_law_L_back_16 : GoodIn wsL_law wsL_back_r16 := goodIn_r _ [140, 141, 331, 601, 602, 603, 604, 605, 606, 607, 608, 597, 598, 599, 600] (by decide +kernel) (by decide +kernel)
set_option maxRecDepth 20000 in
theorem gc_L_law_L_back_h : GoodIn wsL_law [.code yL_back cL_back 7 (some .boolean)] := goodIn_r _ [666] rfl (by decide +kernel)
set_option maxRecDepth 20000 in
theorem gc_L_law_L_back_x6 : GoodIn wsL_law wsX60 := goodIn_r _ [667, 668, 669, 670, 671] (by decide +kernel) (by decide +kernel)
set_option maxRecDepth 20000 in
theorem gc_L_law_L_back_x2 : GoodIn wsL_law wsX20 := goodIn_r _ [672, 673, 674, 675, 676, 677, 678, 679, 680, 681] (by decide +kernel) (by decide +kernel)
set_option maxRecDepth 20000 in
theorem gc_L_law_L_back_x4 : GoodIn wsL_law wsX40 := goodIn_r _ [692, 693, 694, 695, 696, 697, 698, 699] (by decide +kernel) (by decide +kernel)
set_option maxRecDepth 20000 in
theorem gc_L_law_L_back_x0 : GoodIn wsL_law wsX00 := goodIn_r _ [700, 701, 702, 703, 704, 705, 706] (by decide +kernel) (by decide +kernel)
set_option maxRecDepth 20000 in
theorem gc_L_law_L_back_x3 : GoodIn wsL_law wsX30 := goodIn_r _ [684, 685, 686, 687, 688, 689] (by decide +kernel) (by decide +kernel)
set_option maxRecDepth 20000 in
theorem gc_L_law_L_back_x1 : GoodIn wsL_law wsX10 := goodIn_r _ [690, 691] (by decide +kernel) (by decide +kernel)
set_option maxRecDepth 20000 in
theorem gc_L_law_L_back_x5 : GoodIn wsL_law wsX50 := goodIn_r _ [682, 683] (by decide +kernel) (by decide +kernel)
theorem ggL_law_L_back : GoodIn wsL_law wsL_back := good_cons gc_L_law_L_back_h (good_app (good_app (good_app (good_app (good_app (good_app (good_app (good_app gc_L_law_L_back_1 (good_app gc_L_law_L_back_2 (good_app gc_L_law_L_back_3 (good_app gc_L_law_L_back_4 (good_app gc_L_law_L_back_5 (good_app gc_L_law_L_back_6 (good_app gc_L_law_L_back_7 (good_app gc_L_law_L_back_8 (good_app gc_L_law_L_back_9 (good_app gc_L_law_L_back_10 (good_app gc_L_law_L_back_11 (good_app gc_L_law_L_back_12 (good_app gc_L_law_L_back_13 (good_app gc_L_law_L_back_14 (good_app gc_L_law_L_back_15 (gc_L_law_L_back_16)))))))))))))))) gc_L_law_L_back_x6) gc_L_law_L_back_x2) gc_L_law_L_back_x4) gc_L_law_L_back_x0) gc_L_law_L_back_x3) gc_L_law_L_back_x1) gc_L_law_L_back_x5)
set_option maxRecDepth 20000 in
theorem gL_law_L_back : GoodIn wsL_law (va_wsS RL 36 yL_back wsL_back) := goodIn_app (goodIn_of _ (by decide +kernel)) ggL_law_L_back
set_option maxRecDepth 20000 in
theorem ggL_print_X6_ofPage : GoodIn wsL_print wsX6_ofPage := goodIn_r _ [7, 8, 9, 10, 11, 12, 6, 13, 14, 15, 16, 17, 18, 19, 20, 21, 22, 23, 24, 25, 26, 27, 28, 29, 30, 31, 32, 33, 34, 35, 36, 37, 38, 39, 40, 41, 42, 43, 44, 45, 46, 47, 48, 49, 50, 51, 52, 53, 54, 55, 56, 57, 58, 132, 133, 134, 135, 136, 137, 138, 139, 140, 141, 142, 143, 144, 145, 146, 147, 148, 149, 150, 151, 152, 153, 154] (by decide +kernel) (by decide +kernel)
set_option maxRecDepth 20000 in
theorem gL_print_X6_ofPage : GoodIn wsL_print (wsV RL 43 RX6 yX6_ofPage wsX6_ofPage) := goodIn_app (goodIn_of _ (by decide +kernel)) ggL_print_X6_ofPage
set_option maxRecDepth 20000 in
theorem ggL_print_X6_count : GoodIn wsL_print wsX6_count := goodIn_r _ [62, 8, 10, 63, 64, 65, 66, 67, 68, 69, 70, 71, 72, 73, 74, 75, 76, 14, 15, 16, 17, 18, 19, 20, 21, 22, 23, 24, 6, 25, 26, 27, 28, 29, 30, 31, 32, 33, 34, 35, 36, 37, 38, 39, 40, 12, 13, 52, 53, 54, 55, 56, 57, 58, 132, 133, 134, 135, 136, 137, 138, 139, 140, 141, 142, 143, 144, 145, 146, 147, 148, 149, 150, 151, 152, 153, 154, 155, 156, 157, 158, 159, 160, 161, 162, 163, 164, 165, 166, 167, 168, 169] (by decide +kernel) (by decide +kernel)
set_option maxRecDepth 20000 in
theorem gL_print_X6_count : GoodIn wsL_print (wsV RL 46 RX6 yX6_count wsX6_count) := goodIn_app (goodIn_of _ (by decide +kernel)) ggL_print_X6_count
set_option maxRecDepth 20000 in
theorem ggL_print_X6_ofStamp : GoodIn wsL_print wsX6_ofStamp := goodIn_r _ [80, 8, 10, 81, 82, 83, 84, 85, 86, 87, 88, 36, 37, 38, 39, 40, 89, 24, 6, 25, 14, 15, 16, 17, 18, 19, 20, 21, 22, 23, 26, 27, 28, 29, 30, 31, 32, 33, 34, 35, 12, 13, 90, 91, 92, 93, 94, 95, 96, 97, 98, 99, 100, 53, 54, 55, 56, 57, 58, 132, 133, 134, 135, 136, 137, 138, 139, 140, 141, 142, 143, 144, 145, 146, 147, 148, 149, 150, 151, 152, 153, 154] (by decide +kernel) (by decide +kernel)
set_option maxRecDepth 20000 in
theorem gL_print_X6_ofStamp : GoodIn wsL_print (wsV RL 50 RX6 yX6_ofStamp wsX6_ofStamp) := goodIn_app (goodIn_of _ (by decide +kernel)) ggL_print_X6_ofStamp
set_option maxRecDepth 20000 in
theorem ggL_print_X6_leads : GoodIn wsL_print wsX6_leads := goodIn_r _ [104, 8, 105, 106, 6, 107, 108, 109, 110, 17, 111, 112, 132, 133, 134, 135, 136, 137, 138, 139, 140, 141, 142, 143, 144, 145, 146] (by decide +kernel) (by decide +kernel)
set_option maxRecDepth 20000 in
theorem gL_print_X6_leads : GoodIn wsL_print (wsV RL 53 RX6 yX6_leads wsX6_leads) := goodIn_app (goodIn_of _ (by decide +kernel)) ggL_print_X6_leads
set_option maxRecDepth 20000 in
theorem ggL_print_X6_note : GoodIn wsL_print wsX6_note := goodIn_r _ [116, 8, 64, 117, 118, 119, 120, 121, 122, 123, 124, 125, 126, 132, 133, 134, 135, 136, 137, 138, 139, 140, 141, 142, 143, 144, 145, 146, 155, 156, 157, 158, 159, 160, 161] (by decide +kernel) (by decide +kernel)
set_option maxRecDepth 20000 in
theorem gL_print_X6_note : GoodIn wsL_print (wsV RL 56 RX6 yX6_note wsX6_note) := goodIn_app (goodIn_of _ (by decide +kernel)) ggL_print_X6_note
set_option maxRecDepth 20000 in
theorem ggL_print_X6_ended : GoodIn wsL_print wsX6_ended := goodIn_r _ [130, 8, 131, 132, 133, 134, 135, 136, 137, 138, 139, 140, 141, 142, 143, 144, 145, 146] (by decide +kernel) (by decide +kernel)
set_option maxRecDepth 20000 in
theorem gL_print_X6_ended : GoodIn wsL_print (wsV RL 59 RX6 yX6_ended wsX6_ended) := goodIn_app (goodIn_of _ (by decide +kernel)) ggL_print_X6_ended
set_option maxRecDepth 20000 in
theorem ggL_based_X6_ofStamp : GoodIn wsL_based wsX6_ofStamp := goodIn_r _ [5, 6, 7, 8, 9, 10, 11, 12, 13, 14, 15, 16, 17, 18, 19, 20, 21, 22, 4, 23, 24, 25, 26, 27, 28, 29, 30, 31, 32, 33, 34, 35, 36, 37, 38, 39, 40, 41, 42, 43, 44, 45, 46, 47, 48, 49, 50, 51, 52, 53, 54, 55, 56, 57, 58, 59, 60, 61, 62, 81, 82, 83, 84, 85, 86, 87, 88, 89, 90, 91, 92, 93, 94, 95, 96, 97, 98, 99, 100, 101, 102, 103] (by decide +kernel) (by decide +kernel)
set_option maxRecDepth 20000 in
theorem gL_based_X6_ofStamp : GoodIn wsL_based (wsV RL 50 RX6 yX6_ofStamp wsX6_ofStamp) := goodIn_app (goodIn_of _ (by decide +kernel)) ggL_based_X6_ofStamp
set_option maxRecDepth 20000 in
theorem ggL_based_X6_ofPage : GoodIn wsL_based wsX6_ofPage := goodIn_r _ [66, 6, 67, 7, 68, 44, 4, 45, 24, 25, 26, 27, 28, 29, 30, 31, 32, 33, 22, 23, 34, 35, 36, 37, 38, 39, 40, 41, 42, 43, 16, 17, 18, 19, 20, 69, 70, 71, 72, 73, 74, 75, 76, 77, 78, 79, 80, 57, 58, 59, 60, 61, 62, 81, 82, 83, 84, 85, 86, 87, 88, 89, 90, 91, 92, 93, 94, 95, 96, 97, 98, 99, 100, 101, 102, 103] (by decide +kernel) (by decide +kernel)
set_option maxRecDepth 20000 in
theorem gL_based_X6_ofPage : GoodIn wsL_based (wsV RL 43 RX6 yX6_ofPage wsX6_ofPage) := goodIn_app (goodIn_of _ (by decide +kernel)) ggL_based_X6_ofPage
set_option maxRecDepth 20000 in
theorem ggL_good_X6_ofStamp : GoodIn wsL_good wsX6_ofStamp := goodIn_r _ [5, 6, 7, 8, 9, 10, 11, 12, 13, 14, 15, 16, 17, 18, 19, 20, 21, 22, 4, 23, 24, 25, 26, 27, 28, 29, 30, 31, 32, 33, 34, 35, 36, 37, 38, 39, 40, 41, 42, 43, 44, 45, 46, 47, 48, 49, 50, 51, 52, 53, 54, 55, 56, 57, 58, 59, 60, 61, 62, 85, 86, 87, 88, 89, 90, 91, 92, 93, 94, 95, 96, 97, 98, 99, 100, 101, 102, 103, 104, 105, 106, 107] (by decide +kernel) (by decide +kernel)
set_option maxRecDepth 20000 in
theorem gL_good_X6_ofStamp : GoodIn wsL_good (wsV RL 50 RX6 yX6_ofStamp wsX6_ofStamp) := goodIn_app (goodIn_of _ (by decide +kernel)) ggL_good_X6_ofStamp
set_option maxRecDepth 20000 in
theorem gc_L_good_L_based_1 : GoodIn wsL_good wsL_based_r1 := goodIn_r _ [1, 2, 3, 4, 5, 6, 7, 8, 9, 10, 11, 12, 13, 14, 15, 16, 17, 18, 19, 20, 21, 22, 23, 24] (by decide +kernel) (by decide +kernel)
set_option maxRecDepth 20000 in
theorem gc_L_good_L_based_2 : GoodIn wsL_good wsL_based_r2 := goodIn_r _ [25, 26, 27, 28, 29, 30, 31, 32, 33, 34, 35, 36, 37, 38, 39, 40, 41, 42, 43, 44, 45, 46, 47, 48] (by decide +kernel) (by decide +kernel)
set_option maxRecDepth 20000 in
theorem gc_L_good_L_based_3 : GoodIn wsL_good wsL_based_r3 := goodIn_r _ [49, 50, 51, 52, 53, 54, 55, 56, 57, 58, 59, 60, 61, 62, 67, 68, 69, 70, 71, 72, 73, 74, 75, 76] (by decide +kernel) (by decide +kernel)
set_option maxRecDepth 20000 in
theorem gc_L_good_L_based_4 : GoodIn wsL_good wsL_based_r4 := goodIn_r _ [77, 78, 79, 80, 81, 82, 83, 84] (by decide +kernel) (by decide +kernel)
set_option maxRecDepth 20000 in
theorem gc_L_good_L_based_h : GoodIn wsL_good [.code yL_based cL_based 4 (some .boolean)] := goodIn_r _ [66] rfl (by decide +kernel)
set_option maxRecDepth 20000 in
theorem gc_L_good_L_based_x6 : GoodIn wsL_good wsX60 := goodIn_r _ [85, 86, 87, 88, 89] (by decide +kernel) (by decide +kernel)
set_option maxRecDepth 20000 in
theorem gc_L_good_L_based_x2 : GoodIn wsL_good wsX20 := goodIn_r _ [90, 91, 92, 93, 94, 95, 96, 97, 98, 99] (by decide +kernel) (by decide +kernel)
set_option maxRecDepth 20000 in
theorem gc_L_good_L_based_x4 : GoodIn wsL_good wsX40 := goodIn_r _ [100, 101, 102, 103, 104, 105, 106, 107] (by decide +kernel) (by decide +kernel)
theorem ggL_good_L_based : GoodIn wsL_good wsL_based := good_cons gc_L_good_L_based_h (good_app (good_app (good_app (good_app gc_L_good_L_based_1 (good_app gc_L_good_L_based_2 (good_app gc_L_good_L_based_3 (gc_L_good_L_based_4)))) gc_L_good_L_based_x6) gc_L_good_L_based_x2) gc_L_good_L_based_x4)
set_option maxRecDepth 20000 in
theorem gL_good_L_based : GoodIn wsL_good (va_wsS RL 62 yL_based wsL_based) := goodIn_app (goodIn_of _ (by decide +kernel)) ggL_good_L_based
set_option maxRecDepth 20000 in
theorem ggL_walk_X6_leads : GoodIn wsL_walk wsX6_leads := goodIn_r _ [5, 6, 7, 8, 4, 9, 10, 11, 12, 13, 14, 15, 97, 98, 99, 100, 101, 102, 103, 104, 105, 106, 107, 108, 109, 110, 111] (by decide +kernel) (by decide +kernel)
set_option maxRecDepth 20000 in
theorem gL_walk_X6_leads : GoodIn wsL_walk (wsV RL 53 RX6 yX6_leads wsX6_leads) := goodIn_app (goodIn_of _ (by decide +kernel)) ggL_walk_X6_leads
set_option maxRecDepth 20000 in
theorem ggL_walk_X6_ofStamp : GoodIn wsL_walk wsX6_ofStamp := goodIn_r _ [19, 6, 20, 21, 22, 23, 24, 25, 26, 27, 28, 29, 30, 31, 32, 33, 34, 35, 4, 36, 37, 38, 39, 13, 40, 41, 42, 43, 44, 45, 46, 47, 48, 49, 50, 51, 52, 53, 54, 55, 56, 57, 58, 59, 60, 61, 62, 63, 64, 65, 66, 67, 68, 69, 70, 71, 72, 73, 74, 97, 98, 99, 100, 101, 102, 103, 104, 105, 106, 107, 108, 109, 110, 111, 112, 113, 114, 115, 116, 117, 118, 119] (by decide +kernel) (by decide +kernel)
set_option maxRecDepth 20000 in
theorem gL_walk_X6_ofStamp : GoodIn wsL_walk (wsV RL 50 RX6 yX6_ofStamp wsX6_ofStamp) := goodIn_app (goodIn_of _ (by decide +kernel)) ggL_walk_X6_ofStamp
set_option maxRecDepth 20000 in
theorem gc_L_walk_L_based_1 : GoodIn wsL_walk wsL_based_r1 := goodIn_r _ [16, 17, 18, 4, 19, 6, 20, 21, 22, 23, 24, 25, 26, 27, 28, 29, 30, 31, 32, 33, 34, 35, 36, 37] (by decide +kernel) (by decide +kernel)
set_option maxRecDepth 20000 in
theorem gc_L_walk_L_based_2 : GoodIn wsL_walk wsL_based_r2 := goodIn_r _ [38, 39, 13, 40, 41, 42, 43, 44, 45, 46, 47, 48, 49, 50, 51, 52, 53, 54, 55, 56, 57, 58, 59, 60] (by decide +kernel) (by decide +kernel)
set_option maxRecDepth 20000 in
theorem gc_L_walk_L_based_3 : GoodIn wsL_walk wsL_based_r3 := goodIn_r _ [61, 62, 63, 64, 65, 66, 67, 68, 69, 70, 71, 72, 73, 74, 79, 80, 81, 82, 83, 84, 85, 86, 87, 88] (by decide +kernel) (by decide +kernel)
set_option maxRecDepth 20000 in
theorem gc_L_walk_L_based_4 : GoodIn wsL_walk wsL_based_r4 := goodIn_r _ [89, 90, 91, 92, 93, 94, 95, 96] (by decide +kernel) (by decide +kernel)
set_option maxRecDepth 20000 in
theorem gc_L_walk_L_based_h : GoodIn wsL_walk [.code yL_based cL_based 4 (some .boolean)] := goodIn_r _ [78] rfl (by decide +kernel)
set_option maxRecDepth 20000 in
theorem gc_L_walk_L_based_x6 : GoodIn wsL_walk wsX60 := goodIn_r _ [97, 98, 99, 100, 101] (by decide +kernel) (by decide +kernel)
set_option maxRecDepth 20000 in
theorem gc_L_walk_L_based_x2 : GoodIn wsL_walk wsX20 := goodIn_r _ [102, 103, 104, 105, 106, 107, 108, 109, 110, 111] (by decide +kernel) (by decide +kernel)
set_option maxRecDepth 20000 in
theorem gc_L_walk_L_based_x4 : GoodIn wsL_walk wsX40 := goodIn_r _ [112, 113, 114, 115, 116, 117, 118, 119] (by decide +kernel) (by decide +kernel)
theorem ggL_walk_L_based : GoodIn wsL_walk wsL_based := good_cons gc_L_walk_L_based_h (good_app (good_app (good_app (good_app gc_L_walk_L_based_1 (good_app gc_L_walk_L_based_2 (good_app gc_L_walk_L_based_3 (gc_L_walk_L_based_4)))) gc_L_walk_L_based_x6) gc_L_walk_L_based_x2) gc_L_walk_L_based_x4)
set_option maxRecDepth 20000 in
theorem gL_walk_L_based : GoodIn wsL_walk (va_wsS RL 62 yL_based wsL_based) := goodIn_app (goodIn_of _ (by decide +kernel)) ggL_walk_L_based
set_option maxRecDepth 20000 in
theorem ggL_act_L_up : GoodIn wsL_act wsL_up := goodIn_r _ [4, 5] (by decide +kernel) (by decide +kernel)
set_option maxRecDepth 20000 in
theorem gL_act_L_up : GoodIn wsL_act (va_wsS RL 22 yL_up wsL_up) := goodIn_app (goodIn_of _ (by decide +kernel)) ggL_act_L_up
set_option maxRecDepth 20000 in
theorem ggL_act_X6_count : GoodIn wsL_act wsX6_count := goodIn_r _ [10, 11, 12, 13, 14, 15, 16, 17, 18, 19, 20, 21, 22, 23, 24, 25, 26, 27, 28, 29, 30, 31, 32, 33, 34, 35, 36, 37, 9, 38, 39, 40, 41, 42, 43, 44, 45, 46, 47, 48, 49, 50, 51, 52, 53, 54, 55, 56, 57, 58, 59, 60, 61, 62, 581, 582, 583, 584, 585, 586, 587, 588, 589, 590, 591, 592, 593, 594, 595, 596, 597, 598, 599, 600, 601, 602, 603, 604, 605, 606, 607, 608, 609, 610, 611, 612, 613, 614, 615, 616, 617, 618] (by decide +kernel) (by decide +kernel)
set_option maxRecDepth 20000 in
theorem gL_act_X6_count : GoodIn wsL_act (wsV RL 46 RX6 yX6_count wsX6_count) := goodIn_app (goodIn_of _ (by decide +kernel)) ggL_act_X6_count
set_option maxRecDepth 20000 in
theorem ggL_act_X6_ofPage : GoodIn wsL_act wsX6_ofPage := goodIn_r _ [66, 11, 67, 12, 68, 54, 9, 55, 27, 28, 29, 30, 31, 32, 33, 34, 35, 36, 37, 38, 39, 40, 41, 42, 43, 44, 45, 46, 47, 48, 49, 50, 51, 52, 53, 69, 70, 71, 72, 73, 74, 75, 76, 77, 78, 79, 56, 57, 58, 59, 60, 61, 62, 581, 582, 583, 584, 585, 586, 587, 588, 589, 590, 591, 592, 593, 594, 595, 596, 597, 598, 599, 600, 601, 602, 603] (by decide +kernel) (by decide +kernel)
set_option maxRecDepth 20000 in
theorem gL_act_X6_ofPage : GoodIn wsL_act (wsV RL 43 RX6 yX6_ofPage wsX6_ofPage) := goodIn_app (goodIn_of _ (by decide +kernel)) ggL_act_X6_ofPage
set_option maxRecDepth 20000 in
theorem gc_L_act_L_changed_1 : GoodIn wsL_act wsL_changed_r1 := goodIn_r _ [83, 6, 7, 8, 9, 10, 11, 12, 13, 14, 15, 16, 17, 18, 19, 20, 21, 22, 23, 24, 25, 26, 27, 28] (by decide +kernel) (by decide +kernel)
set_option maxRecDepth 20000 in
theorem gc_L_act_L_changed_2 : GoodIn wsL_act wsL_changed_r2 := goodIn_r _ [29, 30, 31, 32, 33, 34, 35, 36, 37, 38, 39, 40, 41, 42, 43, 44, 45, 46, 47, 48, 49, 50, 51, 52] (by decide +kernel) (by decide +kernel)
set_option maxRecDepth 20000 in
theorem gc_L_act_L_changed_3 : GoodIn wsL_act wsL_changed_r3 := goodIn_r _ [53, 54, 55, 56, 57, 58, 59, 60, 61, 62, 84, 85, 86, 87, 88, 89, 90, 91, 92, 93, 94, 95, 96, 97] (by decide +kernel) (by decide +kernel)
set_option maxRecDepth 20000 in
theorem gc_L_act_L_changed_4_0 : GoodIn wsL_act [Cond.methodLink RL 53 yX6_leads] := goodIn_r _ [98] (by decide +kernel) (by decide +kernel)
set_option maxRecDepth 20000 in
theorem gc_L_act_L_changed_4_1 : GoodIn wsL_act [Cond.instanceMethod yX6_leads] := goodIn_r _ [99] (by decide +kernel) (by decide +kernel)
set_option maxRecDepth 20000 in
theorem gc_L_act_L_changed_4_2 : GoodIn wsL_act [Cond.selects RX6 yX6_leads yX6_leads] := goodIn_r _ [100] (by decide +kernel) (by decide +kernel)
set_option maxRecDepth 20000 in
theorem gc_L_act_L_changed_4_3 : GoodIn wsL_act [Cond.code yX6_leads cX6_leads 3 (some .int)] := goodIn_r _ [101] (by decide +kernel) (by decide +kernel)
set_option maxRecDepth 20000 in
theorem gc_L_act_L_changed_4_4 : GoodIn wsL_act [Cond.methodLink RX6 157 yX6_isDoor] := goodIn_r _ [102] (by decide +kernel) (by decide +kernel)
set_option maxRecDepth 20000 in
theorem gc_L_act_L_changed_4_5 : GoodIn wsL_act [Cond.static yX6_isDoor] := goodIn_r _ [103] (by decide +kernel) (by decide +kernel)
set_option maxRecDepth 20000 in
theorem gc_L_act_L_changed_4_6 : GoodIn wsL_act [Cond.code yX6_isDoor cX6_isDoor 2 (some .boolean)] := goodIn_r _ [104] (by decide +kernel) (by decide +kernel)
set_option maxRecDepth 20000 in
theorem gc_L_act_L_changed_4_7 : GoodIn wsL_act [Cond.methodLink RX6 161 yX2_ledBy] := goodIn_r _ [105] (by decide +kernel) (by decide +kernel)
set_option maxRecDepth 20000 in
theorem gc_L_act_L_changed_4_8 : GoodIn wsL_act [Cond.instanceMethod yX2_ledBy] := goodIn_r _ [106] (by decide +kernel) (by decide +kernel)
set_option maxRecDepth 20000 in
theorem gc_L_act_L_changed_4_9 : GoodIn wsL_act [Cond.selects RX2 yX2_ledBy yX2_ledBy] := goodIn_r _ [107] (by decide +kernel) (by decide +kernel)
set_option maxRecDepth 20000 in
theorem gc_L_act_L_changed_4_10 : GoodIn wsL_act [Cond.code yX2_ledBy cX2_ledBy 3 (some .int)] := goodIn_r _ [108] (by decide +kernel) (by decide +kernel)
set_option maxRecDepth 20000 in
theorem gc_L_act_L_changed_4_11 : GoodIn wsL_act [Cond.fieldLink RX2 15 "VisaPages$House" "doors" "[I"] := goodIn_r _ [109] (by decide +kernel) (by decide +kernel)
set_option maxRecDepth 20000 in
theorem gc_L_act_L_changed_4_12 : GoodIn wsL_act [Cond.methodLink RL 84 yL_good] := goodIn_r _ [110] (by decide +kernel) (by decide +kernel)
set_option maxRecDepth 20000 in
theorem gc_L_act_L_changed_4_13 : GoodIn wsL_act [Cond.static yL_good] := goodIn_r _ [111] (by decide +kernel) (by decide +kernel)
set_option maxRecDepth 20000 in
theorem gc_L_act_L_changed_4_14 : GoodIn wsL_act [Cond.initialized RL] := goodIn_r _ [3] (by decide +kernel) (by decide +kernel)
set_option maxRecDepth 20000 in
theorem gc_L_act_L_changed_4_15 : GoodIn wsL_act [Cond.code yL_good cL_good 3 (some .boolean)] := goodIn_r _ [112] rfl (by decide +kernel)
set_option maxRecDepth 20000 in
theorem gc_L_act_L_changed_4_16 : GoodIn wsL_act [Cond.methodLink RL 50 yX6_ofStamp] := goodIn_r _ [113] (by decide +kernel) (by decide +kernel)
set_option maxRecDepth 20000 in
theorem gc_L_act_L_changed_4_17 : GoodIn wsL_act [Cond.instanceMethod yX6_ofStamp] := goodIn_r _ [114] (by decide +kernel) (by decide +kernel)
set_option maxRecDepth 20000 in
theorem gc_L_act_L_changed_4_18 : GoodIn wsL_act [Cond.selects RX6 yX6_ofStamp yX6_ofStamp] := goodIn_r _ [115] (by decide +kernel) (by decide +kernel)
set_option maxRecDepth 20000 in
theorem gc_L_act_L_changed_4_19 : GoodIn wsL_act [Cond.code yX6_ofStamp cX6_ofStamp 4 (some .int)] := goodIn_r _ [116] (by decide +kernel) (by decide +kernel)
set_option maxRecDepth 20000 in
theorem gc_L_act_L_changed_4_20 : GoodIn wsL_act [Cond.fieldLink RX6 125 "VisaPages$Stamps" "page" "[I"] := goodIn_r _ [117] (by decide +kernel) (by decide +kernel)
set_option maxRecDepth 20000 in
theorem gc_L_act_L_changed_4_21 : GoodIn wsL_act [Cond.fieldLink RX6 128 "VisaPages$Stamps" "giver" "[I"] := goodIn_r _ [118] (by decide +kernel) (by decide +kernel)
set_option maxRecDepth 20000 in
theorem gc_L_act_L_changed_4_22 : GoodIn wsL_act [Cond.fieldLink RX6 131 "VisaPages$Stamps" "holder" "[I"] := goodIn_r _ [119] (by decide +kernel) (by decide +kernel)
set_option maxRecDepth 20000 in
theorem gc_L_act_L_changed_4_23 : GoodIn wsL_act [Cond.fieldLink RX6 134 "VisaPages$Stamps" "rights" "[I"] := goodIn_r _ [120] (by decide +kernel) (by decide +kernel)
theorem gc_L_act_L_changed_4 : GoodIn wsL_act wsL_changed_r4 := good_cons gc_L_act_L_changed_4_0 (good_cons gc_L_act_L_changed_4_1 (good_cons gc_L_act_L_changed_4_2 (good_cons gc_L_act_L_changed_4_3 (good_cons gc_L_act_L_changed_4_4 (good_cons gc_L_act_L_changed_4_5 (good_cons gc_L_act_L_changed_4_6 (good_cons gc_L_act_L_changed_4_7 (good_cons gc_L_act_L_changed_4_8 (good_cons gc_L_act_L_changed_4_9 (good_cons gc_L_act_L_changed_4_10 (good_cons gc_L_act_L_changed_4_11 (good_cons gc_L_act_L_changed_4_12 (good_cons gc_L_act_L_changed_4_13 (good_cons gc_L_act_L_changed_4_14 (good_cons gc_L_act_L_changed_4_15 (good_cons gc_L_act_L_changed_4_16 (good_cons gc_L_act_L_changed_4_17 (good_cons gc_L_act_L_changed_4_18 (good_cons gc_L_act_L_changed_4_19 (good_cons gc_L_act_L_changed_4_20 (good_cons gc_L_act_L_changed_4_21 (good_cons gc_L_act_L_changed_4_22 (good_cons gc_L_act_L_changed_4_23 (fun _ h => absurd h List.not_mem_nil))))))))))))))))))))))))
set_option maxRecDepth 20000 in
theorem gc_L_act_L_changed_5_0 : GoodIn wsL_act [Cond.fieldLink RX6 137 "VisaPages$Stamps" "root" "[I"] := goodIn_r _ [121] (by decide +kernel) (by decide +kernel)
set_option maxRecDepth 20000 in
theorem gc_L_act_L_changed_5_1 : GoodIn wsL_act [Cond.fieldLink RX6 140 "VisaPages$Stamps" "forged" "J"] := goodIn_r _ [122] (by decide +kernel) (by decide +kernel)
set_option maxRecDepth 20000 in
theorem gc_L_act_L_changed_5_2 : GoodIn wsL_act [Cond.fieldLink RX6 148 "VisaPages$Stamps" "taken" "J"] := goodIn_r _ [123] (by decide +kernel) (by decide +kernel)
set_option maxRecDepth 20000 in
theorem gc_L_act_L_changed_5_3 : GoodIn wsL_act [Cond.methodLink RX6 122 yX4_has] := goodIn_r _ [124] (by decide +kernel) (by decide +kernel)
set_option maxRecDepth 20000 in
theorem gc_L_act_L_changed_5_4 : GoodIn wsL_act [Cond.methodLink RX6 144 yX6_isIn] := goodIn_r _ [125] (by decide +kernel) (by decide +kernel)
set_option maxRecDepth 20000 in
theorem gc_L_act_L_changed_5_5 : GoodIn wsL_act [Cond.methodLink RX6 151 yX4_chainLength] := goodIn_r _ [126] (by decide +kernel) (by decide +kernel)
set_option maxRecDepth 20000 in
theorem gc_L_act_L_changed_5_6 : GoodIn wsL_act [Cond.instanceMethod yX4_chainLength] := goodIn_r _ [127] (by decide +kernel) (by decide +kernel)
set_option maxRecDepth 20000 in
theorem gc_L_act_L_changed_5_7 : GoodIn wsL_act [Cond.selects RX4 yX4_chainLength yX4_chainLength] := goodIn_r _ [128] (by decide +kernel) (by decide +kernel)
set_option maxRecDepth 20000 in
theorem gc_L_act_L_changed_5_8 : GoodIn wsL_act [Cond.code yX4_chainLength cX4_chainLength 4 (some .int)] := goodIn_r _ [129] (by decide +kernel) (by decide +kernel)
set_option maxRecDepth 20000 in
theorem gc_L_act_L_changed_5_9 : GoodIn wsL_act [Cond.fieldLink RX4 24 "VisaPages$Stamps" "root" "[I"] := goodIn_r _ [130] (by decide +kernel) (by decide +kernel)
set_option maxRecDepth 20000 in
theorem gc_L_act_L_changed_5_10 : GoodIn wsL_act [Cond.methodLink RX4 48 yX4_has] := goodIn_r _ [131] (by decide +kernel) (by decide +kernel)
set_option maxRecDepth 20000 in
theorem gc_L_act_L_changed_5_11 : GoodIn wsL_act [Cond.methodLink RX6 154 yX4_countBelow] := goodIn_r _ [132] (by decide +kernel) (by decide +kernel)
set_option maxRecDepth 20000 in
theorem gc_L_act_L_changed_5_12 : GoodIn wsL_act [Cond.instanceMethod yX4_countBelow] := goodIn_r _ [133] (by decide +kernel) (by decide +kernel)
set_option maxRecDepth 20000 in
theorem gc_L_act_L_changed_5_13 : GoodIn wsL_act [Cond.selects RX4 yX4_countBelow yX4_countBelow] := goodIn_r _ [134] (by decide +kernel) (by decide +kernel)
set_option maxRecDepth 20000 in
theorem gc_L_act_L_changed_5_14 : GoodIn wsL_act [Cond.code yX4_countBelow cX4_countBelow 5 (some .int)] := goodIn_r _ [135] (by decide +kernel) (by decide +kernel)
set_option maxRecDepth 20000 in
theorem gc_L_act_L_changed_5_15 : GoodIn wsL_act [Cond.methodLink RX4 56 yJ13_bitCount_95d88] := goodIn_r _ [136] (by decide +kernel) (by decide +kernel)
set_option maxRecDepth 20000 in
theorem gc_L_act_L_changed_5_16 : GoodIn wsL_act [Cond.methodLink RL 62 yL_based] := goodIn_r _ [137] (by decide +kernel) (by decide +kernel)
set_option maxRecDepth 20000 in
theorem gc_L_act_L_changed_5_17 : GoodIn wsL_act [Cond.static yL_based] := goodIn_r _ [138] (by decide +kernel) (by decide +kernel)
set_option maxRecDepth 20000 in
theorem gc_L_act_L_changed_5_18 : GoodIn wsL_act [Cond.code yL_based cL_based 4 (some .boolean)] := goodIn_r _ [139] rfl (by decide +kernel)
set_option maxRecDepth 20000 in
theorem gc_L_act_L_changed_5_19 : GoodIn wsL_act [Cond.methodLink RL 43 yX6_ofPage] := goodIn_r _ [63] (by decide +kernel) (by decide +kernel)
set_option maxRecDepth 20000 in
theorem gc_L_act_L_changed_5_20 : GoodIn wsL_act [Cond.instanceMethod yX6_ofPage] := goodIn_r _ [64] (by decide +kernel) (by decide +kernel)
set_option maxRecDepth 20000 in
theorem gc_L_act_L_changed_5_21 : GoodIn wsL_act [Cond.selects RX6 yX6_ofPage yX6_ofPage] := goodIn_r _ [65] (by decide +kernel) (by decide +kernel)
set_option maxRecDepth 20000 in
theorem gc_L_act_L_changed_5_22 : GoodIn wsL_act [Cond.code yX6_ofPage cX6_ofPage 3 (some .int)] := goodIn_r _ [66] (by decide +kernel) (by decide +kernel)
set_option maxRecDepth 20000 in
theorem gc_L_act_L_changed_5_23 : GoodIn wsL_act [Cond.fieldLink RX6 95 "VisaPages$House" "owners" "[I"] := goodIn_r _ [67] (by decide +kernel) (by decide +kernel)
theorem gc_L_act_L_changed_5 : GoodIn wsL_act wsL_changed_r5 := good_cons gc_L_act_L_changed_5_0 (good_cons gc_L_act_L_changed_5_1 (good_cons gc_L_act_L_changed_5_2 (good_cons gc_L_act_L_changed_5_3 (good_cons gc_L_act_L_changed_5_4 (good_cons gc_L_act_L_changed_5_5 (good_cons gc_L_act_L_changed_5_6 (good_cons gc_L_act_L_changed_5_7 (good_cons gc_L_act_L_changed_5_8 (good_cons gc_L_act_L_changed_5_9 (good_cons gc_L_act_L_changed_5_10 (good_cons gc_L_act_L_changed_5_11 (good_cons gc_L_act_L_changed_5_12 (good_cons gc_L_act_L_changed_5_13 (good_cons gc_L_act_L_changed_5_14 (good_cons gc_L_act_L_changed_5_15 (good_cons gc_L_act_L_changed_5_16 (good_cons gc_L_act_L_changed_5_17 (good_cons gc_L_act_L_changed_5_18 (good_cons gc_L_act_L_changed_5_19 (good_cons gc_L_act_L_changed_5_20 (good_cons gc_L_act_L_changed_5_21 (good_cons gc_L_act_L_changed_5_22 (good_cons gc_L_act_L_changed_5_23 (fun _ h => absurd h List.not_mem_nil))))))))))))))))))))))))
set_option maxRecDepth 20000 in
theorem gc_L_act_L_changed_6 : GoodIn wsL_act wsL_changed_r6 := goodIn_r _ [68, 69, 70, 71, 72, 73, 74, 75, 76, 77, 78, 79, 140, 141, 142, 143, 144, 145, 146, 147, 148, 149, 150, 151] (by decide +kernel) (by decide +kernel)
set_option maxRecDepth 20000 in
theorem gc_L_act_L_changed_7 : GoodIn wsL_act wsL_changed_r7 := goodIn_r _ [152, 153, 154, 155, 156, 157, 158, 159, 160, 161, 162, 163, 164, 165, 166, 167, 168, 169, 170, 171, 172, 173, 174, 175] (by decide +kernel) (by decide +kernel)
set_option maxRecDepth 20000 in
theorem gc_L_act_L_changed_8 : GoodIn wsL_act wsL_changed_r8 := goodIn_r _ [176, 177, 178, 179, 180, 181, 182, 183, 184, 185, 186, 187, 188, 189, 190, 191, 192, 193, 194, 195, 196, 197, 198, 199] (by decide +kernel) (by decide +kernel)
set_option maxRecDepth 20000 in
theorem gc_L_act_L_changed_9 : GoodIn wsL_act wsL_changed_r9 := goodIn_r _ [200, 201, 202, 203, 204, 205, 206, 207, 208, 209, 210, 211, 212, 213, 214, 215, 216, 217, 218, 219, 220, 221, 222, 223] (by decide +kernel) (by decide +kernel)
set_option maxRecDepth 20000 in
theorem gc_L_act_L_changed_10 : GoodIn wsL_act wsL_changed_r10 := goodIn_r _ [224, 225, 226, 227, 228, 229, 230, 231, 232, 233, 234, 235, 236, 237, 238, 239, 240, 241, 242, 243, 244, 245, 246, 247] (by decide +kernel) (by decide +kernel)
set_option maxRecDepth 20000 in
theorem gc_L_act_L_changed_11 : GoodIn wsL_act wsL_changed_r11 := goodIn_r _ [248, 249, 250, 251, 252, 253, 254, 255, 256, 257, 258, 259, 260, 261, 262, 263, 264] (by decide +kernel) (by decide +kernel)
set_option maxRecDepth 20000 in
theorem gc_L_act_L_changed_h : GoodIn wsL_act [.code yL_changed cL_changed 15 (some .boolean)] := goodIn_r _ [82] rfl (by decide +kernel)
set_option maxRecDepth 20000 in
theorem gc_L_act_L_changed_x6 : GoodIn wsL_act wsX60 := goodIn_r _ [581, 582, 583, 584, 585] (by decide +kernel) (by decide +kernel)
set_option maxRecDepth 20000 in
theorem gc_L_act_L_changed_x2 : GoodIn wsL_act wsX20 := goodIn_r _ [586, 587, 588, 589, 590, 591, 592, 593, 594, 595] (by decide +kernel) (by decide +kernel)
set_option maxRecDepth 20000 in
theorem gc_L_act_L_changed_x4 : GoodIn wsL_act wsX40 := goodIn_r _ [596, 597, 598, 599, 600, 601, 602, 603] (by decide +kernel) (by decide +kernel)
set_option maxRecDepth 20000 in
theorem gc_L_act_L_changed_x0 : GoodIn wsL_act wsX00 := goodIn_r _ [604, 605, 606, 607, 608, 609, 610] (by decide +kernel) (by decide +kernel)
set_option maxRecDepth 20000 in
theorem gc_L_act_L_changed_x3 : GoodIn wsL_act wsX30 := goodIn_r _ [611, 612, 613, 614, 615, 616] (by decide +kernel) (by decide +kernel)
set_option maxRecDepth 20000 in
theorem gc_L_act_L_changed_x1 : GoodIn wsL_act wsX10 := goodIn_r _ [617, 618] (by decide +kernel) (by decide +kernel)
theorem ggL_act_L_changed : GoodIn wsL_act wsL_changed := good_cons gc_L_act_L_changed_h (good_app (good_app (good_app (good_app (good_app (good_app (good_app gc_L_act_L_changed_1 (good_app gc_L_act_L_changed_2 (good_app gc_L_act_L_changed_3 (good_app gc_L_act_L_changed_4 (good_app gc_L_act_L_changed_5 (good_app gc_L_act_L_changed_6 (good_app gc_L_act_L_changed_7 (good_app gc_L_act_L_changed_8 (good_app gc_L_act_L_changed_9 (good_app gc_L_act_L_changed_10 (gc_L_act_L_changed_11))))))))))) gc_L_act_L_changed_x6) gc_L_act_L_changed_x2) gc_L_act_L_changed_x4) gc_L_act_L_changed_x0) gc_L_act_L_changed_x3) gc_L_act_L_changed_x1)
