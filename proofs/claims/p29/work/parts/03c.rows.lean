set_option maxRecDepth 20000 in
theorem ggX6_door_X1_keepUnlessError : GoodIn wsX6_door wsX1_keepUnlessError := goodIn_r _ [113, 114, 115, 116, 6, 117, 9, 8, 123, 124] (by decide +kernel) (by decide +kernel)
set_option maxRecDepth 20000 in
theorem gX6_door_X1_keepUnlessError : GoodIn wsX6_door (wsV RX6 49 RX1 yX1_keepUnlessError wsX1_keepUnlessError) := goodIn_app (goodIn_of _ (by decide +kernel)) ggX6_door_X1_keepUnlessError
theorem dX6_door_0 : decode cX6_door 0 = .ok (.aload_n 0, 1) := by decide +kernel
theorem dX6_door_1 : decode cX6_door 1 = .ok (.getfield 33, 3) := by decide +kernel
theorem dX6_door_4 : decode cX6_door 4 = .ok (.aload_n 0, 1) := by decide +kernel
theorem dX6_door_5 : decode cX6_door 5 = .ok (.getfield 12, 3) := by decide +kernel
theorem dX6_door_8 : decode cX6_door 8 = .ok (.invokevirtual 41, 3) := by decide +kernel
theorem dX6_door_11 : decode cX6_door 11 = .ok (.aload_n 0, 1) := by decide +kernel
theorem dX6_door_12 : decode cX6_door 12 = .ok (.getfield 33, 3) := by decide +kernel
theorem dX6_door_15 : decode cX6_door 15 = .ok (.aload_n 0, 1) := by decide +kernel
theorem dX6_door_16 : decode cX6_door 16 = .ok (.getfield 12, 3) := by decide +kernel
theorem dX6_door_19 : decode cX6_door 19 = .ok (.iload_n 1, 1) := by decide +kernel
theorem dX6_door_20 : decode cX6_door 20 = .ok (.iload_n 2, 1) := by decide +kernel
theorem dX6_door_21 : decode cX6_door 21 = .ok (.iload_n 3, 1) := by decide +kernel
theorem dX6_door_22 : decode cX6_door 22 = .ok (.invokevirtual 71, 3) := by decide +kernel
theorem dX6_door_25 : decode cX6_door 25 = .ok (.invokevirtual 49, 3) := by decide +kernel
theorem dX6_door_28 : decode cX6_door 28 = .ok (.ireturn, 1) := by decide +kernel
set_option maxRecDepth 20000 in
theorem ggX6_come_X1_remember : GoodIn wsX6_come wsX1_remember := goodIn_r _ [8, 9, 10, 11, 12, 13, 14, 15, 16, 17, 18, 19, 20, 21, 22, 23, 24, 25, 26, 27, 28, 29, 30, 31, 32, 33, 34, 35, 36, 37, 38, 39, 40, 41, 42, 43, 44, 45, 46, 47, 48, 49, 50, 51, 52, 53, 54, 55, 56, 57, 58, 59, 60, 61, 62, 63, 64, 65, 66, 67, 68, 69, 70, 71, 72, 73, 74, 75, 76, 77, 78, 79, 80, 81, 82, 83, 84, 85, 194, 195, 196, 197, 198, 199, 200, 201, 202, 203, 204, 205, 206, 207, 208, 209, 210, 211, 212, 213, 214, 215, 216, 217, 218, 219, 220] (by decide +kernel) (by decide +kernel)
set_option maxRecDepth 20000 in
theorem gX6_come_X1_remember : GoodIn wsX6_come (wsV RX6 41 RX1 yX1_remember wsX1_remember) := goodIn_app (goodIn_of _ (by decide +kernel)) ggX6_come_X1_remember
set_option maxRecDepth 20000 in
theorem ggX6_come_X2_visit : GoodIn wsX6_come wsX2_visit := goodIn_r _ [89, 67, 38, 69, 90, 30, 91, 92, 93, 94, 95, 96, 97, 98, 99, 13, 100, 66, 29, 101, 102, 103, 37, 104, 83, 105, 106, 107, 108, 84, 109, 110, 111, 112, 50, 51, 52, 53, 113, 114, 115, 116, 117, 118, 119, 120, 121, 122, 123, 124, 125, 126, 68, 127, 128, 129, 130, 131, 132, 133, 134, 135, 136, 137, 138, 139, 140, 141, 142, 143, 144, 145, 146, 147, 22, 148, 149, 150, 33, 151, 77, 152, 153, 154, 155, 156, 157, 158, 159, 160, 161, 162, 34, 163, 164, 165, 21, 166, 167, 168, 169, 170, 171, 172, 173, 174, 175, 176, 177, 178, 179, 85, 180, 196, 197, 198, 199, 200, 201, 202, 203, 204, 205, 221, 222, 214, 215, 216, 217, 218, 219, 220, 206, 207, 208, 209, 210, 211, 212, 213] (by decide +kernel) (by decide +kernel)
set_option maxRecDepth 20000 in
theorem gX6_come_X2_visit : GoodIn wsX6_come (wsV RX6 74 RX2 yX2_visit wsX2_visit) := goodIn_app (goodIn_of _ (by decide +kernel)) ggX6_come_X2_visit
set_option maxRecDepth 20000 in
theorem ggX6_come_X1_keepUnlessError : GoodIn wsX6_come wsX1_keepUnlessError := goodIn_r _ [184, 185, 186, 187, 7, 188, 10, 9, 194, 195] (by decide +kernel) (by decide +kernel)
set_option maxRecDepth 20000 in
theorem gX6_come_X1_keepUnlessError : GoodIn wsX6_come (wsV RX6 49 RX1 yX1_keepUnlessError wsX1_keepUnlessError) := goodIn_app (goodIn_of _ (by decide +kernel)) ggX6_come_X1_keepUnlessError
theorem dX6_come_0 : decode cX6_come 0 = .ok (.aload_n 0, 1) := by decide +kernel
theorem dX6_come_1 : decode cX6_come 1 = .ok (.getfield 33, 3) := by decide +kernel
theorem dX6_come_4 : decode cX6_come 4 = .ok (.aload_n 0, 1) := by decide +kernel
theorem dX6_come_5 : decode cX6_come 5 = .ok (.getfield 12, 3) := by decide +kernel
theorem dX6_come_8 : decode cX6_come 8 = .ok (.invokevirtual 41, 3) := by decide +kernel
theorem dX6_come_11 : decode cX6_come 11 = .ok (.aload_n 0, 1) := by decide +kernel
theorem dX6_come_12 : decode cX6_come 12 = .ok (.getfield 33, 3) := by decide +kernel
theorem dX6_come_15 : decode cX6_come 15 = .ok (.aload_n 0, 1) := by decide +kernel
theorem dX6_come_16 : decode cX6_come 16 = .ok (.getfield 12, 3) := by decide +kernel
theorem dX6_come_19 : decode cX6_come 19 = .ok (.iload_n 1, 1) := by decide +kernel
theorem dX6_come_20 : decode cX6_come 20 = .ok (.iload_n 2, 1) := by decide +kernel
theorem dX6_come_21 : decode cX6_come 21 = .ok (.iload_n 3, 1) := by decide +kernel
theorem dX6_come_22 : decode cX6_come 22 = .ok (.aload_n 0, 1) := by decide +kernel
theorem dX6_come_23 : decode cX6_come 23 = .ok (.getfield 19, 3) := by decide +kernel
theorem dX6_come_26 : decode cX6_come 26 = .ok (.invokevirtual 74, 3) := by decide +kernel
theorem dX6_come_29 : decode cX6_come 29 = .ok (.invokevirtual 49, 3) := by decide +kernel
theorem dX6_come_32 : decode cX6_come 32 = .ok (.ireturn, 1) := by decide +kernel
set_option maxRecDepth 20000 in
theorem ggX6_flush_X1_remember : GoodIn wsX6_flush wsX1_remember := goodIn_r _ [8, 9, 10, 11, 12, 13, 14, 15, 16, 17, 18, 19, 20, 21, 22, 23, 24, 25, 26, 27, 28, 29, 30, 31, 32, 33, 34, 35, 36, 37, 38, 39, 40, 41, 42, 43, 44, 45, 46, 47, 48, 49, 50, 51, 52, 53, 54, 55, 56, 57, 58, 59, 60, 61, 62, 63, 64, 65, 66, 67, 68, 69, 70, 71, 72, 73, 74, 75, 76, 77, 78, 79, 80, 81, 82, 83, 84, 85, 124, 125, 114, 115, 116, 117, 118, 119, 120, 121, 122, 123, 126, 127, 128, 129, 130, 131, 132, 133, 134, 135, 136, 137, 138, 139, 140] (by decide +kernel) (by decide +kernel)
set_option maxRecDepth 20000 in
theorem gX6_flush_X1_remember : GoodIn wsX6_flush (wsV RX6 41 RX1 yX1_remember wsX1_remember) := goodIn_app (goodIn_of _ (by decide +kernel)) ggX6_flush_X1_remember
set_option maxRecDepth 20000 in
theorem ggX6_flush_X0_allNotes : GoodIn wsX6_flush wsX0_allNotes := goodIn_r _ [89, 83, 134, 135, 136, 137, 138, 139, 140] (by decide +kernel) (by decide +kernel)
set_option maxRecDepth 20000 in
theorem gX6_flush_X0_allNotes : GoodIn wsX6_flush (wsV RX6 82 RX0 yX0_allNotes wsX0_allNotes) := goodIn_app (goodIn_of _ (by decide +kernel)) ggX6_flush_X0_allNotes
set_option maxRecDepth 20000 in
theorem ggX6_flush_X0_wipeThese : GoodIn wsX6_flush wsX0_wipeThese := goodIn_r _ [93, 84, 94, 95, 96, 37, 97, 83, 50, 51, 52, 53, 98, 99, 100, 134, 135, 136, 137, 138, 139, 140] (by decide +kernel) (by decide +kernel)
set_option maxRecDepth 20000 in
theorem gX6_flush_X0_wipeThese : GoodIn wsX6_flush (wsV RX6 88 RX0 yX0_wipeThese wsX0_wipeThese) := goodIn_app (goodIn_of _ (by decide +kernel)) ggX6_flush_X0_wipeThese
set_option maxRecDepth 20000 in
theorem ggX6_flush_X1_keepUnlessError : GoodIn wsX6_flush wsX1_keepUnlessError := goodIn_r _ [104, 105, 106, 107, 7, 108, 10, 9, 124, 125] (by decide +kernel) (by decide +kernel)
set_option maxRecDepth 20000 in
theorem gX6_flush_X1_keepUnlessError : GoodIn wsX6_flush (wsV RX6 49 RX1 yX1_keepUnlessError wsX1_keepUnlessError) := goodIn_app (goodIn_of _ (by decide +kernel)) ggX6_flush_X1_keepUnlessError
theorem dX6_flush_0 : decode cX6_flush 0 = .ok (.aload_n 0, 1) := by decide +kernel
theorem dX6_flush_1 : decode cX6_flush 1 = .ok (.getfield 33, 3) := by decide +kernel
theorem dX6_flush_4 : decode cX6_flush 4 = .ok (.aload_n 0, 1) := by decide +kernel
theorem dX6_flush_5 : decode cX6_flush 5 = .ok (.getfield 12, 3) := by decide +kernel
theorem dX6_flush_8 : decode cX6_flush 8 = .ok (.invokevirtual 41, 3) := by decide +kernel
theorem dX6_flush_11 : decode cX6_flush 11 = .ok (.aload_n 0, 1) := by decide +kernel
theorem dX6_flush_12 : decode cX6_flush 12 = .ok (.getfield 33, 3) := by decide +kernel
theorem dX6_flush_15 : decode cX6_flush 15 = .ok (.aload_n 0, 1) := by decide +kernel
theorem dX6_flush_16 : decode cX6_flush 16 = .ok (.getfield 12, 3) := by decide +kernel
theorem dX6_flush_19 : decode cX6_flush 19 = .ok (.getfield 78, 3) := by decide +kernel
theorem dX6_flush_22 : decode cX6_flush 22 = .ok (.aload_n 0, 1) := by decide +kernel
theorem dX6_flush_23 : decode cX6_flush 23 = .ok (.getfield 12, 3) := by decide +kernel
theorem dX6_flush_26 : decode cX6_flush 26 = .ok (.getfield 78, 3) := by decide +kernel
theorem dX6_flush_29 : decode cX6_flush 29 = .ok (.invokevirtual 82, 3) := by decide +kernel
theorem dX6_flush_32 : decode cX6_flush 32 = .ok (.invokevirtual 88, 3) := by decide +kernel
theorem dX6_flush_35 : decode cX6_flush 35 = .ok (.invokevirtual 49, 3) := by decide +kernel
theorem dX6_flush_38 : decode cX6_flush 38 = .ok (.ireturn, 1) := by decide +kernel
set_option maxRecDepth 20000 in
theorem ggX6_ofPage_X6_isPage : GoodIn wsX6_ofPage wsX6_isPage := goodIn_r _ [7] (by decide +kernel) (by decide +kernel)
set_option maxRecDepth 20000 in
theorem gX6_ofPage_X6_isPage : GoodIn wsX6_ofPage (va_wsS RX6 91 yX6_isPage wsX6_isPage) := goodIn_app (goodIn_of _ (by decide +kernel)) ggX6_ofPage_X6_isPage
set_option maxRecDepth 20000 in
theorem ggX6_ofPage_X2_goodStamps : GoodIn wsX6_ofPage wsX2_goodStamps := goodIn_r _ [12, 13, 14, 15, 16, 17, 18, 6, 19, 20, 21, 22, 11, 23, 24, 25, 26, 27, 28, 29, 30, 31, 32, 33, 34, 5, 7, 58, 59, 60, 61, 62, 63, 64, 65, 66, 67, 68, 69, 70, 71, 72, 73, 74, 75] (by decide +kernel) (by decide +kernel)
set_option maxRecDepth 20000 in
theorem gX6_ofPage_X2_goodStamps : GoodIn wsX6_ofPage (wsV RX6 99 RX2 yX2_goodStamps wsX2_goodStamps) := goodIn_app (goodIn_of _ (by decide +kernel)) ggX6_ofPage_X2_goodStamps
set_option maxRecDepth 20000 in
theorem ggX6_ofPage_X2_guestsWith : GoodIn wsX6_ofPage wsX2_guestsWith := goodIn_r _ [38, 26, 13, 14, 24, 27, 28, 5, 6, 7, 39, 40, 18, 19, 58, 59, 60, 61, 62, 63, 64, 65, 66, 67, 68, 69, 70, 71, 72, 73, 74, 75] (by decide +kernel) (by decide +kernel)
set_option maxRecDepth 20000 in
theorem gX6_ofPage_X2_guestsWith : GoodIn wsX6_ofPage (wsV RX6 103 RX2 yX2_guestsWith wsX2_guestsWith) := goodIn_app (goodIn_of _ (by decide +kernel)) ggX6_ofPage_X2_guestsWith
set_option maxRecDepth 20000 in
theorem ggX6_ofPage_X4_ofOnePage : GoodIn wsX6_ofPage wsX4_ofOnePage := goodIn_r _ [44, 34, 45, 68, 69, 70, 71, 72, 73, 74, 75] (by decide +kernel) (by decide +kernel)
set_option maxRecDepth 20000 in
theorem gX6_ofPage_X4_ofOnePage : GoodIn wsX6_ofPage (wsV RX6 111 RX4 yX4_ofOnePage wsX4_ofOnePage) := goodIn_app (goodIn_of _ (by decide +kernel)) ggX6_ofPage_X4_ofOnePage
set_option maxRecDepth 20000 in
theorem ggX6_ofPage_J13_bitCount_95d88 : GoodIn wsX6_ofPage wsJ13_bitCount_95d88 := goodIn_r _ [49, 50, 51, 52] (by decide +kernel) (by decide +kernel)
set_option maxRecDepth 20000 in
theorem gX6_ofPage_J13_bitCount_95d88 : GoodIn wsX6_ofPage (va_wsS RX6 116 yJ13_bitCount_95d88 wsJ13_bitCount_95d88) := goodIn_app (goodIn_of _ (by decide +kernel)) ggX6_ofPage_J13_bitCount_95d88
theorem dX6_ofPage_0 : decode cX6_ofPage 0 = .ok (.iload_n 1, 1) := by decide +kernel
theorem dX6_ofPage_1 : decode cX6_ofPage 1 = .ok (.invokestatic 91, 3) := by decide +kernel
theorem dX6_ofPage_4 : decode cX6_ofPage 4 = .ok (.ifCond .ne 5, 3) := by decide +kernel
theorem dX6_ofPage_7 : decode cX6_ofPage 7 = .ok (.iconst (-1), 1) := by decide +kernel
theorem dX6_ofPage_8 : decode cX6_ofPage 8 = .ok (.ireturn, 1) := by decide +kernel
theorem dX6_ofPage_9 : decode cX6_ofPage 9 = .ok (.iload_n 2, 1) := by decide +kernel
theorem dX6_ofPage_10 : decode cX6_ofPage 10 = .ok (.tableswitch 103 0 3 #[30, 40, 59, 78], 30) := by decide +kernel
theorem dX6_ofPage_40 : decode cX6_ofPage 40 = .ok (.aload_n 0, 1) := by decide +kernel
theorem dX6_ofPage_41 : decode cX6_ofPage 41 = .ok (.getfield 12, 3) := by decide +kernel
theorem dX6_ofPage_44 : decode cX6_ofPage 44 = .ok (.getfield 95, 3) := by decide +kernel
theorem dX6_ofPage_47 : decode cX6_ofPage 47 = .ok (.iload_n 1, 1) := by decide +kernel
theorem dX6_ofPage_48 : decode cX6_ofPage 48 = .ok (.iaload, 1) := by decide +kernel
theorem dX6_ofPage_49 : decode cX6_ofPage 49 = .ok (.ireturn, 1) := by decide +kernel
theorem dX6_ofPage_50 : decode cX6_ofPage 50 = .ok (.aload_n 0, 1) := by decide +kernel
theorem dX6_ofPage_51 : decode cX6_ofPage 51 = .ok (.getfield 12, 3) := by decide +kernel
theorem dX6_ofPage_54 : decode cX6_ofPage 54 = .ok (.iload_n 1, 1) := by decide +kernel
theorem dX6_ofPage_55 : decode cX6_ofPage 55 = .ok (.iconst 1, 1) := by decide +kernel
theorem dX6_ofPage_56 : decode cX6_ofPage 56 = .ok (.aload_n 0, 1) := by decide +kernel
theorem dX6_ofPage_57 : decode cX6_ofPage 57 = .ok (.getfield 12, 3) := by decide +kernel
theorem dX6_ofPage_60 : decode cX6_ofPage 60 = .ok (.bipush (-6), 2) := by decide +kernel
theorem dX6_ofPage_62 : decode cX6_ofPage 62 = .ok (.invokevirtual 99, 3) := by decide +kernel
theorem dX6_ofPage_65 : decode cX6_ofPage 65 = .ok (.invokevirtual 103, 3) := by decide +kernel
theorem dX6_ofPage_68 : decode cX6_ofPage 68 = .ok (.ireturn, 1) := by decide +kernel
theorem dX6_ofPage_69 : decode cX6_ofPage 69 = .ok (.aload_n 0, 1) := by decide +kernel
theorem dX6_ofPage_70 : decode cX6_ofPage 70 = .ok (.getfield 12, 3) := by decide +kernel
theorem dX6_ofPage_73 : decode cX6_ofPage 73 = .ok (.iload_n 1, 1) := by decide +kernel
theorem dX6_ofPage_74 : decode cX6_ofPage 74 = .ok (.iconst 2, 1) := by decide +kernel
theorem dX6_ofPage_75 : decode cX6_ofPage 75 = .ok (.aload_n 0, 1) := by decide +kernel
theorem dX6_ofPage_76 : decode cX6_ofPage 76 = .ok (.getfield 12, 3) := by decide +kernel
theorem dX6_ofPage_79 : decode cX6_ofPage 79 = .ok (.bipush (-6), 2) := by decide +kernel
theorem dX6_ofPage_81 : decode cX6_ofPage 81 = .ok (.invokevirtual 99, 3) := by decide +kernel
theorem dX6_ofPage_84 : decode cX6_ofPage 84 = .ok (.invokevirtual 103, 3) := by decide +kernel
theorem dX6_ofPage_87 : decode cX6_ofPage 87 = .ok (.ireturn, 1) := by decide +kernel
theorem dX6_ofPage_88 : decode cX6_ofPage 88 = .ok (.aload_n 0, 1) := by decide +kernel
theorem dX6_ofPage_89 : decode cX6_ofPage 89 = .ok (.getfield 12, 3) := by decide +kernel
theorem dX6_ofPage_92 : decode cX6_ofPage 92 = .ok (.bipush (-6), 2) := by decide +kernel
theorem dX6_ofPage_94 : decode cX6_ofPage 94 = .ok (.invokevirtual 99, 3) := by decide +kernel
theorem dX6_ofPage_97 : decode cX6_ofPage 97 = .ok (.aload_n 0, 1) := by decide +kernel
theorem dX6_ofPage_98 : decode cX6_ofPage 98 = .ok (.getfield 12, 3) := by decide +kernel
theorem dX6_ofPage_101 : decode cX6_ofPage 101 = .ok (.getfield 107, 3) := by decide +kernel
theorem dX6_ofPage_104 : decode cX6_ofPage 104 = .ok (.iload_n 1, 1) := by decide +kernel
theorem dX6_ofPage_105 : decode cX6_ofPage 105 = .ok (.invokevirtual 111, 3) := by decide +kernel
theorem dX6_ofPage_108 : decode cX6_ofPage 108 = .ok (.land, 1) := by decide +kernel
theorem dX6_ofPage_109 : decode cX6_ofPage 109 = .ok (.invokestatic 116, 3) := by decide +kernel
theorem dX6_ofPage_112 : decode cX6_ofPage 112 = .ok (.ireturn, 1) := by decide +kernel
theorem dX6_ofPage_113 : decode cX6_ofPage 113 = .ok (.bipush (-2), 2) := by decide +kernel
theorem dX6_ofPage_115 : decode cX6_ofPage 115 = .ok (.ireturn, 1) := by decide +kernel
set_option maxRecDepth 20000 in
theorem ggX6_ofStamp_X4_has : GoodIn wsX6_ofStamp wsX4_has := goodIn_r _ [14, 15, 74, 75, 76, 77, 78, 79, 80, 81] (by decide +kernel) (by decide +kernel)
set_option maxRecDepth 20000 in
theorem gX6_ofStamp_X4_has : GoodIn wsX6_ofStamp (wsV RX6 122 RX4 yX4_has wsX4_has) := goodIn_app (goodIn_of _ (by decide +kernel)) ggX6_ofStamp_X4_has
set_option maxRecDepth 20000 in
theorem ggX6_ofStamp_X6_isIn : GoodIn wsX6_ofStamp wsX6_isIn := goodIn_r _ [19] (by decide +kernel) (by decide +kernel)
set_option maxRecDepth 20000 in
theorem gX6_ofStamp_X6_isIn : GoodIn wsX6_ofStamp (va_wsS RX6 144 yX6_isIn wsX6_isIn) := goodIn_app (goodIn_of _ (by decide +kernel)) ggX6_ofStamp_X6_isIn
set_option maxRecDepth 20000 in
theorem ggX6_ofStamp_X2_goodStamps : GoodIn wsX6_ofStamp wsX2_goodStamps := goodIn_r _ [24, 25, 26, 27, 28, 29, 17, 18, 19, 30, 31, 32, 23, 33, 34, 35, 36, 37, 38, 39, 11, 12, 13, 14, 15, 40, 41, 64, 65, 66, 67, 68, 69, 70, 71, 72, 73, 74, 75, 76, 77, 78, 79, 80, 81] (by decide +kernel) (by decide +kernel)
set_option maxRecDepth 20000 in
theorem gX6_ofStamp_X2_goodStamps : GoodIn wsX6_ofStamp (wsV RX6 99 RX2 yX2_goodStamps wsX2_goodStamps) := goodIn_app (goodIn_of _ (by decide +kernel)) ggX6_ofStamp_X2_goodStamps
set_option maxRecDepth 20000 in
theorem ggX6_ofStamp_X4_chainLength : GoodIn wsX6_ofStamp wsX4_chainLength := goodIn_r _ [45, 46, 47, 11, 12, 13, 14, 15, 74, 75, 76, 77, 78, 79, 80, 81] (by decide +kernel) (by decide +kernel)
set_option maxRecDepth 20000 in
theorem gX6_ofStamp_X4_chainLength : GoodIn wsX6_ofStamp (wsV RX6 151 RX4 yX4_chainLength wsX4_chainLength) := goodIn_app (goodIn_of _ (by decide +kernel)) ggX6_ofStamp_X4_chainLength
set_option maxRecDepth 20000 in
theorem ggX6_ofStamp_X4_countBelow : GoodIn wsX6_ofStamp wsX4_countBelow := goodIn_r _ [51, 15, 46, 47, 11, 12, 13, 14, 17, 18, 19, 52, 53, 54, 55, 56, 57, 58, 74, 75, 76, 77, 78, 79, 80, 81] (by decide +kernel) (by decide +kernel)
set_option maxRecDepth 20000 in
theorem gX6_ofStamp_X4_countBelow : GoodIn wsX6_ofStamp (wsV RX6 154 RX4 yX4_countBelow wsX4_countBelow) := goodIn_app (goodIn_of _ (by decide +kernel)) ggX6_ofStamp_X4_countBelow
theorem dX6_ofStamp_0 : decode cX6_ofStamp 0 = .ok (.aload_n 0, 1) := by decide +kernel
theorem dX6_ofStamp_1 : decode cX6_ofStamp 1 = .ok (.getfield 12, 3) := by decide +kernel
theorem dX6_ofStamp_4 : decode cX6_ofStamp 4 = .ok (.getfield 107, 3) := by decide +kernel
theorem dX6_ofStamp_7 : decode cX6_ofStamp 7 = .ok (.astore_n 3, 1) := by decide +kernel
theorem dX6_ofStamp_8 : decode cX6_ofStamp 8 = .ok (.aload_n 3, 1) := by decide +kernel
theorem dX6_ofStamp_9 : decode cX6_ofStamp 9 = .ok (.iload_n 1, 1) := by decide +kernel
theorem dX6_ofStamp_10 : decode cX6_ofStamp 10 = .ok (.invokevirtual 122, 3) := by decide +kernel
theorem dX6_ofStamp_13 : decode cX6_ofStamp 13 = .ok (.ifCond .ne 5, 3) := by decide +kernel
theorem dX6_ofStamp_16 : decode cX6_ofStamp 16 = .ok (.iconst (-1), 1) := by decide +kernel
theorem dX6_ofStamp_17 : decode cX6_ofStamp 17 = .ok (.ireturn, 1) := by decide +kernel
theorem dX6_ofStamp_18 : decode cX6_ofStamp 18 = .ok (.iload_n 2, 1) := by decide +kernel
theorem dX6_ofStamp_19 : decode cX6_ofStamp 19 = .ok (.tableswitch 156 0 9 #[53, 60, 67, 74, 81, 88, 105, 122, 144, 150], 53) := by decide +kernel
theorem dX6_ofStamp_72 : decode cX6_ofStamp 72 = .ok (.aload_n 3, 1) := by decide +kernel
theorem dX6_ofStamp_73 : decode cX6_ofStamp 73 = .ok (.getfield 125, 3) := by decide +kernel
theorem dX6_ofStamp_76 : decode cX6_ofStamp 76 = .ok (.iload_n 1, 1) := by decide +kernel
theorem dX6_ofStamp_77 : decode cX6_ofStamp 77 = .ok (.iaload, 1) := by decide +kernel
theorem dX6_ofStamp_78 : decode cX6_ofStamp 78 = .ok (.ireturn, 1) := by decide +kernel
theorem dX6_ofStamp_79 : decode cX6_ofStamp 79 = .ok (.aload_n 3, 1) := by decide +kernel
theorem dX6_ofStamp_80 : decode cX6_ofStamp 80 = .ok (.getfield 128, 3) := by decide +kernel
theorem dX6_ofStamp_83 : decode cX6_ofStamp 83 = .ok (.iload_n 1, 1) := by decide +kernel
theorem dX6_ofStamp_84 : decode cX6_ofStamp 84 = .ok (.iaload, 1) := by decide +kernel
theorem dX6_ofStamp_85 : decode cX6_ofStamp 85 = .ok (.ireturn, 1) := by decide +kernel
theorem dX6_ofStamp_86 : decode cX6_ofStamp 86 = .ok (.aload_n 3, 1) := by decide +kernel
theorem dX6_ofStamp_87 : decode cX6_ofStamp 87 = .ok (.getfield 131, 3) := by decide +kernel
theorem dX6_ofStamp_90 : decode cX6_ofStamp 90 = .ok (.iload_n 1, 1) := by decide +kernel
theorem dX6_ofStamp_91 : decode cX6_ofStamp 91 = .ok (.iaload, 1) := by decide +kernel
theorem dX6_ofStamp_92 : decode cX6_ofStamp 92 = .ok (.ireturn, 1) := by decide +kernel
theorem dX6_ofStamp_93 : decode cX6_ofStamp 93 = .ok (.aload_n 3, 1) := by decide +kernel
theorem dX6_ofStamp_94 : decode cX6_ofStamp 94 = .ok (.getfield 134, 3) := by decide +kernel
theorem dX6_ofStamp_97 : decode cX6_ofStamp 97 = .ok (.iload_n 1, 1) := by decide +kernel
theorem dX6_ofStamp_98 : decode cX6_ofStamp 98 = .ok (.iaload, 1) := by decide +kernel
theorem dX6_ofStamp_99 : decode cX6_ofStamp 99 = .ok (.ireturn, 1) := by decide +kernel
theorem dX6_ofStamp_100 : decode cX6_ofStamp 100 = .ok (.aload_n 3, 1) := by decide +kernel
theorem dX6_ofStamp_101 : decode cX6_ofStamp 101 = .ok (.getfield 137, 3) := by decide +kernel
theorem dX6_ofStamp_104 : decode cX6_ofStamp 104 = .ok (.iload_n 1, 1) := by decide +kernel
theorem dX6_ofStamp_105 : decode cX6_ofStamp 105 = .ok (.iaload, 1) := by decide +kernel
theorem dX6_ofStamp_106 : decode cX6_ofStamp 106 = .ok (.ireturn, 1) := by decide +kernel
theorem dX6_ofStamp_107 : decode cX6_ofStamp 107 = .ok (.aload_n 3, 1) := by decide +kernel
theorem dX6_ofStamp_108 : decode cX6_ofStamp 108 = .ok (.getfield 140, 3) := by decide +kernel
theorem dX6_ofStamp_111 : decode cX6_ofStamp 111 = .ok (.iload_n 1, 1) := by decide +kernel
theorem dX6_ofStamp_112 : decode cX6_ofStamp 112 = .ok (.invokestatic 144, 3) := by decide +kernel
theorem dX6_ofStamp_115 : decode cX6_ofStamp 115 = .ok (.ifCond .eq 7, 3) := by decide +kernel
theorem dX6_ofStamp_118 : decode cX6_ofStamp 118 = .ok (.iconst 1, 1) := by decide +kernel
theorem dX6_ofStamp_119 : decode cX6_ofStamp 119 = .ok (.goto 4, 3) := by decide +kernel
theorem dX6_ofStamp_122 : decode cX6_ofStamp 122 = .ok (.iconst 0, 1) := by decide +kernel
theorem dX6_ofStamp_123 : decode cX6_ofStamp 123 = .ok (.ireturn, 1) := by decide +kernel
theorem dX6_ofStamp_124 : decode cX6_ofStamp 124 = .ok (.aload_n 3, 1) := by decide +kernel
theorem dX6_ofStamp_125 : decode cX6_ofStamp 125 = .ok (.getfield 148, 3) := by decide +kernel
theorem dX6_ofStamp_128 : decode cX6_ofStamp 128 = .ok (.iload_n 1, 1) := by decide +kernel
theorem dX6_ofStamp_129 : decode cX6_ofStamp 129 = .ok (.invokestatic 144, 3) := by decide +kernel
theorem dX6_ofStamp_132 : decode cX6_ofStamp 132 = .ok (.ifCond .eq 7, 3) := by decide +kernel
theorem dX6_ofStamp_135 : decode cX6_ofStamp 135 = .ok (.iconst 1, 1) := by decide +kernel
theorem dX6_ofStamp_136 : decode cX6_ofStamp 136 = .ok (.goto 4, 3) := by decide +kernel
theorem dX6_ofStamp_139 : decode cX6_ofStamp 139 = .ok (.iconst 0, 1) := by decide +kernel
theorem dX6_ofStamp_140 : decode cX6_ofStamp 140 = .ok (.ireturn, 1) := by decide +kernel
theorem dX6_ofStamp_141 : decode cX6_ofStamp 141 = .ok (.aload_n 0, 1) := by decide +kernel
theorem dX6_ofStamp_142 : decode cX6_ofStamp 142 = .ok (.getfield 12, 3) := by decide +kernel
theorem dX6_ofStamp_145 : decode cX6_ofStamp 145 = .ok (.bipush (-6), 2) := by decide +kernel
theorem dX6_ofStamp_147 : decode cX6_ofStamp 147 = .ok (.invokevirtual 99, 3) := by decide +kernel
theorem dX6_ofStamp_150 : decode cX6_ofStamp 150 = .ok (.iload_n 1, 1) := by decide +kernel
theorem dX6_ofStamp_151 : decode cX6_ofStamp 151 = .ok (.invokestatic 144, 3) := by decide +kernel
theorem dX6_ofStamp_154 : decode cX6_ofStamp 154 = .ok (.ifCond .eq 7, 3) := by decide +kernel
theorem dX6_ofStamp_157 : decode cX6_ofStamp 157 = .ok (.iconst 1, 1) := by decide +kernel
theorem dX6_ofStamp_158 : decode cX6_ofStamp 158 = .ok (.goto 4, 3) := by decide +kernel
theorem dX6_ofStamp_161 : decode cX6_ofStamp 161 = .ok (.iconst 0, 1) := by decide +kernel
theorem dX6_ofStamp_162 : decode cX6_ofStamp 162 = .ok (.ireturn, 1) := by decide +kernel
theorem dX6_ofStamp_163 : decode cX6_ofStamp 163 = .ok (.aload_n 3, 1) := by decide +kernel
theorem dX6_ofStamp_164 : decode cX6_ofStamp 164 = .ok (.iload_n 1, 1) := by decide +kernel
theorem dX6_ofStamp_165 : decode cX6_ofStamp 165 = .ok (.invokevirtual 151, 3) := by decide +kernel
theorem dX6_ofStamp_168 : decode cX6_ofStamp 168 = .ok (.ireturn, 1) := by decide +kernel
theorem dX6_ofStamp_169 : decode cX6_ofStamp 169 = .ok (.aload_n 3, 1) := by decide +kernel
theorem dX6_ofStamp_170 : decode cX6_ofStamp 170 = .ok (.iload_n 1, 1) := by decide +kernel
theorem dX6_ofStamp_171 : decode cX6_ofStamp 171 = .ok (.invokevirtual 154, 3) := by decide +kernel
theorem dX6_ofStamp_174 : decode cX6_ofStamp 174 = .ok (.ireturn, 1) := by decide +kernel
theorem dX6_ofStamp_175 : decode cX6_ofStamp 175 = .ok (.bipush (-2), 2) := by decide +kernel
theorem dX6_ofStamp_177 : decode cX6_ofStamp 177 = .ok (.ireturn, 1) := by decide +kernel
set_option maxRecDepth 20000 in
theorem ggX6_leads_X6_isDoor : GoodIn wsX6_leads wsX6_isDoor := goodIn_r _ [5] (by decide +kernel) (by decide +kernel)
set_option maxRecDepth 20000 in
theorem gX6_leads_X6_isDoor : GoodIn wsX6_leads (va_wsS RX6 157 yX6_isDoor wsX6_isDoor) := goodIn_app (goodIn_of _ (by decide +kernel)) ggX6_leads_X6_isDoor
set_option maxRecDepth 20000 in
theorem ggX6_leads_X2_ledBy : GoodIn wsX6_leads wsX2_ledBy := goodIn_r _ [10, 11, 3, 4, 5, 17, 18, 19, 20, 21, 22, 23, 24, 25, 26] (by decide +kernel) (by decide +kernel)
set_option maxRecDepth 20000 in
theorem gX6_leads_X2_ledBy : GoodIn wsX6_leads (wsV RX6 161 RX2 yX2_ledBy wsX2_ledBy) := goodIn_app (goodIn_of _ (by decide +kernel)) ggX6_leads_X2_ledBy
theorem dX6_leads_0 : decode cX6_leads 0 = .ok (.iload_n 1, 1) := by decide +kernel
theorem dX6_leads_1 : decode cX6_leads 1 = .ok (.iload_n 2, 1) := by decide +kernel
theorem dX6_leads_2 : decode cX6_leads 2 = .ok (.invokestatic 157, 3) := by decide +kernel
theorem dX6_leads_5 : decode cX6_leads 5 = .ok (.ifCond .eq 15, 3) := by decide +kernel
theorem dX6_leads_8 : decode cX6_leads 8 = .ok (.aload_n 0, 1) := by decide +kernel
theorem dX6_leads_9 : decode cX6_leads 9 = .ok (.getfield 12, 3) := by decide +kernel
theorem dX6_leads_12 : decode cX6_leads 12 = .ok (.iload_n 1, 1) := by decide +kernel
theorem dX6_leads_13 : decode cX6_leads 13 = .ok (.iload_n 2, 1) := by decide +kernel
theorem dX6_leads_14 : decode cX6_leads 14 = .ok (.invokevirtual 161, 3) := by decide +kernel
theorem dX6_leads_17 : decode cX6_leads 17 = .ok (.goto 4, 3) := by decide +kernel
theorem dX6_leads_20 : decode cX6_leads 20 = .ok (.iconst (-1), 1) := by decide +kernel
theorem dX6_leads_21 : decode cX6_leads 21 = .ok (.ireturn, 1) := by decide +kernel
set_option maxRecDepth 20000 in
theorem ggX6_note_X0_has : GoodIn wsX6_note wsX0_has := goodIn_r _ [11, 12, 28, 29, 30, 31, 32, 33, 34] (by decide +kernel) (by decide +kernel)
set_option maxRecDepth 20000 in
theorem gX6_note_X0_has : GoodIn wsX6_note (wsV RX6 164 RX0 yX0_has wsX0_has) := goodIn_app (goodIn_of _ (by decide +kernel)) ggX6_note_X0_has
theorem dX6_note_0 : decode cX6_note 0 = .ok (.aload_n 0, 1) := by decide +kernel
theorem dX6_note_1 : decode cX6_note 1 = .ok (.getfield 12, 3) := by decide +kernel
theorem dX6_note_4 : decode cX6_note 4 = .ok (.getfield 78, 3) := by decide +kernel
theorem dX6_note_7 : decode cX6_note 7 = .ok (.astore_n 3, 1) := by decide +kernel
theorem dX6_note_8 : decode cX6_note 8 = .ok (.aload_n 3, 1) := by decide +kernel
theorem dX6_note_9 : decode cX6_note 9 = .ok (.iload_n 1, 1) := by decide +kernel
theorem dX6_note_10 : decode cX6_note 10 = .ok (.invokevirtual 164, 3) := by decide +kernel
theorem dX6_note_13 : decode cX6_note 13 = .ok (.ifCond .ne 5, 3) := by decide +kernel
theorem dX6_note_16 : decode cX6_note 16 = .ok (.iconst (-1), 1) := by decide +kernel
theorem dX6_note_17 : decode cX6_note 17 = .ok (.ireturn, 1) := by decide +kernel
theorem dX6_note_18 : decode cX6_note 18 = .ok (.iload_n 2, 1) := by decide +kernel
theorem dX6_note_19 : decode cX6_note 19 = .ok (.tableswitch 57 0 3 #[29, 36, 43, 50], 29) := by decide +kernel
theorem dX6_note_48 : decode cX6_note 48 = .ok (.aload_n 3, 1) := by decide +kernel
theorem dX6_note_49 : decode cX6_note 49 = .ok (.getfield 165, 3) := by decide +kernel
theorem dX6_note_52 : decode cX6_note 52 = .ok (.iload_n 1, 1) := by decide +kernel
theorem dX6_note_53 : decode cX6_note 53 = .ok (.iaload, 1) := by decide +kernel
theorem dX6_note_54 : decode cX6_note 54 = .ok (.ireturn, 1) := by decide +kernel
theorem dX6_note_55 : decode cX6_note 55 = .ok (.aload_n 3, 1) := by decide +kernel
theorem dX6_note_56 : decode cX6_note 56 = .ok (.getfield 168, 3) := by decide +kernel
theorem dX6_note_59 : decode cX6_note 59 = .ok (.iload_n 1, 1) := by decide +kernel
theorem dX6_note_60 : decode cX6_note 60 = .ok (.iaload, 1) := by decide +kernel
theorem dX6_note_61 : decode cX6_note 61 = .ok (.ireturn, 1) := by decide +kernel
theorem dX6_note_62 : decode cX6_note 62 = .ok (.aload_n 3, 1) := by decide +kernel
theorem dX6_note_63 : decode cX6_note 63 = .ok (.getfield 171, 3) := by decide +kernel
theorem dX6_note_66 : decode cX6_note 66 = .ok (.iload_n 1, 1) := by decide +kernel
theorem dX6_note_67 : decode cX6_note 67 = .ok (.iaload, 1) := by decide +kernel
theorem dX6_note_68 : decode cX6_note 68 = .ok (.ireturn, 1) := by decide +kernel
theorem dX6_note_69 : decode cX6_note 69 = .ok (.aload_n 3, 1) := by decide +kernel
theorem dX6_note_70 : decode cX6_note 70 = .ok (.getfield 174, 3) := by decide +kernel
theorem dX6_note_73 : decode cX6_note 73 = .ok (.iload_n 1, 1) := by decide +kernel
theorem dX6_note_74 : decode cX6_note 74 = .ok (.iaload, 1) := by decide +kernel
theorem dX6_note_75 : decode cX6_note 75 = .ok (.ireturn, 1) := by decide +kernel
theorem dX6_note_76 : decode cX6_note 76 = .ok (.bipush (-2), 2) := by decide +kernel
theorem dX6_note_78 : decode cX6_note 78 = .ok (.ireturn, 1) := by decide +kernel
set_option maxRecDepth 20000 in
theorem ggX6_count_X2_goodStamps : GoodIn wsX6_count wsX2_goodStamps := goodIn_r _ [21, 22, 23, 24, 25, 26, 27, 28, 29, 30, 31, 32, 20, 33, 34, 35, 36, 37, 38, 39, 40, 41, 42, 43, 44, 45, 46, 59, 60, 61, 62, 63, 64, 65, 66, 67, 68, 69, 70, 71, 72, 73, 74, 75, 76] (by decide +kernel) (by decide +kernel)
set_option maxRecDepth 20000 in
theorem gX6_count_X2_goodStamps : GoodIn wsX6_count (wsV RX6 99 RX2 yX2_goodStamps wsX2_goodStamps) := goodIn_app (goodIn_of _ (by decide +kernel)) ggX6_count_X2_goodStamps
set_option maxRecDepth 20000 in
theorem ggX6_count_J13_bitCount_95d88 : GoodIn wsX6_count wsJ13_bitCount_95d88 := goodIn_r _ [50, 51, 52, 53] (by decide +kernel) (by decide +kernel)
set_option maxRecDepth 20000 in
theorem gX6_count_J13_bitCount_95d88 : GoodIn wsX6_count (va_wsS RX6 116 yJ13_bitCount_95d88 wsJ13_bitCount_95d88) := goodIn_app (goodIn_of _ (by decide +kernel)) ggX6_count_J13_bitCount_95d88
theorem dX6_count_0 : decode cX6_count 0 = .ok (.iload_n 1, 1) := by decide +kernel
theorem dX6_count_1 : decode cX6_count 1 = .ok (.tableswitch 220 0 14 #[75, 86, 99, 110, 118, 126, 134, 142, 153, 164, 174, 184, 194, 204, 212], 75) := by decide +kernel
theorem dX6_count_76 : decode cX6_count 76 = .ok (.aload_n 0, 1) := by decide +kernel
theorem dX6_count_77 : decode cX6_count 77 = .ok (.getfield 12, 3) := by decide +kernel
theorem dX6_count_80 : decode cX6_count 80 = .ok (.getfield 107, 3) := by decide +kernel
theorem dX6_count_83 : decode cX6_count 83 = .ok (.getfield 175, 3) := by decide +kernel
theorem dX6_count_86 : decode cX6_count 86 = .ok (.ireturn, 1) := by decide +kernel
theorem dX6_count_87 : decode cX6_count 87 = .ok (.aload_n 0, 1) := by decide +kernel
theorem dX6_count_88 : decode cX6_count 88 = .ok (.getfield 12, 3) := by decide +kernel
theorem dX6_count_91 : decode cX6_count 91 = .ok (.bipush (-6), 2) := by decide +kernel
theorem dX6_count_93 : decode cX6_count 93 = .ok (.invokevirtual 99, 3) := by decide +kernel
theorem dX6_count_96 : decode cX6_count 96 = .ok (.invokestatic 116, 3) := by decide +kernel
theorem dX6_count_99 : decode cX6_count 99 = .ok (.ireturn, 1) := by decide +kernel
theorem dX6_count_100 : decode cX6_count 100 = .ok (.aload_n 0, 1) := by decide +kernel
theorem dX6_count_101 : decode cX6_count 101 = .ok (.getfield 12, 3) := by decide +kernel
theorem dX6_count_104 : decode cX6_count 104 = .ok (.getfield 78, 3) := by decide +kernel
theorem dX6_count_107 : decode cX6_count 107 = .ok (.getfield 179, 3) := by decide +kernel
theorem dX6_count_110 : decode cX6_count 110 = .ok (.ireturn, 1) := by decide +kernel
theorem dX6_count_111 : decode cX6_count 111 = .ok (.aload_n 0, 1) := by decide +kernel
theorem dX6_count_112 : decode cX6_count 112 = .ok (.getfield 12, 3) := by decide +kernel
theorem dX6_count_115 : decode cX6_count 115 = .ok (.getfield 182, 3) := by decide +kernel
theorem dX6_count_118 : decode cX6_count 118 = .ok (.ireturn, 1) := by decide +kernel
theorem dX6_count_119 : decode cX6_count 119 = .ok (.aload_n 0, 1) := by decide +kernel
theorem dX6_count_120 : decode cX6_count 120 = .ok (.getfield 12, 3) := by decide +kernel
theorem dX6_count_123 : decode cX6_count 123 = .ok (.getfield 185, 3) := by decide +kernel
theorem dX6_count_126 : decode cX6_count 126 = .ok (.ireturn, 1) := by decide +kernel
theorem dX6_count_127 : decode cX6_count 127 = .ok (.aload_n 0, 1) := by decide +kernel
theorem dX6_count_128 : decode cX6_count 128 = .ok (.getfield 12, 3) := by decide +kernel
theorem dX6_count_131 : decode cX6_count 131 = .ok (.getfield 188, 3) := by decide +kernel
theorem dX6_count_134 : decode cX6_count 134 = .ok (.ireturn, 1) := by decide +kernel
theorem dX6_count_135 : decode cX6_count 135 = .ok (.aload_n 0, 1) := by decide +kernel
theorem dX6_count_136 : decode cX6_count 136 = .ok (.getfield 12, 3) := by decide +kernel
theorem dX6_count_139 : decode cX6_count 139 = .ok (.getfield 191, 3) := by decide +kernel
theorem dX6_count_142 : decode cX6_count 142 = .ok (.ireturn, 1) := by decide +kernel
theorem dX6_count_143 : decode cX6_count 143 = .ok (.aload_n 0, 1) := by decide +kernel
theorem dX6_count_144 : decode cX6_count 144 = .ok (.getfield 12, 3) := by decide +kernel
theorem dX6_count_147 : decode cX6_count 147 = .ok (.getfield 78, 3) := by decide +kernel
theorem dX6_count_150 : decode cX6_count 150 = .ok (.getfield 194, 3) := by decide +kernel
theorem dX6_count_153 : decode cX6_count 153 = .ok (.ireturn, 1) := by decide +kernel
theorem dX6_count_154 : decode cX6_count 154 = .ok (.aload_n 0, 1) := by decide +kernel
theorem dX6_count_155 : decode cX6_count 155 = .ok (.getfield 12, 3) := by decide +kernel
theorem dX6_count_158 : decode cX6_count 158 = .ok (.getfield 78, 3) := by decide +kernel
theorem dX6_count_161 : decode cX6_count 161 = .ok (.getfield 197, 3) := by decide +kernel
theorem dX6_count_164 : decode cX6_count 164 = .ok (.ireturn, 1) := by decide +kernel
theorem dX6_count_165 : decode cX6_count 165 = .ok (.aload_n 0, 1) := by decide +kernel
theorem dX6_count_166 : decode cX6_count 166 = .ok (.getfield 12, 3) := by decide +kernel
theorem dX6_count_169 : decode cX6_count 169 = .ok (.getfield 200, 3) := by decide +kernel
theorem dX6_count_172 : decode cX6_count 172 = .ok (.iconst 0, 1) := by decide +kernel
theorem dX6_count_173 : decode cX6_count 173 = .ok (.iaload, 1) := by decide +kernel
theorem dX6_count_174 : decode cX6_count 174 = .ok (.ireturn, 1) := by decide +kernel
theorem dX6_count_175 : decode cX6_count 175 = .ok (.aload_n 0, 1) := by decide +kernel
theorem dX6_count_176 : decode cX6_count 176 = .ok (.getfield 12, 3) := by decide +kernel
theorem dX6_count_179 : decode cX6_count 179 = .ok (.getfield 200, 3) := by decide +kernel
theorem dX6_count_182 : decode cX6_count 182 = .ok (.iconst 1, 1) := by decide +kernel
theorem dX6_count_183 : decode cX6_count 183 = .ok (.iaload, 1) := by decide +kernel
theorem dX6_count_184 : decode cX6_count 184 = .ok (.ireturn, 1) := by decide +kernel
theorem dX6_count_185 : decode cX6_count 185 = .ok (.aload_n 0, 1) := by decide +kernel
theorem dX6_count_186 : decode cX6_count 186 = .ok (.getfield 12, 3) := by decide +kernel
theorem dX6_count_189 : decode cX6_count 189 = .ok (.getfield 200, 3) := by decide +kernel
theorem dX6_count_192 : decode cX6_count 192 = .ok (.iconst 2, 1) := by decide +kernel
theorem dX6_count_193 : decode cX6_count 193 = .ok (.iaload, 1) := by decide +kernel
theorem dX6_count_194 : decode cX6_count 194 = .ok (.ireturn, 1) := by decide +kernel
theorem dX6_count_195 : decode cX6_count 195 = .ok (.aload_n 0, 1) := by decide +kernel
theorem dX6_count_196 : decode cX6_count 196 = .ok (.getfield 12, 3) := by decide +kernel
theorem dX6_count_199 : decode cX6_count 199 = .ok (.getfield 200, 3) := by decide +kernel
theorem dX6_count_202 : decode cX6_count 202 = .ok (.iconst 3, 1) := by decide +kernel
theorem dX6_count_203 : decode cX6_count 203 = .ok (.iaload, 1) := by decide +kernel
theorem dX6_count_204 : decode cX6_count 204 = .ok (.ireturn, 1) := by decide +kernel
theorem dX6_count_205 : decode cX6_count 205 = .ok (.aload_n 0, 1) := by decide +kernel
theorem dX6_count_206 : decode cX6_count 206 = .ok (.getfield 26, 3) := by decide +kernel
theorem dX6_count_209 : decode cX6_count 209 = .ok (.getfield 203, 3) := by decide +kernel
theorem dX6_count_212 : decode cX6_count 212 = .ok (.ireturn, 1) := by decide +kernel
theorem dX6_count_213 : decode cX6_count 213 = .ok (.aload_n 0, 1) := by decide +kernel
theorem dX6_count_214 : decode cX6_count 214 = .ok (.getfield 33, 3) := by decide +kernel
theorem dX6_count_217 : decode cX6_count 217 = .ok (.getfield 206, 3) := by decide +kernel
theorem dX6_count_220 : decode cX6_count 220 = .ok (.ireturn, 1) := by decide +kernel
theorem dX6_count_221 : decode cX6_count 221 = .ok (.bipush (-2), 2) := by decide +kernel
theorem dX6_count_223 : decode cX6_count 223 = .ok (.ireturn, 1) := by decide +kernel
theorem dX6_ended_0 : decode cX6_ended 0 = .ok (.iload_n 1, 1) := by decide +kernel
theorem dX6_ended_1 : decode cX6_ended 1 = .ok (.ifCond .lt 21, 3) := by decide +kernel
theorem dX6_ended_4 : decode cX6_ended 4 = .ok (.iload_n 1, 1) := by decide +kernel
theorem dX6_ended_5 : decode cX6_ended 5 = .ok (.bipush 7, 2) := by decide +kernel
theorem dX6_ended_7 : decode cX6_ended 7 = .ok (.if_icmp .ge 15, 3) := by decide +kernel
theorem dX6_ended_10 : decode cX6_ended 10 = .ok (.aload_n 0, 1) := by decide +kernel
theorem dX6_ended_11 : decode cX6_ended 11 = .ok (.getfield 12, 3) := by decide +kernel
theorem dX6_ended_14 : decode cX6_ended 14 = .ok (.getfield 209, 3) := by decide +kernel
theorem dX6_ended_17 : decode cX6_ended 17 = .ok (.iload_n 1, 1) := by decide +kernel
theorem dX6_ended_18 : decode cX6_ended 18 = .ok (.iaload, 1) := by decide +kernel
theorem dX6_ended_19 : decode cX6_ended 19 = .ok (.goto 5, 3) := by decide +kernel
theorem dX6_ended_22 : decode cX6_ended 22 = .ok (.bipush (-2), 2) := by decide +kernel
theorem dX6_ended_24 : decode cX6_ended 24 = .ok (.ireturn, 1) := by decide +kernel
set_option maxRecDepth 20000 in
theorem ggX6_walk_X6_isDoor : GoodIn wsX6_walk wsX6_isDoor := goodIn_r _ [8] (by decide +kernel) (by decide +kernel)
set_option maxRecDepth 20000 in
theorem gX6_walk_X6_isDoor : GoodIn wsX6_walk (va_wsS RX6 157 yX6_isDoor wsX6_isDoor) := goodIn_app (goodIn_of _ (by decide +kernel)) ggX6_walk_X6_isDoor
set_option maxRecDepth 20000 in
theorem ggX6_walk_X6_isNeed : GoodIn wsX6_walk wsX6_isNeed := goodIn_r _ [11] (by decide +kernel) (by decide +kernel)
set_option maxRecDepth 20000 in
theorem gX6_walk_X6_isNeed : GoodIn wsX6_walk (va_wsS RX6 212 yX6_isNeed wsX6_isNeed) := goodIn_app (goodIn_of _ (by decide +kernel)) ggX6_walk_X6_isNeed
set_option maxRecDepth 20000 in
theorem ggX6_walk_X5_go : GoodIn wsX6_walk wsX5_go := goodIn_r _ [16, 17, 18, 19, 20, 21, 22, 23, 24, 25, 26, 6, 7, 8, 27, 28, 29, 30, 31, 32, 33, 34, 15, 35, 36, 37, 38, 39, 40, 41, 42, 43, 44, 45, 46, 47, 48, 49, 50, 51, 52, 53, 54, 55, 61, 62, 63, 64, 65, 66, 67, 68, 69, 70, 71, 72, 73, 74, 75, 76, 77, 78, 79, 80] (by decide +kernel) (by decide +kernel)
set_option maxRecDepth 20000 in
theorem gX6_walk_X5_go : GoodIn wsX6_walk (wsV RX6 215 RX5 yX5_go wsX5_go) := goodIn_app (goodIn_of _ (by decide +kernel)) ggX6_walk_X5_go
theorem dX6_walk_0 : decode cX6_walk 0 = .ok (.iload_n 1, 1) := by decide +kernel
theorem dX6_walk_1 : decode cX6_walk 1 = .ok (.iload_n 2, 1) := by decide +kernel
theorem dX6_walk_2 : decode cX6_walk 2 = .ok (.invokestatic 157, 3) := by decide +kernel
theorem dX6_walk_5 : decode cX6_walk 5 = .ok (.ifCond .ne 5, 3) := by decide +kernel
theorem dX6_walk_8 : decode cX6_walk 8 = .ok (.iconst (-1), 1) := by decide +kernel
theorem dX6_walk_9 : decode cX6_walk 9 = .ok (.ireturn, 1) := by decide +kernel
theorem dX6_walk_10 : decode cX6_walk 10 = .ok (.iload_n 3, 1) := by decide +kernel
theorem dX6_walk_11 : decode cX6_walk 11 = .ok (.invokestatic 212, 3) := by decide +kernel
theorem dX6_walk_14 : decode cX6_walk 14 = .ok (.ifCond .eq 14, 3) := by decide +kernel
theorem dX6_walk_17 : decode cX6_walk 17 = .ok (.iload 4, 2) := by decide +kernel
theorem dX6_walk_19 : decode cX6_walk 19 = .ok (.ifCond .eq 12, 3) := by decide +kernel
theorem dX6_walk_22 : decode cX6_walk 22 = .ok (.iload 4, 2) := by decide +kernel
theorem dX6_walk_24 : decode cX6_walk 24 = .ok (.iconst 1, 1) := by decide +kernel
theorem dX6_walk_25 : decode cX6_walk 25 = .ok (.if_icmp .eq 6, 3) := by decide +kernel
theorem dX6_walk_28 : decode cX6_walk 28 = .ok (.bipush (-2), 2) := by decide +kernel
theorem dX6_walk_30 : decode cX6_walk 30 = .ok (.ireturn, 1) := by decide +kernel
theorem dX6_walk_31 : decode cX6_walk 31 = .ok (.aload_n 0, 1) := by decide +kernel
theorem dX6_walk_32 : decode cX6_walk 32 = .ok (.getfield 19, 3) := by decide +kernel
theorem dX6_walk_35 : decode cX6_walk 35 = .ok (.aload_n 0, 1) := by decide +kernel
theorem dX6_walk_36 : decode cX6_walk 36 = .ok (.getfield 12, 3) := by decide +kernel
theorem dX6_walk_39 : decode cX6_walk 39 = .ok (.iload_n 1, 1) := by decide +kernel
theorem dX6_walk_40 : decode cX6_walk 40 = .ok (.iload_n 2, 1) := by decide +kernel
theorem dX6_walk_41 : decode cX6_walk 41 = .ok (.iload_n 3, 1) := by decide +kernel
theorem dX6_walk_42 : decode cX6_walk 42 = .ok (.invokevirtual 215, 3) := by decide +kernel
theorem dX6_walk_45 : decode cX6_walk 45 = .ok (.iload 4, 2) := by decide +kernel
theorem dX6_walk_47 : decode cX6_walk 47 = .ok (.ifCond .ne 13, 3) := by decide +kernel
theorem dX6_walk_50 : decode cX6_walk 50 = .ok (.aload_n 0, 1) := by decide +kernel
theorem dX6_walk_51 : decode cX6_walk 51 = .ok (.getfield 19, 3) := by decide +kernel
theorem dX6_walk_54 : decode cX6_walk 54 = .ok (.getfield 219, 3) := by decide +kernel
theorem dX6_walk_57 : decode cX6_walk 57 = .ok (.goto 10, 3) := by decide +kernel
theorem dX6_walk_60 : decode cX6_walk 60 = .ok (.aload_n 0, 1) := by decide +kernel
theorem dX6_walk_61 : decode cX6_walk 61 = .ok (.getfield 19, 3) := by decide +kernel
theorem dX6_walk_64 : decode cX6_walk 64 = .ok (.getfield 222, 3) := by decide +kernel
theorem dX6_walk_67 : decode cX6_walk 67 = .ok (.ireturn, 1) := by decide +kernel
set_option maxRecDepth 20000 in
theorem ggX6_hides_X4_has : GoodIn wsX6_hides wsX4_has := goodIn_r _ [7, 8, 60, 61, 62, 63, 64, 65, 66, 67] (by decide +kernel) (by decide +kernel)
set_option maxRecDepth 20000 in
theorem gX6_hides_X4_has : GoodIn wsX6_hides (wsV RX6 122 RX4 yX4_has wsX4_has) := goodIn_app (goodIn_of _ (by decide +kernel)) ggX6_hides_X4_has
set_option maxRecDepth 20000 in
theorem ggX6_hides_X2_goodStamps : GoodIn wsX6_hides wsX2_goodStamps := goodIn_r _ [13, 14, 15, 16, 17, 18, 19, 20, 21, 22, 23, 24, 12, 25, 26, 27, 28, 29, 30, 31, 4, 5, 6, 7, 8, 32, 33, 50, 51, 52, 53, 54, 55, 56, 57, 58, 59, 60, 61, 62, 63, 64, 65, 66, 67] (by decide +kernel) (by decide +kernel)
set_option maxRecDepth 20000 in
theorem gX6_hides_X2_goodStamps : GoodIn wsX6_hides (wsV RX6 99 RX2 yX2_goodStamps wsX2_goodStamps) := goodIn_app (goodIn_of _ (by decide +kernel)) ggX6_hides_X2_goodStamps
set_option maxRecDepth 20000 in
theorem ggX6_hides_X2_hiddenWithout : GoodIn wsX6_hides wsX2_hiddenWithout := goodIn_r _ [37, 14, 26, 38, 39, 40, 12, 41, 28, 15, 29, 30, 32, 20, 33, 42, 43, 19, 21, 44, 10, 11, 13, 16, 17, 18, 22, 23, 24, 25, 27, 31, 4, 5, 6, 7, 8, 50, 51, 52, 53, 54, 55, 56, 57, 58, 59, 60, 61, 62, 63, 64, 65, 66, 67] (by decide +kernel) (by decide +kernel)
set_option maxRecDepth 20000 in
theorem gX6_hides_X2_hiddenWithout : GoodIn wsX6_hides (wsV RX6 223 RX2 yX2_hiddenWithout wsX2_hiddenWithout) := goodIn_app (goodIn_of _ (by decide +kernel)) ggX6_hides_X2_hiddenWithout
theorem dX6_hides_0 : decode cX6_hides 0 = .ok (.aload_n 0, 1) := by decide +kernel
theorem dX6_hides_1 : decode cX6_hides 1 = .ok (.getfield 12, 3) := by decide +kernel
theorem dX6_hides_4 : decode cX6_hides 4 = .ok (.getfield 107, 3) := by decide +kernel
theorem dX6_hides_7 : decode cX6_hides 7 = .ok (.iload_n 1, 1) := by decide +kernel
theorem dX6_hides_8 : decode cX6_hides 8 = .ok (.invokevirtual 122, 3) := by decide +kernel
theorem dX6_hides_11 : decode cX6_hides 11 = .ok (.ifCond .eq 23, 3) := by decide +kernel
theorem dX6_hides_14 : decode cX6_hides 14 = .ok (.aload_n 0, 1) := by decide +kernel
theorem dX6_hides_15 : decode cX6_hides 15 = .ok (.getfield 12, 3) := by decide +kernel
theorem dX6_hides_18 : decode cX6_hides 18 = .ok (.iload_n 1, 1) := by decide +kernel
theorem dX6_hides_19 : decode cX6_hides 19 = .ok (.aload_n 0, 1) := by decide +kernel
theorem dX6_hides_20 : decode cX6_hides 20 = .ok (.getfield 12, 3) := by decide +kernel
theorem dX6_hides_23 : decode cX6_hides 23 = .ok (.bipush (-6), 2) := by decide +kernel
theorem dX6_hides_25 : decode cX6_hides 25 = .ok (.invokevirtual 99, 3) := by decide +kernel
theorem dX6_hides_28 : decode cX6_hides 28 = .ok (.invokevirtual 223, 3) := by decide +kernel
theorem dX6_hides_31 : decode cX6_hides 31 = .ok (.goto 4, 3) := by decide +kernel
theorem dX6_hides_34 : decode cX6_hides 34 = .ok (.iconst (-1), 1) := by decide +kernel
theorem dX6_hides_35 : decode cX6_hides 35 = .ok (.ireturn, 1) := by decide +kernel
set_option maxRecDepth 20000 in
theorem ggX6_needless_X6_isPage : GoodIn wsX6_needless wsX6_isPage := goodIn_r _ [6] (by decide +kernel) (by decide +kernel)
set_option maxRecDepth 20000 in
theorem gX6_needless_X6_isPage : GoodIn wsX6_needless (va_wsS RX6 91 yX6_isPage wsX6_isPage) := goodIn_app (goodIn_of _ (by decide +kernel)) ggX6_needless_X6_isPage
set_option maxRecDepth 20000 in
theorem ggX6_needless_X2_needlessFor : GoodIn wsX6_needless wsX2_needlessFor := goodIn_r _ [11, 12, 13, 14, 15, 16, 10, 17, 18, 19, 20, 21, 5, 22, 23, 24, 25, 26, 27, 28, 29, 30, 31, 32, 33, 34, 35, 36, 37, 4, 6, 38, 39, 40, 41, 42, 43, 44, 45, 46, 47, 48, 49, 50, 51, 52, 58, 59, 60, 61, 62, 63, 64, 65, 66, 67, 68, 69, 70, 71, 72, 73, 74, 75] (by decide +kernel) (by decide +kernel)
set_option maxRecDepth 20000 in
theorem gX6_needless_X2_needlessFor : GoodIn wsX6_needless (wsV RX6 227 RX2 yX2_needlessFor wsX2_needlessFor) := goodIn_app (goodIn_of _ (by decide +kernel)) ggX6_needless_X2_needlessFor
theorem dX6_needless_0 : decode cX6_needless 0 = .ok (.iload_n 1, 1) := by decide +kernel
theorem dX6_needless_1 : decode cX6_needless 1 = .ok (.invokestatic 91, 3) := by decide +kernel
theorem dX6_needless_4 : decode cX6_needless 4 = .ok (.ifCond .eq 14, 3) := by decide +kernel
theorem dX6_needless_7 : decode cX6_needless 7 = .ok (.aload_n 0, 1) := by decide +kernel
theorem dX6_needless_8 : decode cX6_needless 8 = .ok (.getfield 12, 3) := by decide +kernel
theorem dX6_needless_11 : decode cX6_needless 11 = .ok (.iload_n 1, 1) := by decide +kernel
theorem dX6_needless_12 : decode cX6_needless 12 = .ok (.invokevirtual 227, 3) := by decide +kernel
theorem dX6_needless_15 : decode cX6_needless 15 = .ok (.goto 6, 3) := by decide +kernel
theorem dX6_needless_18 : decode cX6_needless 18 = .ok (.ldc2_w 230, 3) := by decide +kernel
theorem dX6_needless_21 : decode cX6_needless 21 = .ok (.lreturn, 1) := by decide +kernel
set_option maxRecDepth 20000 in
theorem ggX6_longest_X2_longestChain : GoodIn wsX6_longest wsX2_longestChain := goodIn_r _ [6, 7, 8, 9, 10, 11, 5, 12, 13, 14, 15, 16, 17, 18, 19, 20, 21, 22, 23, 24, 25, 26, 27, 28, 29, 30, 31, 32, 33, 34, 35, 36, 37, 38, 39, 40, 41, 47, 48, 49, 50, 51, 52, 53, 54, 55, 56, 57, 58, 59, 60, 61, 62, 63, 64] (by decide +kernel) (by decide +kernel)
set_option maxRecDepth 20000 in
theorem gX6_longest_X2_longestChain : GoodIn wsX6_longest (wsV RX6 232 RX2 yX2_longestChain wsX2_longestChain) := goodIn_app (goodIn_of _ (by decide +kernel)) ggX6_longest_X2_longestChain
theorem dX6_longest_0 : decode cX6_longest 0 = .ok (.aload_n 0, 1) := by decide +kernel
theorem dX6_longest_1 : decode cX6_longest 1 = .ok (.getfield 12, 3) := by decide +kernel
theorem dX6_longest_4 : decode cX6_longest 4 = .ok (.invokevirtual 232, 3) := by decide +kernel
theorem dX6_longest_7 : decode cX6_longest 7 = .ok (.ireturn, 1) := by decide +kernel
set_option maxRecDepth 20000 in
theorem ggX6_put_X3_append : GoodIn wsX6_put wsX3_append := goodIn_r _ [6, 7, 8, 9, 10, 5, 11, 12, 13, 14, 15, 21, 22, 23, 24, 25, 26] (by decide +kernel) (by decide +kernel)
set_option maxRecDepth 20000 in
theorem gX6_put_X3_append : GoodIn wsX6_put (wsV RX6 235 RX3 yX3_append wsX3_append) := goodIn_app (goodIn_of _ (by decide +kernel)) ggX6_put_X3_append
theorem dX6_put_0 : decode cX6_put 0 = .ok (.aload_n 0, 1) := by decide +kernel
theorem dX6_put_1 : decode cX6_put 1 = .ok (.getfield 26, 3) := by decide +kernel
theorem dX6_put_4 : decode cX6_put 4 = .ok (.lload_n 1, 1) := by decide +kernel
theorem dX6_put_5 : decode cX6_put 5 = .ok (.invokevirtual 235, 3) := by decide +kernel
theorem dX6_put_8 : decode cX6_put 8 = .ok (.ireturn, 1) := by decide +kernel
set_option maxRecDepth 20000 in
theorem ggX6_wipe_X3_clear : GoodIn wsX6_wipe wsX3_clear := goodIn_r _ [6, 7, 13, 14, 15, 16, 17, 18] (by decide +kernel) (by decide +kernel)
set_option maxRecDepth 20000 in
theorem gX6_wipe_X3_clear : GoodIn wsX6_wipe (wsV RX6 238 RX3 yX3_clear wsX3_clear) := goodIn_app (goodIn_of _ (by decide +kernel)) ggX6_wipe_X3_clear
theorem dX6_wipe_0 : decode cX6_wipe 0 = .ok (.aload_n 0, 1) := by decide +kernel
theorem dX6_wipe_1 : decode cX6_wipe 1 = .ok (.getfield 26, 3) := by decide +kernel
theorem dX6_wipe_4 : decode cX6_wipe 4 = .ok (.invokevirtual 238, 3) := by decide +kernel
theorem dX6_wipe_7 : decode cX6_wipe 7 = .ok (.ireturn, 1) := by decide +kernel
set_option maxRecDepth 20000 in
theorem ggX6_fault_X3_findFault : GoodIn wsX6_fault wsX3_findFault := goodIn_r _ [6, 7, 8, 9, 10, 11, 12, 5, 13, 14, 15, 16, 17, 18, 19, 20, 21, 22, 23, 24, 25, 26, 27, 28, 29, 30, 31, 32, 33, 34, 35, 36, 37, 38, 39, 40, 41, 42, 43, 44, 45, 46, 47, 48, 49, 50, 51, 52, 53, 54, 55, 56, 57, 58, 59, 60, 61, 62, 63, 64, 65, 66, 67, 68, 69, 70, 71, 72, 73, 74, 75, 76, 77, 78, 79, 80, 81, 82, 83, 84, 85, 86, 87, 88, 89, 90, 91, 92, 93, 94, 95, 96, 97, 98, 99, 100, 101, 102, 103, 104, 110, 111, 112, 113, 114, 115] (by decide +kernel) (by decide +kernel)
set_option maxRecDepth 20000 in
theorem gX6_fault_X3_findFault : GoodIn wsX6_fault (wsV RX6 241 RX3 yX3_findFault wsX3_findFault) := goodIn_app (goodIn_of _ (by decide +kernel)) ggX6_fault_X3_findFault
theorem dX6_fault_0 : decode cX6_fault 0 = .ok (.aload_n 0, 1) := by decide +kernel
theorem dX6_fault_1 : decode cX6_fault 1 = .ok (.getfield 26, 3) := by decide +kernel
theorem dX6_fault_4 : decode cX6_fault 4 = .ok (.invokevirtual 241, 3) := by decide +kernel
theorem dX6_fault_7 : decode cX6_fault 7 = .ok (.ireturn, 1) := by decide +kernel
set_option maxRecDepth 20000 in
theorem ggX6_carryOut_X3_findFault : GoodIn wsX6_carryOut wsX3_findFault := goodIn_r _ [9, 10, 11, 12, 13, 14, 15, 8, 16, 17, 18, 19, 20, 21, 22, 23, 24, 25, 26, 27, 28, 29, 30, 31, 32, 33, 34, 35, 36, 37, 38, 39, 40, 41, 42, 43, 44, 45, 46, 47, 48, 49, 50, 51, 52, 53, 54, 55, 56, 57, 58, 59, 60, 61, 62, 63, 64, 65, 66, 67, 68, 69, 70, 71, 72, 73, 74, 75, 76, 77, 78, 79, 80, 81, 82, 83, 84, 85, 86, 87, 88, 89, 90, 91, 92, 93, 94, 95, 96, 97, 98, 99, 100, 101, 102, 103, 104, 105, 106, 107, 372, 373, 374, 375, 376, 377] (by decide +kernel) (by decide +kernel)
set_option maxRecDepth 20000 in
theorem gX6_carryOut_X3_findFault : GoodIn wsX6_carryOut (wsV RX6 241 RX3 yX3_findFault wsX3_findFault) := goodIn_app (goodIn_of _ (by decide +kernel)) ggX6_carryOut_X3_findFault
set_option maxRecDepth 20000 in
theorem ggX6_carryOut_X1_remember : GoodIn wsX6_carryOut wsX1_remember := goodIn_r _ [112, 113, 114, 115, 116, 117, 118, 119, 120, 121, 122, 123, 124, 125, 126, 127, 128, 129, 130, 131, 132, 133, 134, 135, 136, 137, 138, 139, 140, 141, 142, 143, 144, 145, 146, 147, 148, 149, 150, 151, 152, 153, 154, 155, 156, 157, 158, 159, 160, 161, 162, 163, 164, 165, 166, 167, 168, 169, 170, 171, 172, 173, 174, 175, 176, 177, 178, 179, 180, 181, 182, 183, 184, 185, 186, 187, 188, 189, 378, 379, 380, 381, 382, 383, 384, 385, 386, 387, 388, 389, 390, 391, 392, 393, 394, 395, 396, 397, 398, 399, 400, 401, 402, 403, 404] (by decide +kernel) (by decide +kernel)
set_option maxRecDepth 20000 in
theorem gX6_carryOut_X1_remember : GoodIn wsX6_carryOut (wsV RX6 41 RX1 yX1_remember wsX1_remember) := goodIn_app (goodIn_of _ (by decide +kernel)) ggX6_carryOut_X1_remember
set_option maxRecDepth 20000 in
theorem ggX6_carryOut_X3_startReading : GoodIn wsX6_carryOut wsX3_startReading := goodIn_r _ [16, 10, 372, 373, 374, 375, 376, 377] (by decide +kernel) (by decide +kernel)
set_option maxRecDepth 20000 in
theorem gX6_carryOut_X3_startReading : GoodIn wsX6_carryOut (wsV RX6 244 RX3 yX3_startReading wsX3_startReading) := goodIn_app (goodIn_of _ (by decide +kernel)) ggX6_carryOut_X3_startReading
set_option maxRecDepth 20000 in
theorem ggX6_carryOut_X3_readOrder : GoodIn wsX6_carryOut wsX3_readOrder := goodIn_r _ [20, 10, 11, 12, 21, 22, 23, 24, 8, 25, 26, 27, 28, 29, 30, 31, 32, 33, 34, 35, 36, 37, 38, 39, 40, 41, 42, 43, 44, 45, 46, 47, 48, 49, 50, 51, 52, 53, 54, 55, 56, 57, 58, 59, 60, 61, 62, 63, 64, 65, 66, 67, 68, 69, 70, 71, 72, 73, 74, 75, 76, 77, 78, 79, 80, 81, 82, 83, 84, 85, 86, 87, 88, 89, 90, 91, 92, 93, 94, 95, 96, 97, 98, 99, 100, 101, 102, 103, 104, 105, 106, 107, 372, 373, 374, 375, 376, 377] (by decide +kernel) (by decide +kernel)
set_option maxRecDepth 20000 in
theorem gX6_carryOut_X3_readOrder : GoodIn wsX6_carryOut (wsV RX6 247 RX3 yX3_readOrder wsX3_readOrder) := goodIn_app (goodIn_of _ (by decide +kernel)) ggX6_carryOut_X3_readOrder
set_option maxRecDepth 20000 in
theorem ggX6_carryOut_X2_follow : GoodIn wsX6_carryOut wsX2_follow := goodIn_r _ [195, 196, 197, 198, 199, 200, 117, 201, 125, 202, 203, 204, 205, 206, 207, 208, 209, 210, 138, 211, 212, 213, 214, 215, 216, 217, 218, 219, 220, 221, 222, 223, 224, 225, 226, 227, 137, 228, 181, 229, 230, 231, 232, 133, 142, 233, 234, 235, 236, 141, 237, 187, 238, 239, 240, 241, 188, 242, 243, 244, 245, 154, 155, 156, 157, 246, 247, 248, 249, 250, 251, 252, 253, 254, 255, 256, 257, 258, 259, 260, 126, 261, 262, 263, 264, 265, 266, 267, 268, 269, 270, 271, 272, 273, 274, 275, 276, 147, 148, 146, 149, 150, 179, 277, 278, 279, 280, 281, 282, 283, 284, 285, 286, 287, 288, 289, 290, 291, 292, 293, 294, 295, 296, 297, 171, 173, 298, 134, 299, 300, 301, 302, 303, 304, 305, 170, 306, 307, 308, 309, 310, 311, 312, 313, 314, 315, 316, 317, 172, 318, 319, 320, 321, 322, 323, 324, 325, 326, 327, 328, 329, 330, 331, 332, 333, 334, 335, 336, 337, 338, 339, 340, 341, 342, 343, 344, 345, 346, 347, 348, 349, 350, 351, 352, 189, 353, 372, 373, 374, 375, 376, 377, 380, 381, 382, 383, 384, 385, 386, 387, 388, 389, 390, 391, 392, 393, 394, 395, 396, 397, 398, 399, 400, 401, 402, 403, 404, 405, 406] (by decide +kernel) (by decide +kernel)
set_option maxRecDepth 20000 in
theorem gX6_carryOut_X2_follow : GoodIn wsX6_carryOut (wsV RX6 251 RX2 yX2_follow wsX2_follow) := goodIn_app (goodIn_of _ (by decide +kernel)) ggX6_carryOut_X2_follow
set_option maxRecDepth 20000 in
theorem ggX6_carryOut_X3_skipSign : GoodIn wsX6_carryOut wsX3_skipSign := goodIn_r _ [35, 10, 372, 373, 374, 375, 376, 377] (by decide +kernel) (by decide +kernel)
set_option maxRecDepth 20000 in
theorem gX6_carryOut_X3_skipSign : GoodIn wsX6_carryOut (wsV RX6 255 RX3 yX3_skipSign wsX3_skipSign) := goodIn_app (goodIn_of _ (by decide +kernel)) ggX6_carryOut_X3_skipSign
set_option maxRecDepth 20000 in
theorem ggX6_carryOut_X3_clear : GoodIn wsX6_carryOut wsX3_clear := goodIn_r _ [358, 11, 372, 373, 374, 375, 376, 377] (by decide +kernel) (by decide +kernel)
set_option maxRecDepth 20000 in
theorem gX6_carryOut_X3_clear : GoodIn wsX6_carryOut (wsV RX6 238 RX3 yX3_clear wsX3_clear) := goodIn_app (goodIn_of _ (by decide +kernel)) ggX6_carryOut_X3_clear
set_option maxRecDepth 20000 in
theorem ggX6_carryOut_X1_keepUnlessError : GoodIn wsX6_carryOut wsX1_keepUnlessError := goodIn_r _ [362, 363, 364, 365, 111, 366, 114, 113, 378, 379] (by decide +kernel) (by decide +kernel)
set_option maxRecDepth 20000 in
theorem gX6_carryOut_X1_keepUnlessError : GoodIn wsX6_carryOut (wsV RX6 49 RX1 yX1_keepUnlessError wsX1_keepUnlessError) := goodIn_app (goodIn_of _ (by decide +kernel)) ggX6_carryOut_X1_keepUnlessError
theorem dX6_carryOut_0 : decode cX6_carryOut 0 = .ok (.aload_n 0, 1) := by decide +kernel
theorem dX6_carryOut_1 : decode cX6_carryOut 1 = .ok (.getfield 26, 3) := by decide +kernel
theorem dX6_carryOut_4 : decode cX6_carryOut 4 = .ok (.invokevirtual 241, 3) := by decide +kernel
theorem dX6_carryOut_7 : decode cX6_carryOut 7 = .ok (.bipush (-6), 2) := by decide +kernel
theorem dX6_carryOut_9 : decode cX6_carryOut 9 = .ok (.if_icmp .eq 6, 3) := by decide +kernel
theorem dX6_carryOut_12 : decode cX6_carryOut 12 = .ok (.bipush (-3), 2) := by decide +kernel
theorem dX6_carryOut_14 : decode cX6_carryOut 14 = .ok (.ireturn, 1) := by decide +kernel
theorem dX6_carryOut_15 : decode cX6_carryOut 15 = .ok (.aload_n 0, 1) := by decide +kernel
theorem dX6_carryOut_16 : decode cX6_carryOut 16 = .ok (.getfield 33, 3) := by decide +kernel
theorem dX6_carryOut_19 : decode cX6_carryOut 19 = .ok (.aload_n 0, 1) := by decide +kernel
theorem dX6_carryOut_20 : decode cX6_carryOut 20 = .ok (.getfield 12, 3) := by decide +kernel
theorem dX6_carryOut_23 : decode cX6_carryOut 23 = .ok (.invokevirtual 41, 3) := by decide +kernel
theorem dX6_carryOut_26 : decode cX6_carryOut 26 = .ok (.iconst 0, 1) := by decide +kernel
theorem dX6_carryOut_27 : decode cX6_carryOut 27 = .ok (.istore_n 1, 1) := by decide +kernel
theorem dX6_carryOut_28 : decode cX6_carryOut 28 = .ok (.aload_n 0, 1) := by decide +kernel
theorem dX6_carryOut_29 : decode cX6_carryOut 29 = .ok (.getfield 26, 3) := by decide +kernel
theorem dX6_carryOut_32 : decode cX6_carryOut 32 = .ok (.invokevirtual 244, 3) := by decide +kernel
theorem dX6_carryOut_35 : decode cX6_carryOut 35 = .ok (.iload_n 1, 1) := by decide +kernel
theorem dX6_carryOut_36 : decode cX6_carryOut 36 = .ok (.bipush 80, 2) := by decide +kernel
theorem dX6_carryOut_38 : decode cX6_carryOut 38 = .ok (.if_icmp .ge 44, 3) := by decide +kernel
theorem dX6_carryOut_41 : decode cX6_carryOut 41 = .ok (.aload_n 0, 1) := by decide +kernel
theorem dX6_carryOut_42 : decode cX6_carryOut 42 = .ok (.getfield 26, 3) := by decide +kernel
theorem dX6_carryOut_45 : decode cX6_carryOut 45 = .ok (.invokevirtual 247, 3) := by decide +kernel
theorem dX6_carryOut_48 : decode cX6_carryOut 48 = .ok (.ifCond .eq 34, 3) := by decide +kernel
theorem dX6_carryOut_51 : decode cX6_carryOut 51 = .ok (.aload_n 0, 1) := by decide +kernel
theorem dX6_carryOut_52 : decode cX6_carryOut 52 = .ok (.getfield 12, 3) := by decide +kernel
theorem dX6_carryOut_55 : decode cX6_carryOut 55 = .ok (.aload_n 0, 1) := by decide +kernel
theorem dX6_carryOut_56 : decode cX6_carryOut 56 = .ok (.getfield 26, 3) := by decide +kernel
theorem dX6_carryOut_59 : decode cX6_carryOut 59 = .ok (.aload_n 0, 1) := by decide +kernel
theorem dX6_carryOut_60 : decode cX6_carryOut 60 = .ok (.getfield 19, 3) := by decide +kernel
theorem dX6_carryOut_63 : decode cX6_carryOut 63 = .ok (.invokevirtual 251, 3) := by decide +kernel
theorem dX6_carryOut_66 : decode cX6_carryOut 66 = .ok (.ifCond .lt 16, 3) := by decide +kernel
theorem dX6_carryOut_69 : decode cX6_carryOut 69 = .ok (.iinc 1 1, 3) := by decide +kernel
theorem dX6_carryOut_72 : decode cX6_carryOut 72 = .ok (.aload_n 0, 1) := by decide +kernel
theorem dX6_carryOut_73 : decode cX6_carryOut 73 = .ok (.getfield 26, 3) := by decide +kernel
theorem dX6_carryOut_76 : decode cX6_carryOut 76 = .ok (.invokevirtual 255, 3) := by decide +kernel
theorem dX6_carryOut_79 : decode cX6_carryOut 79 = .ok (.goto (-44), 3) := by decide +kernel
theorem dX6_carryOut_82 : decode cX6_carryOut 82 = .ok (.aload_n 0, 1) := by decide +kernel
theorem dX6_carryOut_83 : decode cX6_carryOut 83 = .ok (.getfield 26, 3) := by decide +kernel
theorem dX6_carryOut_86 : decode cX6_carryOut 86 = .ok (.invokevirtual 238, 3) := by decide +kernel
theorem dX6_carryOut_89 : decode cX6_carryOut 89 = .ok (.pop, 1) := by decide +kernel
theorem dX6_carryOut_90 : decode cX6_carryOut 90 = .ok (.aload_n 0, 1) := by decide +kernel
theorem dX6_carryOut_91 : decode cX6_carryOut 91 = .ok (.getfield 33, 3) := by decide +kernel
theorem dX6_carryOut_94 : decode cX6_carryOut 94 = .ok (.iload_n 1, 1) := by decide +kernel
theorem dX6_carryOut_95 : decode cX6_carryOut 95 = .ok (.invokevirtual 49, 3) := by decide +kernel
theorem dX6_carryOut_98 : decode cX6_carryOut 98 = .ok (.ireturn, 1) := by decide +kernel
set_option maxRecDepth 20000 in
theorem ggX6_undo_X1_goBack : GoodIn wsX6_undo wsX1_goBack := goodIn_r _ [7, 8, 9, 10, 11, 12, 13, 14, 15, 16, 17, 18, 19, 20, 21, 22, 23, 24, 25, 26, 27, 28, 29, 30, 31, 32, 33, 34, 35, 36, 37, 38, 39, 40, 41, 42, 43, 44, 45, 46, 47, 48, 49, 50, 51, 52, 53, 54, 55, 61, 62, 63, 64, 65, 66, 67, 68, 69, 70, 71, 72, 73, 74, 75, 76, 77, 78, 79, 80, 81, 82, 83, 84, 85, 86, 87] (by decide +kernel) (by decide +kernel)
set_option maxRecDepth 20000 in
theorem gX6_undo_X1_goBack : GoodIn wsX6_undo (wsV RX6 258 RX1 yX1_goBack wsX1_goBack) := goodIn_app (goodIn_of _ (by decide +kernel)) ggX6_undo_X1_goBack
theorem dX6_undo_0 : decode cX6_undo 0 = .ok (.aload_n 0, 1) := by decide +kernel
theorem dX6_undo_1 : decode cX6_undo 1 = .ok (.getfield 33, 3) := by decide +kernel
theorem dX6_undo_4 : decode cX6_undo 4 = .ok (.aload_n 0, 1) := by decide +kernel
theorem dX6_undo_5 : decode cX6_undo 5 = .ok (.getfield 12, 3) := by decide +kernel
theorem dX6_undo_8 : decode cX6_undo 8 = .ok (.invokevirtual 258, 3) := by decide +kernel
theorem dX6_undo_11 : decode cX6_undo 11 = .ok (.ireturn, 1) := by decide +kernel
set_option maxRecDepth 20000 in
theorem ggX6_save_X6_isSlot : GoodIn wsX6_save wsX6_isSlot := goodIn_r _ [11] (by decide +kernel) (by decide +kernel)
set_option maxRecDepth 20000 in
theorem gX6_save_X6_isSlot : GoodIn wsX6_save (va_wsS RX6 262 yX6_isSlot wsX6_isSlot) := goodIn_app (goodIn_of _ (by decide +kernel)) ggX6_save_X6_isSlot
set_option maxRecDepth 20000 in
theorem ggX6_save_X2_init : GoodIn wsX6_save wsX2_init := goodIn_r _ [14, 15, 16, 17, 18, 19, 20, 21, 22, 23, 24, 25, 26, 27, 28, 29, 30, 31, 32, 33, 34, 35, 36, 37, 38, 39, 40, 41, 42, 43, 44, 45, 46, 47, 48, 49, 50, 51, 52, 53, 54, 55, 89, 90, 91, 92, 93, 94, 95, 96, 97, 98, 99, 100, 101, 102, 103, 104, 105, 106, 107, 108, 109, 110, 111, 112, 113] (by decide +kernel) (by decide +kernel)
set_option maxRecDepth 20000 in
theorem gX6_save_X2_init : GoodIn wsX6_save (wsX2_init) := ggX6_save_X2_init
set_option maxRecDepth 20000 in
theorem ggX6_save_X2_copyFrom : GoodIn wsX6_save wsX2_copyFrom := goodIn_r _ [59, 19, 60, 61, 62, 63, 20, 27, 28, 32, 36, 64, 65, 66, 67, 68, 69, 70, 31, 71, 40, 72, 41, 42, 43, 44, 73, 74, 75, 76, 77, 78, 35, 79, 48, 80, 49, 50, 51, 81, 82, 83, 89, 90, 91, 92, 93, 94, 95, 96, 97, 98, 99, 100, 101, 102, 103, 104, 105, 106, 107, 108, 109, 110, 111, 112, 113] (by decide +kernel) (by decide +kernel)
set_option maxRecDepth 20000 in
theorem gX6_save_X2_copyFrom : GoodIn wsX6_save (wsV RX6 265 RX2 yX2_copyFrom wsX2_copyFrom) := goodIn_app (goodIn_of _ (by decide +kernel)) ggX6_save_X2_copyFrom
theorem dX6_save_0 : decode cX6_save 0 = .ok (.iload_n 1, 1) := by decide +kernel
theorem dX6_save_1 : decode cX6_save 1 = .ok (.invokestatic 262, 3) := by decide +kernel
theorem dX6_save_4 : decode cX6_save 4 = .ok (.ifCond .ne 6, 3) := by decide +kernel
theorem dX6_save_7 : decode cX6_save 7 = .ok (.bipush (-2), 2) := by decide +kernel
theorem dX6_save_9 : decode cX6_save 9 = .ok (.ireturn, 1) := by decide +kernel
theorem dX6_save_10 : decode cX6_save 10 = .ok (.aload_n 0, 1) := by decide +kernel
theorem dX6_save_11 : decode cX6_save 11 = .ok (.getfield 37, 3) := by decide +kernel
theorem dX6_save_14 : decode cX6_save 14 = .ok (.iload_n 1, 1) := by decide +kernel
theorem dX6_save_15 : decode cX6_save 15 = .ok (.aaload, 1) := by decide +kernel
theorem dX6_save_16 : decode cX6_save 16 = .ok (.ifnonnull 16, 3) := by decide +kernel
theorem dX6_save_19 : decode cX6_save 19 = .ok (.aload_n 0, 1) := by decide +kernel
theorem dX6_save_20 : decode cX6_save 20 = .ok (.getfield 37, 3) := by decide +kernel
theorem dX6_save_23 : decode cX6_save 23 = .ok (.iload_n 1, 1) := by decide +kernel
theorem dX6_save_24 : decode cX6_save 24 = .ok (.new 9, 3) := by decide +kernel
theorem dX6_save_27 : decode cX6_save 27 = .ok (.dup, 1) := by decide +kernel
theorem dX6_save_28 : decode cX6_save 28 = .ok (.invokespecial 11, 3) := by decide +kernel
theorem dX6_save_31 : decode cX6_save 31 = .ok (.aastore, 1) := by decide +kernel
theorem dX6_save_32 : decode cX6_save 32 = .ok (.aload_n 0, 1) := by decide +kernel
theorem dX6_save_33 : decode cX6_save 33 = .ok (.getfield 37, 3) := by decide +kernel
theorem dX6_save_36 : decode cX6_save 36 = .ok (.iload_n 1, 1) := by decide +kernel
theorem dX6_save_37 : decode cX6_save 37 = .ok (.aaload, 1) := by decide +kernel
theorem dX6_save_38 : decode cX6_save 38 = .ok (.aload_n 0, 1) := by decide +kernel
theorem dX6_save_39 : decode cX6_save 39 = .ok (.getfield 12, 3) := by decide +kernel
theorem dX6_save_42 : decode cX6_save 42 = .ok (.invokevirtual 265, 3) := by decide +kernel
theorem dX6_save_45 : decode cX6_save 45 = .ok (.aload_n 0, 1) := by decide +kernel
theorem dX6_save_46 : decode cX6_save 46 = .ok (.getfield 12, 3) := by decide +kernel
theorem dX6_save_49 : decode cX6_save 49 = .ok (.getfield 107, 3) := by decide +kernel
theorem dX6_save_52 : decode cX6_save 52 = .ok (.getfield 175, 3) := by decide +kernel
theorem dX6_save_55 : decode cX6_save 55 = .ok (.ireturn, 1) := by decide +kernel
set_option maxRecDepth 20000 in
theorem ggX6_restore_X6_isSlot : GoodIn wsX6_restore wsX6_isSlot := goodIn_r _ [9] (by decide +kernel) (by decide +kernel)
set_option maxRecDepth 20000 in
theorem gX6_restore_X6_isSlot : GoodIn wsX6_restore (va_wsS RX6 262 yX6_isSlot wsX6_isSlot) := goodIn_app (goodIn_of _ (by decide +kernel)) ggX6_restore_X6_isSlot
set_option maxRecDepth 20000 in
theorem ggX6_restore_X1_remember : GoodIn wsX6_restore wsX1_remember := goodIn_r _ [14, 15, 16, 17, 18, 19, 20, 21, 22, 23, 24, 25, 26, 27, 28, 29, 30, 31, 32, 33, 34, 35, 36, 37, 38, 39, 40, 41, 42, 43, 44, 45, 46, 47, 48, 49, 50, 51, 52, 53, 54, 55, 56, 57, 58, 59, 60, 61, 62, 63, 64, 65, 66, 67, 68, 69, 70, 71, 72, 73, 74, 75, 76, 77, 78, 79, 80, 81, 82, 83, 84, 85, 86, 87, 88, 89, 90, 91, 124, 125, 106, 107, 108, 109, 110, 111, 112, 113, 114, 115, 116, 117, 118, 119, 120, 121, 122, 123, 126, 127, 128, 129, 130, 131, 132] (by decide +kernel) (by decide +kernel)
set_option maxRecDepth 20000 in
theorem gX6_restore_X1_remember : GoodIn wsX6_restore (wsV RX6 41 RX1 yX1_remember wsX1_remember) := goodIn_app (goodIn_of _ (by decide +kernel)) ggX6_restore_X1_remember
set_option maxRecDepth 20000 in
theorem ggX6_restore_X2_copyFrom : GoodIn wsX6_restore wsX2_copyFrom := goodIn_r _ [67, 27, 68, 69, 70, 71, 28, 35, 36, 40, 44, 72, 73, 74, 75, 76, 77, 78, 39, 79, 48, 80, 49, 50, 51, 52, 81, 82, 83, 84, 85, 86, 43, 87, 56, 88, 57, 58, 59, 89, 90, 91, 106, 107, 108, 109, 110, 111, 112, 113, 114, 115, 116, 117, 118, 119, 120, 121, 122, 123, 126, 127, 128, 129, 130, 131, 132] (by decide +kernel) (by decide +kernel)
set_option maxRecDepth 20000 in
theorem gX6_restore_X2_copyFrom : GoodIn wsX6_restore (wsV RX6 265 RX2 yX2_copyFrom wsX2_copyFrom) := goodIn_app (goodIn_of _ (by decide +kernel)) ggX6_restore_X2_copyFrom
set_option maxRecDepth 20000 in
theorem ggX6_restore_X1_keepUnlessError : GoodIn wsX6_restore wsX1_keepUnlessError := goodIn_r _ [96, 97, 98, 99, 13, 100, 16, 15, 124, 125] (by decide +kernel) (by decide +kernel)
set_option maxRecDepth 20000 in
theorem gX6_restore_X1_keepUnlessError : GoodIn wsX6_restore (wsV RX6 49 RX1 yX1_keepUnlessError wsX1_keepUnlessError) := goodIn_app (goodIn_of _ (by decide +kernel)) ggX6_restore_X1_keepUnlessError
theorem dX6_restore_0 : decode cX6_restore 0 = .ok (.iload_n 1, 1) := by decide +kernel
theorem dX6_restore_1 : decode cX6_restore 1 = .ok (.invokestatic 262, 3) := by decide +kernel
theorem dX6_restore_4 : decode cX6_restore 4 = .ok (.ifCond .ne 6, 3) := by decide +kernel
theorem dX6_restore_7 : decode cX6_restore 7 = .ok (.bipush (-2), 2) := by decide +kernel
theorem dX6_restore_9 : decode cX6_restore 9 = .ok (.ireturn, 1) := by decide +kernel
theorem dX6_restore_10 : decode cX6_restore 10 = .ok (.aload_n 0, 1) := by decide +kernel
theorem dX6_restore_11 : decode cX6_restore 11 = .ok (.getfield 37, 3) := by decide +kernel
theorem dX6_restore_14 : decode cX6_restore 14 = .ok (.iload_n 1, 1) := by decide +kernel
theorem dX6_restore_15 : decode cX6_restore 15 = .ok (.aaload, 1) := by decide +kernel
theorem dX6_restore_16 : decode cX6_restore 16 = .ok (.astore_n 2, 1) := by decide +kernel
theorem dX6_restore_17 : decode cX6_restore 17 = .ok (.aload_n 2, 1) := by decide +kernel
theorem dX6_restore_18 : decode cX6_restore 18 = .ok (.ifnonnull 6, 3) := by decide +kernel
theorem dX6_restore_21 : decode cX6_restore 21 = .ok (.bipush (-5), 2) := by decide +kernel
theorem dX6_restore_23 : decode cX6_restore 23 = .ok (.ireturn, 1) := by decide +kernel
theorem dX6_restore_24 : decode cX6_restore 24 = .ok (.aload_n 0, 1) := by decide +kernel
theorem dX6_restore_25 : decode cX6_restore 25 = .ok (.getfield 33, 3) := by decide +kernel
theorem dX6_restore_28 : decode cX6_restore 28 = .ok (.aload_n 0, 1) := by decide +kernel
theorem dX6_restore_29 : decode cX6_restore 29 = .ok (.getfield 12, 3) := by decide +kernel
theorem dX6_restore_32 : decode cX6_restore 32 = .ok (.invokevirtual 41, 3) := by decide +kernel
theorem dX6_restore_35 : decode cX6_restore 35 = .ok (.aload_n 0, 1) := by decide +kernel
theorem dX6_restore_36 : decode cX6_restore 36 = .ok (.getfield 12, 3) := by decide +kernel
theorem dX6_restore_39 : decode cX6_restore 39 = .ok (.aload_n 2, 1) := by decide +kernel
theorem dX6_restore_40 : decode cX6_restore 40 = .ok (.invokevirtual 265, 3) := by decide +kernel
theorem dX6_restore_43 : decode cX6_restore 43 = .ok (.aload_n 0, 1) := by decide +kernel
theorem dX6_restore_44 : decode cX6_restore 44 = .ok (.getfield 33, 3) := by decide +kernel
theorem dX6_restore_47 : decode cX6_restore 47 = .ok (.aload_n 0, 1) := by decide +kernel
theorem dX6_restore_48 : decode cX6_restore 48 = .ok (.getfield 12, 3) := by decide +kernel
theorem dX6_restore_51 : decode cX6_restore 51 = .ok (.getfield 107, 3) := by decide +kernel
theorem dX6_restore_54 : decode cX6_restore 54 = .ok (.getfield 175, 3) := by decide +kernel
theorem dX6_restore_57 : decode cX6_restore 57 = .ok (.invokevirtual 49, 3) := by decide +kernel
theorem dX6_restore_60 : decode cX6_restore 60 = .ok (.ireturn, 1) := by decide +kernel
theorem dX6_isGuest_0 : decode cX6_isGuest 0 = .ok (.iload_n 0, 1) := by decide +kernel
theorem dX6_isGuest_1 : decode cX6_isGuest 1 = .ok (.ifCond .lt 13, 3) := by decide +kernel
theorem dX6_isGuest_4 : decode cX6_isGuest 4 = .ok (.iload_n 0, 1) := by decide +kernel
theorem dX6_isGuest_5 : decode cX6_isGuest 5 = .ok (.bipush 6, 2) := by decide +kernel
theorem dX6_isGuest_7 : decode cX6_isGuest 7 = .ok (.if_icmp .ge 7, 3) := by decide +kernel
theorem dX6_isGuest_10 : decode cX6_isGuest 10 = .ok (.iconst 1, 1) := by decide +kernel
theorem dX6_isGuest_11 : decode cX6_isGuest 11 = .ok (.goto 4, 3) := by decide +kernel
theorem dX6_isGuest_14 : decode cX6_isGuest 14 = .ok (.iconst 0, 1) := by decide +kernel
theorem dX6_isGuest_15 : decode cX6_isGuest 15 = .ok (.ireturn, 1) := by decide +kernel
theorem dX6_isPage_0 : decode cX6_isPage 0 = .ok (.iload_n 0, 1) := by decide +kernel
theorem dX6_isPage_1 : decode cX6_isPage 1 = .ok (.ifCond .lt 13, 3) := by decide +kernel
theorem dX6_isPage_4 : decode cX6_isPage 4 = .ok (.iload_n 0, 1) := by decide +kernel
theorem dX6_isPage_5 : decode cX6_isPage 5 = .ok (.bipush 12, 2) := by decide +kernel
theorem dX6_isPage_7 : decode cX6_isPage 7 = .ok (.if_icmp .ge 7, 3) := by decide +kernel
theorem dX6_isPage_10 : decode cX6_isPage 10 = .ok (.iconst 1, 1) := by decide +kernel
theorem dX6_isPage_11 : decode cX6_isPage 11 = .ok (.goto 4, 3) := by decide +kernel
theorem dX6_isPage_14 : decode cX6_isPage 14 = .ok (.iconst 0, 1) := by decide +kernel
theorem dX6_isPage_15 : decode cX6_isPage 15 = .ok (.ireturn, 1) := by decide +kernel
theorem dX6_isDoor_0 : decode cX6_isDoor 0 = .ok (.iload_n 0, 1) := by decide +kernel
theorem dX6_isDoor_1 : decode cX6_isDoor 1 = .ok (.ifCond .lt 23, 3) := by decide +kernel
theorem dX6_isDoor_4 : decode cX6_isDoor 4 = .ok (.iload_n 0, 1) := by decide +kernel
theorem dX6_isDoor_5 : decode cX6_isDoor 5 = .ok (.bipush 6, 2) := by decide +kernel
theorem dX6_isDoor_7 : decode cX6_isDoor 7 = .ok (.if_icmp .ge 17, 3) := by decide +kernel
theorem dX6_isDoor_10 : decode cX6_isDoor 10 = .ok (.iload_n 1, 1) := by decide +kernel
theorem dX6_isDoor_11 : decode cX6_isDoor 11 = .ok (.ifCond .lt 13, 3) := by decide +kernel
theorem dX6_isDoor_14 : decode cX6_isDoor 14 = .ok (.iload_n 1, 1) := by decide +kernel
theorem dX6_isDoor_15 : decode cX6_isDoor 15 = .ok (.bipush 10, 2) := by decide +kernel
theorem dX6_isDoor_17 : decode cX6_isDoor 17 = .ok (.if_icmp .ge 7, 3) := by decide +kernel
theorem dX6_isDoor_20 : decode cX6_isDoor 20 = .ok (.iconst 1, 1) := by decide +kernel
theorem dX6_isDoor_21 : decode cX6_isDoor 21 = .ok (.goto 4, 3) := by decide +kernel
theorem dX6_isDoor_24 : decode cX6_isDoor 24 = .ok (.iconst 0, 1) := by decide +kernel
theorem dX6_isDoor_25 : decode cX6_isDoor 25 = .ok (.ireturn, 1) := by decide +kernel
theorem dX6_isNeed_0 : decode cX6_isNeed 0 = .ok (.iload_n 0, 1) := by decide +kernel
theorem dX6_isNeed_1 : decode cX6_isNeed 1 = .ok (.iconst 1, 1) := by decide +kernel
theorem dX6_isNeed_2 : decode cX6_isNeed 2 = .ok (.if_icmp .eq 8, 3) := by decide +kernel
theorem dX6_isNeed_5 : decode cX6_isNeed 5 = .ok (.iload_n 0, 1) := by decide +kernel
theorem dX6_isNeed_6 : decode cX6_isNeed 6 = .ok (.iconst 2, 1) := by decide +kernel
theorem dX6_isNeed_7 : decode cX6_isNeed 7 = .ok (.if_icmp .ne 7, 3) := by decide +kernel
theorem dX6_isNeed_10 : decode cX6_isNeed 10 = .ok (.iconst 1, 1) := by decide +kernel
theorem dX6_isNeed_11 : decode cX6_isNeed 11 = .ok (.goto 4, 3) := by decide +kernel
theorem dX6_isNeed_14 : decode cX6_isNeed 14 = .ok (.iconst 0, 1) := by decide +kernel
theorem dX6_isNeed_15 : decode cX6_isNeed 15 = .ok (.ireturn, 1) := by decide +kernel
theorem dX6_areRights_0 : decode cX6_areRights 0 = .ok (.iload_n 0, 1) := by decide +kernel
theorem dX6_areRights_1 : decode cX6_areRights 1 = .ok (.iconst 1, 1) := by decide +kernel
theorem dX6_areRights_2 : decode cX6_areRights 2 = .ok (.if_icmp .lt 13, 3) := by decide +kernel
theorem dX6_areRights_5 : decode cX6_areRights 5 = .ok (.iload_n 0, 1) := by decide +kernel
theorem dX6_areRights_6 : decode cX6_areRights 6 = .ok (.bipush 7, 2) := by decide +kernel
theorem dX6_areRights_8 : decode cX6_areRights 8 = .ok (.if_icmp .gt 7, 3) := by decide +kernel
theorem dX6_areRights_11 : decode cX6_areRights 11 = .ok (.iconst 1, 1) := by decide +kernel
theorem dX6_areRights_12 : decode cX6_areRights 12 = .ok (.goto 4, 3) := by decide +kernel
theorem dX6_areRights_15 : decode cX6_areRights 15 = .ok (.iconst 0, 1) := by decide +kernel
theorem dX6_areRights_16 : decode cX6_areRights 16 = .ok (.ireturn, 1) := by decide +kernel
theorem dX6_isSlot_0 : decode cX6_isSlot 0 = .ok (.iload_n 0, 1) := by decide +kernel
theorem dX6_isSlot_1 : decode cX6_isSlot 1 = .ok (.ifCond .lt 12, 3) := by decide +kernel
theorem dX6_isSlot_4 : decode cX6_isSlot 4 = .ok (.iload_n 0, 1) := by decide +kernel
theorem dX6_isSlot_5 : decode cX6_isSlot 5 = .ok (.iconst 2, 1) := by decide +kernel
theorem dX6_isSlot_6 : decode cX6_isSlot 6 = .ok (.if_icmp .ge 7, 3) := by decide +kernel
theorem dX6_isSlot_9 : decode cX6_isSlot 9 = .ok (.iconst 1, 1) := by decide +kernel
theorem dX6_isSlot_10 : decode cX6_isSlot 10 = .ok (.goto 4, 3) := by decide +kernel
theorem dX6_isSlot_13 : decode cX6_isSlot 13 = .ok (.iconst 0, 1) := by decide +kernel
theorem dX6_isSlot_14 : decode cX6_isSlot 14 = .ok (.ireturn, 1) := by decide +kernel
theorem dX6_isIn_0 : decode cX6_isIn 0 = .ok (.lload_n 0, 1) := by decide +kernel
theorem dX6_isIn_1 : decode cX6_isIn 1 = .ok (.iload_n 2, 1) := by decide +kernel
theorem dX6_isIn_2 : decode cX6_isIn 2 = .ok (.lushr, 1) := by decide +kernel
theorem dX6_isIn_3 : decode cX6_isIn 3 = .ok (.lconst 1, 1) := by decide +kernel
theorem dX6_isIn_4 : decode cX6_isIn 4 = .ok (.land, 1) := by decide +kernel
theorem dX6_isIn_5 : decode cX6_isIn 5 = .ok (.lconst 0, 1) := by decide +kernel
theorem dX6_isIn_6 : decode cX6_isIn 6 = .ok (.lcmp, 1) := by decide +kernel
theorem dX6_isIn_7 : decode cX6_isIn 7 = .ok (.ifCond .eq 7, 3) := by decide +kernel
theorem dX6_isIn_10 : decode cX6_isIn 10 = .ok (.iconst 1, 1) := by decide +kernel
theorem dX6_isIn_11 : decode cX6_isIn 11 = .ok (.goto 4, 3) := by decide +kernel
theorem dX6_isIn_14 : decode cX6_isIn 14 = .ok (.iconst 0, 1) := by decide +kernel
theorem dX6_isIn_15 : decode cX6_isIn 15 = .ok (.ireturn, 1) := by decide +kernel
theorem dJ13_bitCount_95d88_0 : decode cJ13_bitCount_95d88 0 = .ok (.lload_n 0, 1) := by decide +kernel
theorem dJ13_bitCount_95d88_1 : decode cJ13_bitCount_95d88 1 = .ok (.lload_n 0, 1) := by decide +kernel
theorem dJ13_bitCount_95d88_2 : decode cJ13_bitCount_95d88 2 = .ok (.iconst 1, 1) := by decide +kernel
theorem dJ13_bitCount_95d88_3 : decode cJ13_bitCount_95d88 3 = .ok (.lushr, 1) := by decide +kernel
theorem dJ13_bitCount_95d88_4 : decode cJ13_bitCount_95d88 4 = .ok (.ldc2_w 314, 3) := by decide +kernel
theorem dJ13_bitCount_95d88_7 : decode cJ13_bitCount_95d88 7 = .ok (.land, 1) := by decide +kernel
theorem dJ13_bitCount_95d88_8 : decode cJ13_bitCount_95d88 8 = .ok (.lsub, 1) := by decide +kernel
theorem dJ13_bitCount_95d88_9 : decode cJ13_bitCount_95d88 9 = .ok (.lstore_n 0, 1) := by decide +kernel
theorem dJ13_bitCount_95d88_10 : decode cJ13_bitCount_95d88 10 = .ok (.lload_n 0, 1) := by decide +kernel
theorem dJ13_bitCount_95d88_11 : decode cJ13_bitCount_95d88 11 = .ok (.ldc2_w 316, 3) := by decide +kernel
theorem dJ13_bitCount_95d88_14 : decode cJ13_bitCount_95d88 14 = .ok (.land, 1) := by decide +kernel
theorem dJ13_bitCount_95d88_15 : decode cJ13_bitCount_95d88 15 = .ok (.lload_n 0, 1) := by decide +kernel
theorem dJ13_bitCount_95d88_16 : decode cJ13_bitCount_95d88 16 = .ok (.iconst 2, 1) := by decide +kernel
theorem dJ13_bitCount_95d88_17 : decode cJ13_bitCount_95d88 17 = .ok (.lushr, 1) := by decide +kernel
theorem dJ13_bitCount_95d88_18 : decode cJ13_bitCount_95d88 18 = .ok (.ldc2_w 316, 3) := by decide +kernel
theorem dJ13_bitCount_95d88_21 : decode cJ13_bitCount_95d88 21 = .ok (.land, 1) := by decide +kernel
theorem dJ13_bitCount_95d88_22 : decode cJ13_bitCount_95d88 22 = .ok (.ladd, 1) := by decide +kernel
theorem dJ13_bitCount_95d88_23 : decode cJ13_bitCount_95d88 23 = .ok (.lstore_n 0, 1) := by decide +kernel
theorem dJ13_bitCount_95d88_24 : decode cJ13_bitCount_95d88 24 = .ok (.lload_n 0, 1) := by decide +kernel
theorem dJ13_bitCount_95d88_25 : decode cJ13_bitCount_95d88 25 = .ok (.lload_n 0, 1) := by decide +kernel
theorem dJ13_bitCount_95d88_26 : decode cJ13_bitCount_95d88 26 = .ok (.iconst 4, 1) := by decide +kernel
theorem dJ13_bitCount_95d88_27 : decode cJ13_bitCount_95d88 27 = .ok (.lushr, 1) := by decide +kernel
theorem dJ13_bitCount_95d88_28 : decode cJ13_bitCount_95d88 28 = .ok (.ladd, 1) := by decide +kernel
theorem dJ13_bitCount_95d88_29 : decode cJ13_bitCount_95d88 29 = .ok (.ldc2_w 318, 3) := by decide +kernel
theorem dJ13_bitCount_95d88_32 : decode cJ13_bitCount_95d88 32 = .ok (.land, 1) := by decide +kernel
theorem dJ13_bitCount_95d88_33 : decode cJ13_bitCount_95d88 33 = .ok (.lstore_n 0, 1) := by decide +kernel
theorem dJ13_bitCount_95d88_34 : decode cJ13_bitCount_95d88 34 = .ok (.lload_n 0, 1) := by decide +kernel
theorem dJ13_bitCount_95d88_35 : decode cJ13_bitCount_95d88 35 = .ok (.lload_n 0, 1) := by decide +kernel
theorem dJ13_bitCount_95d88_36 : decode cJ13_bitCount_95d88 36 = .ok (.bipush 8, 2) := by decide +kernel
theorem dJ13_bitCount_95d88_38 : decode cJ13_bitCount_95d88 38 = .ok (.lushr, 1) := by decide +kernel
theorem dJ13_bitCount_95d88_39 : decode cJ13_bitCount_95d88 39 = .ok (.ladd, 1) := by decide +kernel
theorem dJ13_bitCount_95d88_40 : decode cJ13_bitCount_95d88 40 = .ok (.lstore_n 0, 1) := by decide +kernel
theorem dJ13_bitCount_95d88_41 : decode cJ13_bitCount_95d88 41 = .ok (.lload_n 0, 1) := by decide +kernel
theorem dJ13_bitCount_95d88_42 : decode cJ13_bitCount_95d88 42 = .ok (.lload_n 0, 1) := by decide +kernel
theorem dJ13_bitCount_95d88_43 : decode cJ13_bitCount_95d88 43 = .ok (.bipush 16, 2) := by decide +kernel
theorem dJ13_bitCount_95d88_45 : decode cJ13_bitCount_95d88 45 = .ok (.lushr, 1) := by decide +kernel
theorem dJ13_bitCount_95d88_46 : decode cJ13_bitCount_95d88 46 = .ok (.ladd, 1) := by decide +kernel
theorem dJ13_bitCount_95d88_47 : decode cJ13_bitCount_95d88 47 = .ok (.lstore_n 0, 1) := by decide +kernel
theorem dJ13_bitCount_95d88_48 : decode cJ13_bitCount_95d88 48 = .ok (.lload_n 0, 1) := by decide +kernel
theorem dJ13_bitCount_95d88_49 : decode cJ13_bitCount_95d88 49 = .ok (.lload_n 0, 1) := by decide +kernel
theorem dJ13_bitCount_95d88_50 : decode cJ13_bitCount_95d88 50 = .ok (.bipush 32, 2) := by decide +kernel
theorem dJ13_bitCount_95d88_52 : decode cJ13_bitCount_95d88 52 = .ok (.lushr, 1) := by decide +kernel
theorem dJ13_bitCount_95d88_53 : decode cJ13_bitCount_95d88 53 = .ok (.ladd, 1) := by decide +kernel
theorem dJ13_bitCount_95d88_54 : decode cJ13_bitCount_95d88 54 = .ok (.lstore_n 0, 1) := by decide +kernel
theorem dJ13_bitCount_95d88_55 : decode cJ13_bitCount_95d88 55 = .ok (.lload_n 0, 1) := by decide +kernel
theorem dJ13_bitCount_95d88_56 : decode cJ13_bitCount_95d88 56 = .ok (.l2i, 1) := by decide +kernel
theorem dJ13_bitCount_95d88_57 : decode cJ13_bitCount_95d88 57 = .ok (.bipush 127, 2) := by decide +kernel
theorem dJ13_bitCount_95d88_59 : decode cJ13_bitCount_95d88 59 = .ok (.iand, 1) := by decide +kernel
theorem dJ13_bitCount_95d88_60 : decode cJ13_bitCount_95d88 60 = .ok (.ireturn, 1) := by decide +kernel
set_option maxRecDepth 20000 in
theorem ggJ0_length_8abf5_J0_coder_7d493 : GoodIn wsJ0_length_8abf5 wsJ0_coder_7d493 := goodIn_r _ [6, 7, 8] (by decide +kernel) (by decide +kernel)
set_option maxRecDepth 20000 in
theorem gJ0_length_8abf5_J0_coder_7d493 : GoodIn wsJ0_length_8abf5 (wsV RJ0 335 RJ0 yJ0_coder_7d493 wsJ0_coder_7d493) := goodIn_app (goodIn_of _ (by decide +kernel)) ggJ0_length_8abf5_J0_coder_7d493
theorem dJ0_length_8abf5_0 : decode cJ0_length_8abf5 0 = .ok (.aload_n 0, 1) := by decide +kernel
theorem dJ0_length_8abf5_1 : decode cJ0_length_8abf5 1 = .ok (.getfield 9, 3) := by decide +kernel
theorem dJ0_length_8abf5_4 : decode cJ0_length_8abf5 4 = .ok (.arraylength, 1) := by decide +kernel
theorem dJ0_length_8abf5_5 : decode cJ0_length_8abf5 5 = .ok (.aload_n 0, 1) := by decide +kernel
theorem dJ0_length_8abf5_6 : decode cJ0_length_8abf5 6 = .ok (.invokevirtual 335, 3) := by decide +kernel
theorem dJ0_length_8abf5_9 : decode cJ0_length_8abf5 9 = .ok (.ishr, 1) := by decide +kernel
theorem dJ0_length_8abf5_10 : decode cJ0_length_8abf5 10 = .ok (.ireturn, 1) := by decide +kernel
theorem dJ0_isEmpty_aae02_0 : decode cJ0_isEmpty_aae02 0 = .ok (.aload_n 0, 1) := by decide +kernel
theorem dJ0_isEmpty_aae02_1 : decode cJ0_isEmpty_aae02 1 = .ok (.getfield 9, 3) := by decide +kernel
theorem dJ0_isEmpty_aae02_4 : decode cJ0_isEmpty_aae02 4 = .ok (.arraylength, 1) := by decide +kernel
theorem dJ0_isEmpty_aae02_5 : decode cJ0_isEmpty_aae02 5 = .ok (.ifCond .ne 7, 3) := by decide +kernel
theorem dJ0_isEmpty_aae02_8 : decode cJ0_isEmpty_aae02 8 = .ok (.iconst 1, 1) := by decide +kernel
theorem dJ0_isEmpty_aae02_9 : decode cJ0_isEmpty_aae02 9 = .ok (.goto 4, 3) := by decide +kernel
theorem dJ0_isEmpty_aae02_12 : decode cJ0_isEmpty_aae02 12 = .ok (.iconst 0, 1) := by decide +kernel
theorem dJ0_isEmpty_aae02_13 : decode cJ0_isEmpty_aae02 13 = .ok (.ireturn, 1) := by decide +kernel
set_option maxRecDepth 20000 in
theorem ggJ0_charAt_5068e_J0_isLatin1_aae02 : GoodIn wsJ0_charAt_5068e wsJ0_isLatin1_aae02 := goodIn_r _ [6, 7, 8] (by decide +kernel) (by decide +kernel)
set_option maxRecDepth 20000 in
theorem gJ0_charAt_5068e_J0_isLatin1_aae02 : GoodIn wsJ0_charAt_5068e (wsV RJ0 492 RJ0 yJ0_isLatin1_aae02 wsJ0_isLatin1_aae02) := goodIn_app (goodIn_of _ (by decide +kernel)) ggJ0_charAt_5068e_J0_isLatin1_aae02
set_option maxRecDepth 20000 in
theorem ggJ0_charAt_5068e_J1_charAt_3b067 : GoodIn wsJ0_charAt_5068e wsJ1_charAt_3b067 := goodIn_r _ [12, 13, 14, 5, 15, 16, 17, 18, 19, 20] (by decide +kernel) (by decide +kernel)
set_option maxRecDepth 20000 in
theorem gJ0_charAt_5068e_J1_charAt_3b067 : GoodIn wsJ0_charAt_5068e (va_wsS RJ0 495 yJ1_charAt_3b067 wsJ1_charAt_3b067) := goodIn_app (goodIn_of _ (by decide +kernel)) ggJ0_charAt_5068e_J1_charAt_3b067
set_option maxRecDepth 20000 in
theorem ggJ0_charAt_5068e_J2_charAt_3b067 : GoodIn wsJ0_charAt_5068e wsJ2_charAt_3b067 := goodIn_r _ [24, 25, 26, 23, 27, 28, 29, 30, 31, 14, 5, 15, 16, 17, 18, 19, 20, 32, 33, 34, 35, 36, 37] (by decide +kernel) (by decide +kernel)
set_option maxRecDepth 20000 in
theorem gJ0_charAt_5068e_J2_charAt_3b067 : GoodIn wsJ0_charAt_5068e (va_wsS RJ0 498 yJ2_charAt_3b067 wsJ2_charAt_3b067) := goodIn_app (goodIn_of _ (by decide +kernel)) ggJ0_charAt_5068e_J2_charAt_3b067
theorem dJ0_charAt_5068e_0 : decode cJ0_charAt_5068e 0 = .ok (.aload_n 0, 1) := by decide +kernel
theorem dJ0_charAt_5068e_1 : decode cJ0_charAt_5068e 1 = .ok (.invokevirtual 492, 3) := by decide +kernel
theorem dJ0_charAt_5068e_4 : decode cJ0_charAt_5068e 4 = .ok (.ifCond .eq 12, 3) := by decide +kernel
theorem dJ0_charAt_5068e_7 : decode cJ0_charAt_5068e 7 = .ok (.aload_n 0, 1) := by decide +kernel
theorem dJ0_charAt_5068e_8 : decode cJ0_charAt_5068e 8 = .ok (.getfield 9, 3) := by decide +kernel
theorem dJ0_charAt_5068e_11 : decode cJ0_charAt_5068e 11 = .ok (.iload_n 1, 1) := by decide +kernel
theorem dJ0_charAt_5068e_12 : decode cJ0_charAt_5068e 12 = .ok (.invokestatic 495, 3) := by decide +kernel
theorem dJ0_charAt_5068e_15 : decode cJ0_charAt_5068e 15 = .ok (.ireturn, 1) := by decide +kernel
theorem dJ0_charAt_5068e_16 : decode cJ0_charAt_5068e 16 = .ok (.aload_n 0, 1) := by decide +kernel
theorem dJ0_charAt_5068e_17 : decode cJ0_charAt_5068e 17 = .ok (.getfield 9, 3) := by decide +kernel
theorem dJ0_charAt_5068e_20 : decode cJ0_charAt_5068e 20 = .ok (.iload_n 1, 1) := by decide +kernel
theorem dJ0_charAt_5068e_21 : decode cJ0_charAt_5068e 21 = .ok (.invokestatic 498, 3) := by decide +kernel
theorem dJ0_charAt_5068e_24 : decode cJ0_charAt_5068e 24 = .ok (.ireturn, 1) := by decide +kernel
theorem dJ0_coder_7d493_0 : decode cJ0_coder_7d493 0 = .ok (.getstatic 38, 3) := by decide +kernel
theorem dJ0_coder_7d493_3 : decode cJ0_coder_7d493 3 = .ok (.ifCond .eq 10, 3) := by decide +kernel
theorem dJ0_coder_7d493_6 : decode cJ0_coder_7d493 6 = .ok (.aload_n 0, 1) := by decide +kernel
theorem dJ0_coder_7d493_7 : decode cJ0_coder_7d493 7 = .ok (.getfield 15, 3) := by decide +kernel
theorem dJ0_coder_7d493_10 : decode cJ0_coder_7d493 10 = .ok (.goto 4, 3) := by decide +kernel
theorem dJ0_coder_7d493_13 : decode cJ0_coder_7d493 13 = .ok (.iconst 1, 1) := by decide +kernel
theorem dJ0_coder_7d493_14 : decode cJ0_coder_7d493 14 = .ok (.ireturn, 1) := by decide +kernel
theorem dJ0_isLatin1_aae02_0 : decode cJ0_isLatin1_aae02 0 = .ok (.getstatic 38, 3) := by decide +kernel
theorem dJ0_isLatin1_aae02_3 : decode cJ0_isLatin1_aae02 3 = .ok (.ifCond .eq 14, 3) := by decide +kernel
theorem dJ0_isLatin1_aae02_6 : decode cJ0_isLatin1_aae02 6 = .ok (.aload_n 0, 1) := by decide +kernel
theorem dJ0_isLatin1_aae02_7 : decode cJ0_isLatin1_aae02 7 = .ok (.getfield 15, 3) := by decide +kernel
theorem dJ0_isLatin1_aae02_10 : decode cJ0_isLatin1_aae02 10 = .ok (.ifCond .ne 7, 3) := by decide +kernel
theorem dJ0_isLatin1_aae02_13 : decode cJ0_isLatin1_aae02 13 = .ok (.iconst 1, 1) := by decide +kernel
theorem dJ0_isLatin1_aae02_14 : decode cJ0_isLatin1_aae02 14 = .ok (.goto 4, 3) := by decide +kernel
theorem dJ0_isLatin1_aae02_17 : decode cJ0_isLatin1_aae02 17 = .ok (.iconst 0, 1) := by decide +kernel
theorem dJ0_isLatin1_aae02_18 : decode cJ0_isLatin1_aae02 18 = .ok (.ireturn, 1) := by decide +kernel
set_option maxRecDepth 20000 in
theorem ggJ0_checkIndex_df160_J3_checkIndex_8e157 : GoodIn wsJ0_checkIndex_df160 wsJ3_checkIndex_8e157 := goodIn_r _ [5] (by decide +kernel) (by decide +kernel)
set_option maxRecDepth 20000 in
theorem gJ0_checkIndex_df160_J3_checkIndex_8e157 : GoodIn wsJ0_checkIndex_df160 (va_wsS RJ0 1059 yJ3_checkIndex_8e157 wsJ3_checkIndex_8e157) := goodIn_app (goodIn_of _ (by decide +kernel)) ggJ0_checkIndex_df160_J3_checkIndex_8e157
theorem dJ0_checkIndex_df160_0 : decode cJ0_checkIndex_df160 0 = .ok (.iload_n 0, 1) := by decide +kernel
theorem dJ0_checkIndex_df160_1 : decode cJ0_checkIndex_df160 1 = .ok (.iload_n 1, 1) := by decide +kernel
theorem dJ0_checkIndex_df160_2 : decode cJ0_checkIndex_df160 2 = .ok (.getstatic 1053, 3) := by decide +kernel
theorem dJ0_checkIndex_df160_5 : decode cJ0_checkIndex_df160 5 = .ok (.invokestatic 1059, 3) := by decide +kernel
theorem dJ0_checkIndex_df160_8 : decode cJ0_checkIndex_df160 8 = .ok (.pop, 1) := by decide +kernel
theorem dJ0_checkIndex_df160_9 : decode cJ0_checkIndex_df160 9 = .ok (.return_, 1) := by decide +kernel
set_option maxRecDepth 20000 in
theorem ggJ1_charAt_3b067_J0_checkIndex_df160 : GoodIn wsJ1_charAt_3b067 wsJ0_checkIndex_df160 := goodIn_r _ [4, 5, 6, 7, 8, 9] (by decide +kernel) (by decide +kernel)
set_option maxRecDepth 20000 in
theorem gJ1_charAt_3b067_J0_checkIndex_df160 : GoodIn wsJ1_charAt_3b067 (va_wsS RJ1 9 yJ0_checkIndex_df160 wsJ0_checkIndex_df160) := goodIn_app (goodIn_of _ (by decide +kernel)) ggJ1_charAt_3b067_J0_checkIndex_df160
theorem dJ1_charAt_3b067_0 : decode cJ1_charAt_3b067 0 = .ok (.iload_n 1, 1) := by decide +kernel
theorem dJ1_charAt_3b067_1 : decode cJ1_charAt_3b067 1 = .ok (.aload_n 0, 1) := by decide +kernel
theorem dJ1_charAt_3b067_2 : decode cJ1_charAt_3b067 2 = .ok (.arraylength, 1) := by decide +kernel
theorem dJ1_charAt_3b067_3 : decode cJ1_charAt_3b067 3 = .ok (.invokestatic 9, 3) := by decide +kernel
theorem dJ1_charAt_3b067_6 : decode cJ1_charAt_3b067 6 = .ok (.aload_n 0, 1) := by decide +kernel
theorem dJ1_charAt_3b067_7 : decode cJ1_charAt_3b067 7 = .ok (.iload_n 1, 1) := by decide +kernel
theorem dJ1_charAt_3b067_8 : decode cJ1_charAt_3b067 8 = .ok (.baload, 1) := by decide +kernel
theorem dJ1_charAt_3b067_9 : decode cJ1_charAt_3b067 9 = .ok (.sipush 255, 3) := by decide +kernel
theorem dJ1_charAt_3b067_12 : decode cJ1_charAt_3b067 12 = .ok (.iand, 1) := by decide +kernel
theorem dJ1_charAt_3b067_13 : decode cJ1_charAt_3b067 13 = .ok (.i2c, 1) := by decide +kernel
theorem dJ1_charAt_3b067_14 : decode cJ1_charAt_3b067 14 = .ok (.ireturn, 1) := by decide +kernel
set_option maxRecDepth 20000 in
theorem ggJ2_getChar_3b067_J2_length_9d52b : GoodIn wsJ2_getChar_3b067 wsJ2_length_9d52b := goodIn_r _ [7] (by decide +kernel) (by decide +kernel)
set_option maxRecDepth 20000 in
theorem gJ2_getChar_3b067_J2_length_9d52b : GoodIn wsJ2_getChar_3b067 (va_wsS RJ2 48 yJ2_length_9d52b wsJ2_length_9d52b) := goodIn_app (goodIn_of _ (by decide +kernel)) ggJ2_getChar_3b067_J2_length_9d52b
theorem dJ2_getChar_3b067_0 : decode cJ2_getChar_3b067 0 = .ok (.getstatic 44, 3) := by decide +kernel
theorem dJ2_getChar_3b067_3 : decode cJ2_getChar_3b067 3 = .ok (.ifCond .ne 25, 3) := by decide +kernel
theorem dJ2_getChar_3b067_6 : decode cJ2_getChar_3b067 6 = .ok (.iload_n 1, 1) := by decide +kernel
theorem dJ2_getChar_3b067_7 : decode cJ2_getChar_3b067 7 = .ok (.ifCond .lt 11, 3) := by decide +kernel
theorem dJ2_getChar_3b067_10 : decode cJ2_getChar_3b067 10 = .ok (.iload_n 1, 1) := by decide +kernel
theorem dJ2_getChar_3b067_11 : decode cJ2_getChar_3b067 11 = .ok (.aload_n 0, 1) := by decide +kernel
theorem dJ2_getChar_3b067_12 : decode cJ2_getChar_3b067 12 = .ok (.invokestatic 48, 3) := by decide +kernel
theorem dJ2_getChar_3b067_15 : decode cJ2_getChar_3b067 15 = .ok (.if_icmp .lt 13, 3) := by decide +kernel
theorem dJ2_getChar_3b067_18 : decode cJ2_getChar_3b067 18 = .ok (.new 52, 3) := by decide +kernel
theorem dJ2_getChar_3b067_21 : decode cJ2_getChar_3b067 21 = .ok (.dup, 1) := by decide +kernel
theorem dJ2_getChar_3b067_22 : decode cJ2_getChar_3b067 22 = .ok (.ldc 54, 2) := by decide +kernel
theorem dJ2_getChar_3b067_24 : decode cJ2_getChar_3b067 24 = .ok (.invokespecial 56, 3) := by decide +kernel
theorem dJ2_getChar_3b067_27 : decode cJ2_getChar_3b067 27 = .ok (.athrow, 1) := by decide +kernel
theorem dJ2_getChar_3b067_28 : decode cJ2_getChar_3b067 28 = .ok (.iload_n 1, 1) := by decide +kernel
theorem dJ2_getChar_3b067_29 : decode cJ2_getChar_3b067 29 = .ok (.iconst 1, 1) := by decide +kernel
theorem dJ2_getChar_3b067_30 : decode cJ2_getChar_3b067 30 = .ok (.ishl, 1) := by decide +kernel
theorem dJ2_getChar_3b067_31 : decode cJ2_getChar_3b067 31 = .ok (.istore_n 1, 1) := by decide +kernel
theorem dJ2_getChar_3b067_32 : decode cJ2_getChar_3b067 32 = .ok (.aload_n 0, 1) := by decide +kernel
theorem dJ2_getChar_3b067_33 : decode cJ2_getChar_3b067 33 = .ok (.iload_n 1, 1) := by decide +kernel
theorem dJ2_getChar_3b067_34 : decode cJ2_getChar_3b067 34 = .ok (.iinc 1 1, 3) := by decide +kernel
theorem dJ2_getChar_3b067_37 : decode cJ2_getChar_3b067 37 = .ok (.baload, 1) := by decide +kernel
theorem dJ2_getChar_3b067_38 : decode cJ2_getChar_3b067 38 = .ok (.sipush 255, 3) := by decide +kernel
theorem dJ2_getChar_3b067_41 : decode cJ2_getChar_3b067 41 = .ok (.iand, 1) := by decide +kernel
theorem dJ2_getChar_3b067_42 : decode cJ2_getChar_3b067 42 = .ok (.getstatic 59, 3) := by decide +kernel
theorem dJ2_getChar_3b067_45 : decode cJ2_getChar_3b067 45 = .ok (.ishl, 1) := by decide +kernel
theorem dJ2_getChar_3b067_46 : decode cJ2_getChar_3b067 46 = .ok (.aload_n 0, 1) := by decide +kernel
theorem dJ2_getChar_3b067_47 : decode cJ2_getChar_3b067 47 = .ok (.iload_n 1, 1) := by decide +kernel
theorem dJ2_getChar_3b067_48 : decode cJ2_getChar_3b067 48 = .ok (.baload, 1) := by decide +kernel
theorem dJ2_getChar_3b067_49 : decode cJ2_getChar_3b067 49 = .ok (.sipush 255, 3) := by decide +kernel
theorem dJ2_getChar_3b067_52 : decode cJ2_getChar_3b067 52 = .ok (.iand, 1) := by decide +kernel
theorem dJ2_getChar_3b067_53 : decode cJ2_getChar_3b067 53 = .ok (.getstatic 63, 3) := by decide +kernel
theorem dJ2_getChar_3b067_56 : decode cJ2_getChar_3b067 56 = .ok (.ishl, 1) := by decide +kernel
theorem dJ2_getChar_3b067_57 : decode cJ2_getChar_3b067 57 = .ok (.ior, 1) := by decide +kernel
theorem dJ2_getChar_3b067_58 : decode cJ2_getChar_3b067 58 = .ok (.i2c, 1) := by decide +kernel
theorem dJ2_getChar_3b067_59 : decode cJ2_getChar_3b067 59 = .ok (.ireturn, 1) := by decide +kernel
theorem dJ2_length_9d52b_0 : decode cJ2_length_9d52b 0 = .ok (.aload_n 0, 1) := by decide +kernel
theorem dJ2_length_9d52b_1 : decode cJ2_length_9d52b 1 = .ok (.arraylength, 1) := by decide +kernel
theorem dJ2_length_9d52b_2 : decode cJ2_length_9d52b 2 = .ok (.iconst 1, 1) := by decide +kernel
theorem dJ2_length_9d52b_3 : decode cJ2_length_9d52b 3 = .ok (.ishr, 1) := by decide +kernel
theorem dJ2_length_9d52b_4 : decode cJ2_length_9d52b 4 = .ok (.ireturn, 1) := by decide +kernel
set_option maxRecDepth 20000 in
theorem ggJ2_charAt_3b067_J2_checkIndex_2214a : GoodIn wsJ2_charAt_3b067 wsJ2_checkIndex_2214a := goodIn_r _ [4, 5, 6, 3, 7, 8, 9, 10, 11, 12, 13, 14, 15, 16] (by decide +kernel) (by decide +kernel)
set_option maxRecDepth 20000 in
theorem gJ2_charAt_3b067_J2_checkIndex_2214a : GoodIn wsJ2_charAt_3b067 (va_wsS RJ2 67 yJ2_checkIndex_2214a wsJ2_checkIndex_2214a) := goodIn_app (goodIn_of _ (by decide +kernel)) ggJ2_charAt_3b067_J2_checkIndex_2214a
set_option maxRecDepth 20000 in
theorem ggJ2_charAt_3b067_J2_getChar_3b067 : GoodIn wsJ2_charAt_3b067 wsJ2_getChar_3b067 := goodIn_r _ [19, 20, 21, 22, 5, 6, 3, 7] (by decide +kernel) (by decide +kernel)
set_option maxRecDepth 20000 in
theorem gJ2_charAt_3b067_J2_getChar_3b067 : GoodIn wsJ2_charAt_3b067 (va_wsS RJ2 71 yJ2_getChar_3b067 wsJ2_getChar_3b067) := goodIn_app (goodIn_of _ (by decide +kernel)) ggJ2_charAt_3b067_J2_getChar_3b067
theorem dJ2_charAt_3b067_0 : decode cJ2_charAt_3b067 0 = .ok (.iload_n 1, 1) := by decide +kernel
theorem dJ2_charAt_3b067_1 : decode cJ2_charAt_3b067 1 = .ok (.aload_n 0, 1) := by decide +kernel
theorem dJ2_charAt_3b067_2 : decode cJ2_charAt_3b067 2 = .ok (.invokestatic 67, 3) := by decide +kernel
theorem dJ2_charAt_3b067_5 : decode cJ2_charAt_3b067 5 = .ok (.aload_n 0, 1) := by decide +kernel
theorem dJ2_charAt_3b067_6 : decode cJ2_charAt_3b067 6 = .ok (.iload_n 1, 1) := by decide +kernel
theorem dJ2_charAt_3b067_7 : decode cJ2_charAt_3b067 7 = .ok (.invokestatic 71, 3) := by decide +kernel
theorem dJ2_charAt_3b067_10 : decode cJ2_charAt_3b067 10 = .ok (.ireturn, 1) := by decide +kernel
set_option maxRecDepth 20000 in
theorem ggJ2_checkIndex_2214a_J2_length_9d52b : GoodIn wsJ2_checkIndex_2214a wsJ2_length_9d52b := goodIn_r _ [4] (by decide +kernel) (by decide +kernel)
set_option maxRecDepth 20000 in
theorem gJ2_checkIndex_2214a_J2_length_9d52b : GoodIn wsJ2_checkIndex_2214a (va_wsS RJ2 48 yJ2_length_9d52b wsJ2_length_9d52b) := goodIn_app (goodIn_of _ (by decide +kernel)) ggJ2_checkIndex_2214a_J2_length_9d52b
set_option maxRecDepth 20000 in
theorem ggJ2_checkIndex_2214a_J0_checkIndex_df160 : GoodIn wsJ2_checkIndex_2214a wsJ0_checkIndex_df160 := goodIn_r _ [8, 9, 10, 11, 12, 13] (by decide +kernel) (by decide +kernel)
set_option maxRecDepth 20000 in
theorem gJ2_checkIndex_2214a_J0_checkIndex_df160 : GoodIn wsJ2_checkIndex_2214a (va_wsS RJ2 414 yJ0_checkIndex_df160 wsJ0_checkIndex_df160) := goodIn_app (goodIn_of _ (by decide +kernel)) ggJ2_checkIndex_2214a_J0_checkIndex_df160
theorem dJ2_checkIndex_2214a_0 : decode cJ2_checkIndex_2214a 0 = .ok (.iload_n 0, 1) := by decide +kernel
theorem dJ2_checkIndex_2214a_1 : decode cJ2_checkIndex_2214a 1 = .ok (.aload_n 1, 1) := by decide +kernel
theorem dJ2_checkIndex_2214a_2 : decode cJ2_checkIndex_2214a 2 = .ok (.invokestatic 48, 3) := by decide +kernel
theorem dJ2_checkIndex_2214a_5 : decode cJ2_checkIndex_2214a 5 = .ok (.invokestatic 414, 3) := by decide +kernel
theorem dJ2_checkIndex_2214a_8 : decode cJ2_checkIndex_2214a 8 = .ok (.return_, 1) := by decide +kernel
theorem dJ7_fill_53178_0 : decode cJ7_fill_53178 0 = .ok (.iconst 0, 1) := by decide +kernel
theorem dJ7_fill_53178_1 : decode cJ7_fill_53178 1 = .ok (.istore_n 2, 1) := by decide +kernel
theorem dJ7_fill_53178_2 : decode cJ7_fill_53178 2 = .ok (.aload_n 0, 1) := by decide +kernel
theorem dJ7_fill_53178_3 : decode cJ7_fill_53178 3 = .ok (.arraylength, 1) := by decide +kernel
theorem dJ7_fill_53178_4 : decode cJ7_fill_53178 4 = .ok (.istore_n 3, 1) := by decide +kernel
theorem dJ7_fill_53178_5 : decode cJ7_fill_53178 5 = .ok (.iload_n 2, 1) := by decide +kernel
theorem dJ7_fill_53178_6 : decode cJ7_fill_53178 6 = .ok (.iload_n 3, 1) := by decide +kernel
theorem dJ7_fill_53178_7 : decode cJ7_fill_53178 7 = .ok (.if_icmp .ge 13, 3) := by decide +kernel
theorem dJ7_fill_53178_10 : decode cJ7_fill_53178 10 = .ok (.aload_n 0, 1) := by decide +kernel
theorem dJ7_fill_53178_11 : decode cJ7_fill_53178 11 = .ok (.iload_n 2, 1) := by decide +kernel
theorem dJ7_fill_53178_12 : decode cJ7_fill_53178 12 = .ok (.iload_n 1, 1) := by decide +kernel
theorem dJ7_fill_53178_13 : decode cJ7_fill_53178 13 = .ok (.iastore, 1) := by decide +kernel
theorem dJ7_fill_53178_14 : decode cJ7_fill_53178 14 = .ok (.iinc 2 1, 3) := by decide +kernel
theorem dJ7_fill_53178_17 : decode cJ7_fill_53178 17 = .ok (.goto (-12), 3) := by decide +kernel
theorem dJ7_fill_53178_20 : decode cJ7_fill_53178 20 = .ok (.return_, 1) := by decide +kernel
theorem dJ3_checkIndex_8e157_0 : decode cJ3_checkIndex_8e157 0 = .ok (.iload_n 0, 1) := by decide +kernel
theorem dJ3_checkIndex_8e157_1 : decode cJ3_checkIndex_8e157 1 = .ok (.ifCond .lt 8, 3) := by decide +kernel
theorem dJ3_checkIndex_8e157_4 : decode cJ3_checkIndex_8e157 4 = .ok (.iload_n 0, 1) := by decide +kernel
theorem dJ3_checkIndex_8e157_5 : decode cJ3_checkIndex_8e157 5 = .ok (.iload_n 1, 1) := by decide +kernel
theorem dJ3_checkIndex_8e157_6 : decode cJ3_checkIndex_8e157 6 = .ok (.if_icmp .lt 10, 3) := by decide +kernel
theorem dJ3_checkIndex_8e157_9 : decode cJ3_checkIndex_8e157 9 = .ok (.aload_n 2, 1) := by decide +kernel
theorem dJ3_checkIndex_8e157_10 : decode cJ3_checkIndex_8e157 10 = .ok (.iload_n 0, 1) := by decide +kernel
theorem dJ3_checkIndex_8e157_11 : decode cJ3_checkIndex_8e157 11 = .ok (.iload_n 1, 1) := by decide +kernel
theorem dJ3_checkIndex_8e157_12 : decode cJ3_checkIndex_8e157 12 = .ok (.invokestatic 95, 3) := by decide +kernel
theorem dJ3_checkIndex_8e157_15 : decode cJ3_checkIndex_8e157 15 = .ok (.athrow, 1) := by decide +kernel
theorem dJ3_checkIndex_8e157_16 : decode cJ3_checkIndex_8e157 16 = .ok (.iload_n 0, 1) := by decide +kernel
theorem dJ3_checkIndex_8e157_17 : decode cJ3_checkIndex_8e157 17 = .ok (.ireturn, 1) := by decide +kernel
