set_option maxRecDepth 20000 in
theorem ggX6_door_X1_keepUnlessError : GoodIn wsX6_door wsX1_keepUnlessError := goodIn_r _ [113, 114, 115, 116, 6, 117, 9, 8, 123, 124] (by decide +kernel) (by decide +kernel)
set_option maxRecDepth 20000 in
theorem gX6_door_X1_keepUnlessError : GoodIn wsX6_door (wsV RX6 49 RX1 yX1_keepUnlessError wsX1_keepUnlessError) := goodIn_app (goodIn_of _ (by decide +kernel)) ggX6_door_X1_keepUnlessError
theorem dX6_door_0 : decode cX6_door 0 = .ok (.aload_n 0, 1) := by decide +kernel
theorem dX6_door_1 : decode cX6_door 1 = .ok (.getfield 33, 3) := by decide +kernel
theorem dX6_door_4 : decode cX6_door 4 = .ok (.aload_n 0, 1) := by decide +kernel
theorem dX6_door_5 : decode cX6_door 5 = .ok (.getfield 12, 3) := by decide +kernel
theorem dX6_door_8 : decode cX6_door 8 = .ok (.invokevirtual 41, 3) := by decide +kernel
theorem dX6_door_11 : decode cX6_door 11 = .ok (.aload_n 0, 1) := by decide +kernel
theorem dX6_door_12 : decode cX6_door 12 = .ok (.getfield 33, 3) := by decide +kernel
theorem dX6_door_15 : decode cX6_door 15 = .ok (.aload_n 0, 1) := by decide +kernel
theorem dX6_door_16 : decode cX6_door 16 = .ok (.getfield 12, 3) := by decide +kernel
theorem dX6_door_19 : decode cX6_door 19 = .ok (.iload_n 1, 1) := by decide +kernel
theorem dX6_door_20 : decode cX6_door 20 = .ok (.iload_n 2, 1) := by decide +kernel
theorem dX6_door_21 : decode cX6_door 21 = .ok (.iload_n 3, 1) := by decide +kernel
theorem dX6_door_22 : decode cX6_door 22 = .ok (.invokevirtual 71, 3) := by decide +kernel
theorem dX6_door_25 : decode cX6_door 25 = .ok (.invokevirtual 49, 3) := by decide +kernel
theorem dX6_door_28 : decode cX6_door 28 = .ok (.ireturn, 1) := by decide +kernel
set_option maxRecDepth 20000 in
theorem ggX6_come_X1_remember : GoodIn wsX6_come wsX1_remember := goodIn_r _ [8, 9, 10, 11, 12, 13, 14, 15, 16, 17, 18, 19, 20, 21, 22, 23, 24, 25, 26, 27, 28, 29, 30, 31, 32, 33, 34, 35, 36, 37, 38, 39, 40, 41, 42, 43, 44, 45, 46, 47, 48, 49, 50, 51, 52, 53, 54, 55, 56, 57, 58, 59, 60, 61, 62, 63, 64, 65, 66, 67, 68, 69, 70, 71, 72, 73, 74, 75, 76, 77, 78, 79, 80, 81, 82, 83, 84, 85, 194, 195, 196, 197, 198, 199, 200, 201, 202, 203, 204, 205, 206, 207, 208, 209, 210, 211, 212, 213, 214, 215, 216, 217, 218, 219, 220] (by decide +kernel) (by decide +kernel)
set_option maxRecDepth 20000 in
theorem gX6_come_X1_remember : GoodIn wsX6_come (wsV RX6 41 RX1 yX1_remember wsX1_remember) := goodIn_app (goodIn_of _ (by decide +kernel)) ggX6_come_X1_remember
set_option maxRecDepth 20000 in
theorem ggX6_come_X2_visit : GoodIn wsX6_come wsX2_visit := goodIn_r _ [89, 67, 38, 69, 90, 30, 91, 92, 93, 94, 95, 96, 97, 98, 99, 13, 100, 66, 29, 101, 102, 103, 37, 104, 83, 105, 106, 107, 108, 84, 109, 110, 111, 112, 50, 51, 52, 53, 113, 114, 115, 116, 117, 118, 119, 120, 121, 122, 123, 124, 125, 126, 68, 127, 128, 129, 130, 131, 132, 133, 134, 135, 136, 137, 138, 139, 140, 141, 142, 143, 144, 145, 146, 147, 22, 148, 149, 150, 33, 151, 77, 152, 153, 154, 155, 156, 157, 158, 159, 160, 161, 162, 34, 163, 164, 165, 21, 166, 167, 168, 169, 170, 171, 172, 173, 174, 175, 176, 177, 178, 179, 85, 180, 196, 197, 198, 199, 200, 201, 202, 203, 204, 205, 221, 222, 214, 215, 216, 217, 218, 219, 220, 206, 207, 208, 209, 210, 211, 212, 213] (by decide +kernel) (by decide +kernel)
set_option maxRecDepth 20000 in
theorem gX6_come_X2_visit : GoodIn wsX6_come (wsV RX6 74 RX2 yX2_visit wsX2_visit) := goodIn_app (goodIn_of _ (by decide +kernel)) ggX6_come_X2_visit
set_option maxRecDepth 20000 in
theorem ggX6_come_X1_keepUnlessError : GoodIn wsX6_come wsX1_keepUnlessError := goodIn_r _ [184, 185, 186, 187, 7, 188, 10, 9, 194, 195] (by decide +kernel) (by decide +kernel)
set_option maxRecDepth 20000 in
theorem gX6_come_X1_keepUnlessError : GoodIn wsX6_come (wsV RX6 49 RX1 yX1_keepUnlessError wsX1_keepUnlessError) := goodIn_app (goodIn_of _ (by decide +kernel)) ggX6_come_X1_keepUnlessError
theorem dX6_come_0 : decode cX6_come 0 = .ok (.aload_n 0, 1) := by decide +kernel
theorem dX6_come_1 : decode cX6_come 1 = .ok (.getfield 33, 3) := by decide +kernel
theorem dX6_come_4 : decode cX6_come 4 = .ok (.aload_n 0, 1) := by decide +kernel
theorem dX6_come_5 : decode cX6_come 5 = .ok (.getfield 12, 3) := by decide +kernel
theorem dX6_come_8 : decode cX6_come 8 = .ok (.invokevirtual 41, 3) := by decide +kernel
theorem dX6_come_11 : decode cX6_come 11 = .ok (.aload_n 0, 1) := by decide +kernel
theorem dX6_come_12 : decode cX6_come 12 = .ok (.getfield 33, 3) := by decide +kernel
theorem dX6_come_15 : decode cX6_come 15 = .ok (.aload_n 0, 1) := by decide +kernel
theorem dX6_come_16 : decode cX6_come 16 = .ok (.getfield 12, 3) := by decide +kernel
theorem dX6_come_19 : decode cX6_come 19 = .ok (.iload_n 1, 1) := by decide +kernel
theorem dX6_come_20 : decode cX6_come 20 = .ok (.iload_n 2, 1) := by decide +kernel
theorem dX6_come_21 : decode cX6_come 21 = .ok (.iload_n 3, 1) := by decide +kernel
theorem dX6_come_22 : decode cX6_come 22 = .ok (.aload_n 0, 1) := by decide +kernel
theorem dX6_come_23 : decode cX6_come 23 = .ok (.getfield 19, 3) := by decide +kernel
theorem dX6_come_26 : decode cX6_come 26 = .ok (.invokevirtual 74, 3) := by decide +kernel
theorem dX6_come_29 : decode cX6_come 29 = .ok (.invokevirtual 49, 3) := by decide +kernel
theorem dX6_come_32 : decode cX6_come 32 = .ok (.ireturn, 1) := by decide +kernel
set_option maxRecDepth 20000 in
theorem ggX6_flush_X1_remember : GoodIn wsX6_flush wsX1_remember := goodIn_r _ [8, 9, 10, 11, 12, 13, 14, 15, 16, 17, 18, 19, 20, 21, 22, 23, 24, 25, 26, 27, 28, 29, 30, 31, 32, 33, 34, 35, 36, 37, 38, 39, 40, 41, 42, 43, 44, 45, 46, 47, 48, 49, 50, 51, 52, 53, 54, 55, 56, 57, 58, 59, 60, 61, 62, 63, 64, 65, 66, 67, 68, 69, 70, 71, 72, 73, 74, 75, 76, 77, 78, 79, 80, 81, 82, 83, 84, 85, 124, 125, 114, 115, 116, 117, 118, 119, 120, 121, 122, 123, 126, 127, 128, 129, 130, 131, 132, 133, 134, 135, 136, 137, 138, 139, 140] (by decide +kernel) (by decide +kernel)
set_option maxRecDepth 20000 in
theorem gX6_flush_X1_remember : GoodIn wsX6_flush (wsV RX6 41 RX1 yX1_remember wsX1_remember) := goodIn_app (goodIn_of _ (by decide +kernel)) ggX6_flush_X1_remember
set_option maxRecDepth 20000 in
theorem ggX6_flush_X0_allNotes : GoodIn wsX6_flush wsX0_allNotes := goodIn_r _ [89, 83, 134, 135, 136, 137, 138, 139, 140] (by decide +kernel) (by decide +kernel)
set_option maxRecDepth 20000 in
theorem gX6_flush_X0_allNotes : GoodIn wsX6_flush (wsV RX6 82 RX0 yX0_allNotes wsX0_allNotes) := goodIn_app (goodIn_of _ (by decide +kernel)) ggX6_flush_X0_allNotes
set_option maxRecDepth 20000 in
theorem ggX6_flush_X0_wipeThese : GoodIn wsX6_flush wsX0_wipeThese := goodIn_r _ [93, 84, 94, 95, 96, 37, 97, 83, 50, 51, 52, 53, 98, 99, 100, 134, 135, 136, 137, 138, 139, 140] (by decide +kernel) (by decide +kernel)
set_option maxRecDepth 20000 in
theorem gX6_flush_X0_wipeThese : GoodIn wsX6_flush (wsV RX6 88 RX0 yX0_wipeThese wsX0_wipeThese) := goodIn_app (goodIn_of _ (by decide +kernel)) ggX6_flush_X0_wipeThese
set_option maxRecDepth 20000 in
theorem ggX6_flush_X1_keepUnlessError : GoodIn wsX6_flush wsX1_keepUnlessError := goodIn_r _ [104, 105, 106, 107, 7, 108, 10, 9, 124, 125] (by decide +kernel) (by decide +kernel)
set_option maxRecDepth 20000 in
theorem gX6_flush_X1_keepUnlessError : GoodIn wsX6_flush (wsV RX6 49 RX1 yX1_keepUnlessError wsX1_keepUnlessError) := goodIn_app (goodIn_of _ (by decide +kernel)) ggX6_flush_X1_keepUnlessError
theorem dX6_flush_0 : decode cX6_flush 0 = .ok (.aload_n 0, 1) := by decide +kernel
theorem dX6_flush_1 : decode cX6_flush 1 = .ok (.getfield 33, 3) := by decide +kernel
theorem dX6_flush_4 : decode cX6_flush 4 = .ok (.aload_n 0, 1) := by decide +kernel
theorem dX6_flush_5 : decode cX6_flush 5 = .ok (.getfield 12, 3) := by decide +kernel
theorem dX6_flush_8 : decode cX6_flush 8 = .ok (.invokevirtual 41, 3) := by decide +kernel
theorem dX6_flush_11 : decode cX6_flush 11 = .ok (.aload_n 0, 1) := by decide +kernel
theorem dX6_flush_12 : decode cX6_flush 12 = .ok (.getfield 33, 3) := by decide +kernel
theorem dX6_flush_15 : decode cX6_flush 15 = .ok (.aload_n 0, 1) := by decide +kernel
theorem dX6_flush_16 : decode cX6_flush 16 = .ok (.getfield 12, 3) := by decide +kernel
theorem dX6_flush_19 : decode cX6_flush 19 = .ok (.getfield 78, 3) := by decide +kernel
theorem dX6_flush_22 : decode cX6_flush 22 = .ok (.aload_n 0, 1) := by decide +kernel
theorem dX6_flush_23 : decode cX6_flush 23 = .ok (.getfield 12, 3) := by decide +kernel
theorem dX6_flush_26 : decode cX6_flush 26 = .ok (.getfield 78, 3) := by decide +kernel
theorem dX6_flush_29 : decode cX6_flush 29 = .ok (.invokevirtual 82, 3) := by decide +kernel
theorem dX6_flush_32 : decode cX6_flush 32 = .ok (.invokevirtual 88, 3) := by decide +kernel
theorem dX6_flush_35 : decode cX6_flush 35 = .ok (.invokevirtual 49, 3) := by decide +kernel
theorem dX6_flush_38 : decode cX6_flush 38 = .ok (.ireturn, 1) := by decide +kernel
set_option maxRecDepth 20000 in
theorem ggX6_ofPage_X6_isPage : GoodIn wsX6_ofPage wsX6_isPage := goodIn_r _ [7] (by decide +kernel) (by decide +kernel)
set_option maxRecDepth 20000 in
theorem gX6_ofPage_X6_isPage : GoodIn wsX6_ofPage (va_wsS RX6 91 yX6_isPage wsX6_isPage) := goodIn_app (goodIn_of _ (by decide +kernel)) ggX6_ofPage_X6_isPage
set_option maxRecDepth 20000 in
theorem ggX6_ofPage_X2_goodStamps : GoodIn wsX6_ofPage wsX2_goodStamps := goodIn_r _ [12, 13, 14, 15, 16, 17, 18, 6, 19, 20, 21, 22, 11, 23, 24, 25, 26, 27, 28, 29, 30, 31, 32, 33, 34, 5, 7, 58, 59, 60, 61, 62, 63, 64, 65, 66, 67, 68, 69, 70, 71, 72, 73, 74, 75] (by decide +kernel) (by decide +kernel)
set_option maxRecDepth 20000 in
theorem gX6_ofPage_X2_goodStamps : GoodIn wsX6_ofPage (wsV RX6 99 RX2 yX2_goodStamps wsX2_goodStamps) := goodIn_app (goodIn_of _ (by decide +kernel)) ggX6_ofPage_X2_goodStamps
set_option maxRecDepth 20000 in
theorem ggX6_ofPage_X2_guestsWith : GoodIn wsX6_ofPage wsX2_guestsWith := goodIn_r _ [38, 26, 13, 14, 24, 27, 28, 5, 6, 7, 39, 40, 18, 19, 58, 59, 60, 61, 62, 63, 64, 65, 66, 67, 68, 69, 70, 71, 72, 73, 74, 75] (by decide +kernel) (by decide +kernel)
set_option maxRecDepth 20000 in
theorem gX6_ofPage_X2_guestsWith : GoodIn wsX6_ofPage (wsV RX6 103 RX2 yX2_guestsWith wsX2_guestsWith) := goodIn_app (goodIn_of _ (by decide +kernel)) ggX6_ofPage_X2_guestsWith
set_option maxRecDepth 20000 in
theorem ggX6_ofPage_X4_ofOnePage : GoodIn wsX6_ofPage wsX4_ofOnePage := goodIn_r _ [44, 34, 45, 68, 69, 70, 71, 72, 73, 74, 75] (by decide +kernel) (by decide +kernel)
set_option maxRecDepth 20000 in
theorem gX6_ofPage_X4_ofOnePage : GoodIn wsX6_ofPage (wsV RX6 111 RX4 yX4_ofOnePage wsX4_ofOnePage) := goodIn_app (goodIn_of _ (by decide +kernel)) ggX6_ofPage_X4_ofOnePage
set_option maxRecDepth 20000 in
theorem ggX6_ofPage_J13_bitCount_95d88 : GoodIn wsX6_ofPage wsJ13_bitCount_95d88 := goodIn_r _ [49, 50, 51, 52] (by decide +kernel) (by decide +kernel)
set_option maxRecDepth 20000 in
theorem gX6_ofPage_J13_bitCount_95d88 : GoodIn wsX6_ofPage (va_wsS RX6 116 yJ13_bitCount_95d88 wsJ13_bitCount_95d88) := goodIn_app (goodIn_of _ (by decide +kernel)) ggX6_ofPage_J13_bitCount_95d88
theorem dX6_ofPage_0 : decode cX6_ofPage 0 = .ok (.iload_n 1, 1) := by decide +kernel
theorem dX6_ofPage_1 : decode cX6_ofPage 1 = .ok (.invokestatic 91, 3) := by decide +kernel
theorem dX6_ofPage_4 : decode cX6_ofPage 4 = .ok (.ifCond .ne 5, 3) := by decide +kernel
theorem dX6_ofPage_7 : decode cX6_ofPage 7 = .ok (.iconst (-1), 1) := by decide +kernel
theorem dX6_ofPage_8 : decode cX6_ofPage 8 = .ok (.ireturn, 1) := by decide +kernel
theorem dX6_ofPage_9 : decode cX6_ofPage 9 = .ok (.iload_n 2, 1) := by decide +kernel
theorem dX6_ofPage_10 : decode cX6_ofPage 10 = .ok (.tableswitch 103 0 3 #[30, 40, 59, 78], 30) := by decide +kernel
theorem dX6_ofPage_40 : decode cX6_ofPage 40 = .ok (.aload_n 0, 1) := by decide +kernel
theorem dX6_ofPage_41 : decode cX6_ofPage 41 = .ok (.getfield 12, 3) := by decide +kernel
theorem dX6_ofPage_44 : decode cX6_ofPage 44 = .ok (.getfield 95, 3) := by decide +kernel
theorem dX6_ofPage_47 : decode cX6_ofPage 47 = .ok (.iload_n 1, 1) := by decide +kernel
theorem dX6_ofPage_48 : decode cX6_ofPage 48 = .ok (.iaload, 1) := by decide +kernel
theorem dX6_ofPage_49 : decode cX6_ofPage 49 = .ok (.ireturn, 1) := by decide +kernel
theorem dX6_ofPage_50 : decode cX6_ofPage 50 = .ok (.aload_n 0, 1) := by decide +kernel
theorem dX6_ofPage_51 : decode cX6_ofPage 51 = .ok (.getfield 12, 3) := by decide +kernel
theorem dX6_ofPage_54 : decode cX6_ofPage 54 = .ok (.iload_n 1, 1) := by decide +kernel
theorem dX6_ofPage_55 : decode cX6_ofPage 55 = .ok (.iconst 1, 1) := by decide +kernel
theorem dX6_ofPage_56 : decode cX6_ofPage 56 = .ok (.aload_n 0, 1) := by decide +kernel
theorem dX6_ofPage_57 : decode cX6_ofPage 57 = .ok (.getfield 12, 3) := by decide +kernel
theorem dX6_ofPage_60 : decode cX6_ofPage 60 = .ok (.bipush (-6), 2) := by decide +kernel
theorem dX6_ofPage_62 : decode cX6_ofPage 62 = .ok (.invokevirtual 99, 3) := by decide +kernel
theorem dX6_ofPage_65 : decode cX6_ofPage 65 = .ok (.invokevirtual 103, 3) := by decide +kernel
theorem dX6_ofPage_68 : decode cX6_ofPage 68 = .ok (.ireturn, 1) := by decide +kernel
theorem dX6_ofPage_69 : decode cX6_ofPage 69 = .ok (.aload_n 0, 1) := by decide +kernel
theorem dX6_ofPage_70 : decode cX6_ofPage 70 = .ok (.getfield 12, 3) := by decide +kernel
theorem dX6_ofPage_73 : decode cX6_ofPage 73 = .ok (.iload_n 1, 1) := by decide +kernel
theorem dX6_ofPage_74 : decode cX6_ofPage 74 = .ok (.iconst 2, 1) := by decide +kernel
theorem dX6_ofPage_75 : decode cX6_ofPage 75 = .ok (.aload_n 0, 1) := by decide +kernel
theorem dX6_ofPage_76 : decode cX6_ofPage 76 = .ok (.getfield 12, 3) := by decide +kernel
theorem dX6_ofPage_79 : decode cX6_ofPage 79 = .ok (.bipush (-6), 2) := by decide +kernel
theorem dX6_ofPage_81 : decode cX6_ofPage 81 = .ok (.invokevirtual 99, 3) := by decide +kernel
theorem dX6_ofPage_84 : decode cX6_ofPage 84 = .ok (.invokevirtual 103, 3) := by decide +kernel
theorem dX6_ofPage_87 : decode cX6_ofPage 87 = .ok (.ireturn, 1) := by decide +kernel
theorem dX6_ofPage_88 : decode cX6_ofPage 88 = .ok (.aload_n 0, 1) := by decide +kernel
theorem dX6_ofPage_89 : decode cX6_ofPage 89 = .ok (.getfield 12, 3) := by decide +kernel
theorem dX6_ofPage_92 : decode cX6_ofPage 92 = .ok (.bipush (-6), 2) := by decide +kernel
theorem dX6_ofPage_94 : decode cX6_ofPage 94 = .ok (.invokevirtual 99, 3) := by decide +kernel
theorem dX6_ofPage_97 : decode cX6_ofPage 97 = .ok (.aload_n 0, 1) := by decide +kernel
theorem dX6_ofPage_98 : decode cX6_ofPage 98 = .ok (.getfield 12, 3) := by decide +kernel
theorem dX6_ofPage_101 : decode cX6_ofPage 101 = .ok (.getfield 107, 3) := by decide +kernel
theorem dX6_ofPage_104 : decode cX6_ofPage 104 = .ok (.iload_n 1, 1) := by decide +kernel
theorem dX6_ofPage_105 : decode cX6_ofPage 105 = .ok (.invokevirtual 111, 3) := by decide +kernel
theorem dX6_ofPage_108 : decode cX6_ofPage 108 = .ok (.land, 1) := by decide +kernel
theorem dX6_ofPage_109 : decode cX6_ofPage 109 = .ok (.invokestatic 116, 3) := by decide +kernel
theorem dX6_ofPage_112 : decode cX6_ofPage 112 = .ok (.ireturn, 1) := by decide +kernel
theorem dX6_ofPage_113 : decode cX6_ofPage 113 = .ok (.bipush (-2), 2) := by decide +kernel
theorem dX6_ofPage_115 : decode cX6_ofPage 115 = .ok (.ireturn, 1) := by decide +kernel
set_option maxRecDepth 20000 in
theorem ggX6_ofStamp_X4_has : GoodIn wsX6_ofStamp wsX4_has := goodIn_r _ [14, 15, 74, 75, 76, 77, 78, 79, 80, 81] (by decide +kernel) (by decide +kernel)
set_option maxRecDepth 20000 in
theorem gX6_ofStamp_X4_has : GoodIn wsX6_ofStamp (wsV RX6 122 RX4 yX4_has wsX4_has) := goodIn_app (goodIn_of _ (by decide +kernel)) ggX6_ofStamp_X4_has
set_option maxRecDepth 20000 in
theorem ggX6_ofStamp_X6_isIn : GoodIn wsX6_ofStamp wsX6_isIn := goodIn_r _ [19] (by decide +kernel) (by decide +kernel)
set_option maxRecDepth 20000 in
theorem gX6_ofStamp_X6_isIn : GoodIn wsX6_ofStamp (va_wsS RX6 144 yX6_isIn wsX6_isIn) := goodIn_app (goodIn_of _ (by decide +kernel)) ggX6_ofStamp_X6_isIn
set_option maxRecDepth 20000 in
theorem ggX6_ofStamp_X2_goodStamps : GoodIn wsX6_ofStamp wsX2_goodStamps := goodIn_r _ [24, 25, 26, 27, 28, 29, 17, 18, 19, 30, 31, 32, 23, 33, 34, 35, 36, 37, 38, 39, 11, 12, 13, 14, 15, 40, 41, 64, 65, 66, 67, 68, 69, 70, 71, 72, 73, 74, 75, 76, 77, 78, 79, 80, 81] (by decide +kernel) (by decide +kernel)
set_option maxRecDepth 20000 in
theorem gX6_ofStamp_X2_goodStamps : GoodIn wsX6_ofStamp (wsV RX6 99 RX2 yX2_goodStamps wsX2_goodStamps) := goodIn_app (goodIn_of _ (by decide +kernel)) ggX6_ofStamp_X2_goodStamps
set_option maxRecDepth 20000 in
theorem ggX6_ofStamp_X4_chainLength : GoodIn wsX6_ofStamp wsX4_chainLength := goodIn_r _ [45, 46, 47, 11, 12, 13, 14, 15, 74, 75, 76, 77, 78, 79, 80, 81] (by decide +kernel) (by decide +kernel)
set_option maxRecDepth 20000 in
theorem gX6_ofStamp_X4_chainLength : GoodIn wsX6_ofStamp (wsV RX6 151 RX4 yX4_chainLength wsX4_chainLength) := goodIn_app (goodIn_of _ (by decide +kernel)) ggX6_ofStamp_X4_chainLength
set_option maxRecDepth 20000 in
theorem ggX6_ofStamp_X4_countBelow : GoodIn wsX6_ofStamp wsX4_countBelow := goodIn_r _ [51, 15, 46, 47, 11, 12, 13, 14, 17, 18, 19, 52, 53, 54, 55, 56, 57, 58, 74, 75, 76, 77, 78, 79, 80, 81] (by decide +kernel) (by decide +kernel)
set_option maxRecDepth 20000 in
theorem gX6_ofStamp_X4_countBelow : GoodIn wsX6_ofStamp (wsV RX6 154 RX4 yX4_countBelow wsX4_countBelow) := goodIn_app (goodIn_of _ (by decide +kernel)) ggX6_ofStamp_X4_countBelow
theorem dX6_ofStamp_0 : decode cX6_ofStamp 0 = .ok (.aload_n 0, 1) := by decide +kernel
theorem dX6_ofStamp_1 : decode cX6_ofStamp 1 = .ok (.getfield 12, 3) := by decide +kernel
theorem dX6_ofStamp_4 : decode cX6_ofStamp 4 = .ok (.getfield 107, 3) := by decide +kernel
theorem dX6_ofStamp_7 : decode cX6_ofStamp 7 = .ok (.astore_n 3, 1) := by decide +kernel
theorem dX6_ofStamp_8 : decode cX6_ofStamp 8 = .ok (.aload_n 3, 1) := by decide +kernel
theorem dX6_ofStamp_9 : decode cX6_ofStamp 9 = .ok (.iload_n 1, 1) := by decide +kernel
theorem dX6_ofStamp_10 : decode cX6_ofStamp 10 = .ok (.invokevirtual 122, 3) := by decide +kernel
theorem dX6_ofStamp_13 : decode cX6_ofStamp 13 = .ok (.ifCond .ne 5, 3) := by decide +kernel
theorem dX6_ofStamp_16 : decode cX6_ofStamp 16 = .ok (.iconst (-1), 1) := by decide +kernel
theorem dX6_ofStamp_17 : decode cX6_ofStamp 17 = .ok (.ireturn, 1) := by decide +kernel
theorem dX6_ofStamp_18 : decode cX6_ofStamp 18 = .ok (.iload_n 2, 1) := by decide +kernel
theorem dX6_ofStamp_19 : decode cX6_ofStamp 19 = .ok (.tableswitch 156 0 9 #[53, 60, 67, 74, 81, 88, 105, 122, 144, 150], 53) := by decide +kernel
theorem dX6_ofStamp_72 : decode cX6_ofStamp 72 = .ok (.aload_n 3, 1) := by decide +kernel
theorem dX6_ofStamp_73 : decode cX6_ofStamp 73 = .ok (.getfield 125, 3) := by decide +kernel
theorem dX6_ofStamp_76 : decode cX6_ofStamp 76 = .ok (.iload_n 1, 1) := by decide +kernel
theorem dX6_ofStamp_77 : decode cX6_ofStamp 77 = .ok (.iaload, 1) := by decide +kernel
theorem dX6_ofStamp_78 : decode cX6_ofStamp 78 = .ok (.ireturn, 1) := by decide +kernel
theorem dX6_ofStamp_79 : decode cX6_ofStamp 79 = .ok (.aload_n 3, 1) := by decide +kernel
theorem dX6_ofStamp_80 : decode cX6_ofStamp 80 = .ok (.getfield 128, 3) := by decide +kernel
theorem dX6_ofStamp_83 : decode cX6_ofStamp 83 = .ok (.iload_n 1, 1) := by decide +kernel
theorem dX6_ofStamp_84 : decode cX6_ofStamp 84 = .ok (.iaload, 1) := by decide +kernel
theorem dX6_ofStamp_85 : decode cX6_ofStamp 85 = .ok (.ireturn, 1) := by decide +kernel
theorem dX6_ofStamp_86 : decode cX6_ofStamp 86 = .ok (.aload_n 3, 1) := by decide +kernel
theorem dX6_ofStamp_87 : decode cX6_ofStamp 87 = .ok (.getfield 131, 3) := by decide +kernel
theorem dX6_ofStamp_90 : decode cX6_ofStamp 90 = .ok (.iload_n 1, 1) := by decide +kernel
theorem dX6_ofStamp_91 : decode cX6_ofStamp 91 = .ok (.iaload, 1) := by decide +kernel
theorem dX6_ofStamp_92 : decode cX6_ofStamp 92 = .ok (.ireturn, 1) := by decide +kernel
theorem dX6_ofStamp_93 : decode cX6_ofStamp 93 = .ok (.aload_n 3, 1) := by decide +kernel
theorem dX6_ofStamp_94 : decode cX6_ofStamp 94 = .ok (.getfield 134, 3) := by decide +kernel
theorem dX6_ofStamp_97 : decode cX6_ofStamp 97 = .ok (.iload_n 1, 1) := by decide +kernel
theorem dX6_ofStamp_98 : decode cX6_ofStamp 98 = .ok (.iaload, 1) := by decide +kernel
theorem dX6_ofStamp_99 : decode cX6_ofStamp 99 = .ok (.ireturn, 1) := by decide +kernel
theorem dX6_ofStamp_100 : decode cX6_ofStamp 100 = .ok (.aload_n 3, 1) := by decide +kernel
theorem dX6_ofStamp_101 : decode cX6_ofStamp 101 = .ok (.getfield 137, 3) := by decide +kernel
theorem dX6_ofStamp_104 : decode cX6_ofStamp 104 = .ok (.iload_n 1, 1) := by decide +kernel
theorem dX6_ofStamp_105 : decode cX6_ofStamp 105 = .ok (.iaload, 1) := by decide +kernel
theorem dX6_ofStamp_106 : decode cX6_ofStamp 106 = .ok (.ireturn, 1) := by decide +kernel
theorem dX6_ofStamp_107 : decode cX6_ofStamp 107 = .ok (.aload_n 3, 1) := by decide +kernel
theorem dX6_ofStamp_108 : decode cX6_ofStamp 108 = .ok (.getfield 140, 3) := by decide +kernel
theorem dX6_ofStamp_111 : decode cX6_ofStamp 111 = .ok (.iload_n 1, 1) := by decide +kernel
theorem dX6_ofStamp_112 : decode cX6_ofStamp 112 = .ok (.invokestatic 144, 3) := by decide +kernel
theorem dX6_ofStamp_115 : decode cX6_ofStamp 115 = .ok (.ifCond .eq 7, 3) := by decide +kernel
theorem dX6_ofStamp_118 : decode cX6_ofStamp 118 = .ok (.iconst 1, 1) := by decide +kernel
theorem dX6_ofStamp_119 : decode cX6_ofStamp 119 = .ok (.goto 4, 3) := by decide +kernel
theorem dX6_ofStamp_122 : decode cX6_ofStamp 122 = .ok (.iconst 0, 1) := by decide +kernel
theorem dX6_ofStamp_123 : decode cX6_ofStamp 123 = .ok (.ireturn, 1) := by decide +kernel
theorem dX6_ofStamp_124 : decode cX6_ofStamp 124 = .ok (.aload_n 3, 1) := by decide +kernel
theorem dX6_ofStamp_125 : decode cX6_ofStamp 125 = .ok (.getfield 148, 3) := by decide +kernel
theorem dX6_ofStamp_128 : decode cX6_ofStamp 128 = .ok (.iload_n 1, 1) := by decide +kernel
theorem dX6_ofStamp_129 : decode cX6_ofStamp 129 = .ok (.invokestatic 144, 3) := by decide +kernel
theorem dX6_ofStamp_132 : decode cX6_ofStamp 132 = .ok (.ifCond .eq 7, 3) := by decide +kernel
theorem dX6_ofStamp_135 : decode cX6_ofStamp 135 = .ok (.iconst 1, 1) := by decide +kernel
theorem dX6_ofStamp_136 : decode cX6_ofStamp 136 = .ok (.goto 4, 3) := by decide +kernel
theorem dX6_ofStamp_139 : decode cX6_ofStamp 139 = .ok (.iconst 0, 1) := by decide +kernel
theorem dX6_ofStamp_140 : decode cX6_ofStamp 140 = .ok (.ireturn, 1) := by decide +kernel
theorem dX6_ofStamp_141 : decode cX6_ofStamp 141 = .ok (.aload_n 0, 1) := by decide +kernel
theorem dX6_ofStamp_142 : decode cX6_ofStamp 142 = .ok (.getfield 12, 3) := by decide +kernel
theorem dX6_ofStamp_145 : decode cX6_ofStamp 145 = .ok (.bipush (-6), 2) := by decide +kernel
theorem dX6_ofStamp_147 : decode cX6_ofStamp 147 = .ok (.invokevirtual 99, 3) := by decide +kernel
theorem dX6_ofStamp_150 : decode cX6_ofStamp 150 = .ok (.iload_n 1, 1) := by decide +kernel
theorem dX6_ofStamp_151 : decode cX6_ofStamp 151 = .ok (.invokestatic 144, 3) := by decide +kernel
theorem dX6_ofStamp_154 : decode cX6_ofStamp 154 = .ok (.ifCond .eq 7, 3) := by decide +kernel
theorem dX6_ofStamp_157 : decode cX6_ofStamp 157 = .ok (.iconst 1, 1) := by decide +kernel
theorem dX6_ofStamp_158 : decode cX6_ofStamp 158 = .ok (.goto 4, 3) := by decide +kernel
theorem dX6_ofStamp_161 : decode cX6_ofStamp 161 = .ok (.iconst 0, 1) := by decide +kernel
theorem dX6_ofStamp_162 : decode cX6_ofStamp 162 = .ok (.ireturn, 1) := by decide +kernel
theorem dX6_ofStamp_163 : decode cX6_ofStamp 163 = .ok (.aload_n 3, 1) := by decide +kernel
theorem dX6_ofStamp_164 : decode cX6_ofStamp 164 = .ok (.iload_n 1, 1) := by decide +kernel
theorem dX6_ofStamp_165 : decode cX6_ofStamp 165 = .ok (.invokevirtual 151, 3) := by decide +kernel
theorem dX6_ofStamp_168 : decode cX6_ofStamp 168 = .ok (.ireturn, 1) := by decide +kernel
theorem dX6_ofStamp_169 : decode cX6_ofStamp 169 = .ok (.aload_n 3, 1) := by decide +kernel
theorem dX6_ofStamp_170 : decode cX6_ofStamp 170 = .ok (.iload_n 1, 1) := by decide +kernel
theorem dX6_ofStamp_171 : decode cX6_ofStamp 171 = .ok (.invokevirtual 154, 3) := by decide +kernel
theorem dX6_ofStamp_174 : decode cX6_ofStamp 174 = .ok (.ireturn, 1) := by decide +kernel
theorem dX6_ofStamp_175 : decode cX6_ofStamp 175 = .ok (.bipush (-2), 2) := by decide +kernel
theorem dX6_ofStamp_177 : decode cX6_ofStamp 177 = .ok (.ireturn, 1) := by decide +kernel
set_option maxRecDepth 20000 in
theorem ggX6_leads_X6_isDoor : GoodIn wsX6_leads wsX6_isDoor := goodIn_r _ [5] (by decide +kernel) (by decide +kernel)
set_option maxRecDepth 20000 in
theorem gX6_leads_X6_isDoor : GoodIn wsX6_leads (va_wsS RX6 157 yX6_isDoor wsX6_isDoor) := goodIn_app (goodIn_of _ (by decide +kernel)) ggX6_leads_X6_isDoor
set_option maxRecDepth 20000 in
theorem ggX6_leads_X2_ledBy : GoodIn wsX6_leads wsX2_ledBy := goodIn_r _ [10, 11, 3, 4, 5, 17, 18, 19, 20, 21, 22, 23, 24, 25, 26] (by decide +kernel) (by decide +kernel)
set_option maxRecDepth 20000 in
theorem gX6_leads_X2_ledBy : GoodIn wsX6_leads (wsV RX6 161 RX2 yX2_ledBy wsX2_ledBy) := goodIn_app (goodIn_of _ (by decide +kernel)) ggX6_leads_X2_ledBy
theorem dX6_leads_0 : decode cX6_leads 0 = .ok (.iload_n 1, 1) := by decide +kernel
theorem dX6_leads_1 : decode cX6_leads 1 = .ok (.iload_n 2, 1) := by decide +kernel
theorem dX6_leads_2 : decode cX6_leads 2 = .ok (.invokestatic 157, 3) := by decide +kernel
theorem dX6_leads_5 : decode cX6_leads 5 = .ok (.ifCond .eq 15, 3) := by decide +kernel
theorem dX6_leads_8 : decode cX6_leads 8 = .ok (.aload_n 0, 1) := by decide +kernel
theorem dX6_leads_9 : decode cX6_leads 9 = .ok (.getfield 12, 3) := by decide +kernel
theorem dX6_leads_12 : decode cX6_leads 12 = .ok (.iload_n 1, 1) := by decide +kernel
theorem dX6_leads_13 : decode cX6_leads 13 = .ok (.iload_n 2, 1) := by decide +kernel
theorem dX6_leads_14 : decode cX6_leads 14 = .ok (.invokevirtual 161, 3) := by decide +kernel
theorem dX6_leads_17 : decode cX6_leads 17 = .ok (.goto 4, 3) := by decide +kernel
theorem dX6_leads_20 : decode cX6_leads 20 = .ok (.iconst (-1), 1) := by decide +kernel
theorem dX6_leads_21 : decode cX6_leads 21 = .ok (.ireturn, 1) := by decide +kernel
set_option maxRecDepth 20000 in
theorem ggX6_note_X0_has : GoodIn wsX6_note wsX0_has := goodIn_r _ [11, 12, 28, 29, 30, 31, 32, 33, 34] (by decide +kernel) (by decide +kernel)
set_option maxRecDepth 20000 in
theorem gX6_note_X0_has : GoodIn wsX6_note (wsV RX6 164 RX0 yX0_has wsX0_has) := goodIn_app (goodIn_of _ (by decide +kernel)) ggX6_note_X0_has
theorem dX6_note_0 : decode cX6_note 0 = .ok (.aload_n 0, 1) := by decide +kernel
theorem dX6_note_1 : decode cX6_note 1 = .ok (.getfield 12, 3) := by decide +kernel
theorem dX6_note_4 : decode cX6_note 4 = .ok (.getfield 78, 3) := by decide +kernel
theorem dX6_note_7 : decode cX6_note 7 = .ok (.astore_n 3, 1) := by decide +kernel
theorem dX6_note_8 : decode cX6_note 8 = .ok (.aload_n 3, 1) := by decide +kernel
theorem dX6_note_9 : decode cX6_note 9 = .ok (.iload_n 1, 1) := by decide +kernel
theorem dX6_note_10 : decode cX6_note 10 = .ok (.invokevirtual 164, 3) := by decide +kernel
theorem dX6_note_13 : decode cX6_note 13 = .ok (.ifCond .ne 5, 3) := by decide +kernel
theorem dX6_note_16 : decode cX6_note 16 = .ok (.iconst (-1), 1) := by decide +kernel
theorem dX6_note_17 : decode cX6_note 17 = .ok (.ireturn, 1) := by decide +kernel
theorem dX6_note_18 : decode cX6_note 18 = .ok (.iload_n 2, 1) := by decide +kernel
theorem dX6_note_19 : decode cX6_note 19 = .ok (.tableswitch 57 0 3 #[29, 36, 43, 50], 29) := by decide +kernel
theorem dX6_note_48 : decode cX6_note 48 = .ok (.aload_n 3, 1) := by decide +kernel
theorem dX6_note_49 : decode cX6_note 49 = .ok (.getfield 165, 3) := by decide +kernel
theorem dX6_note_52 : decode cX6_note 52 = .ok (.iload_n 1, 1) := by decide +kernel
theorem dX6_note_53 : decode cX6_note 53 = .ok (.iaload, 1) := by decide +kernel
theorem dX6_note_54 : decode cX6_note 54 = .ok (.ireturn, 1) := by decide +kernel
theorem dX6_note_55 : decode cX6_note 55 = .ok (.aload_n 3, 1) := by decide +kernel
theorem dX6_note_56 : decode cX6_note 56 = .ok (.getfield 168, 3) := by decide +kernel
theorem dX6_note_59 : decode cX6_note 59 = .ok (.iload_n 1, 1) := by decide +kernel
theorem dX6_note_60 : decode cX6_note 60 = .ok (.iaload, 1) := by decide +kernel
theorem dX6_note_61 : decode cX6_note 61 = .ok (.ireturn, 1) := by decide +kernel
theorem dX6_note_62 : decode cX6_note 62 = .ok (.aload_n 3, 1) := by decide +kernel
theorem dX6_note_63 : decode cX6_note 63 = .ok (.getfield 171, 3) := by decide +kernel
theorem dX6_note_66 : decode cX6_note 66 = .ok (.iload_n 1, 1) := by decide +kernel
theorem dX6_note_67 : decode cX6_note 67 = .ok (.iaload, 1) := by decide +kernel
theorem dX6_note_68 : decode cX6_note 68 = .ok (.ireturn, 1) := by decide +kernel
theorem dX6_note_69 : decode cX6_note 69 = .ok (.aload_n 3, 1) := by decide +kernel
theorem dX6_note_70 : decode cX6_note 70 = .ok (.getfield 174, 3) := by decide +kernel
theorem dX6_note_73 : decode cX6_note 73 = .ok (.iload_n 1, 1) := by decide +kernel
theorem dX6_note_74 : decode cX6_note 74 = .ok (.iaload, 1) := by decide +kernel
theorem dX6_note_75 : decode cX6_note 75 = .ok (.ireturn, 1) := by decide +kernel
theorem dX6_note_76 : decode cX6_note 76 = .ok (.bipush (-2), 2) := by decide +kernel
theorem dX6_note_78 : decode cX6_note 78 = .ok (.ireturn, 1) := by decide +kernel
set_option maxRecDepth 20000 in
theorem ggX6_count_X2_goodStamps : GoodIn wsX6_count wsX2_goodStamps := goodIn_r _ [21, 22, 23, 24, 25, 26, 27, 28, 29, 30, 31, 32, 20, 33, 34, 35, 36, 37, 38, 39, 40, 41, 42, 43, 44, 45, 46, 59, 60, 61, 62, 63, 64, 65, 66, 67, 68, 69, 70, 71, 72, 73, 74, 75, 76] (by decide +kernel) (by decide +kernel)
set_option maxRecDepth 20000 in
theorem gX6_count_X2_goodStamps : GoodIn wsX6_count (wsV RX6 99 RX2 yX2_goodStamps wsX2_goodStamps) := goodIn_app (goodIn_of _ (by decide +kernel)) ggX6_count_X2_goodStamps
set_option maxRecDepth 20000 in
theorem ggX6_count_J13_bitCount_95d88 : GoodIn wsX6_count wsJ13_bitCount_95d88 := goodIn_r _ [50, 51, 52, 53] (by decide +kernel) (by decide +kernel)
set_option maxRecDepth 20000 in
theorem gX6_count_J13_bitCount_95d88 : GoodIn wsX6_count (va_wsS RX6 116 yJ13_bitCount_95d88 wsJ13_bitCount_95d88) := goodIn_app (goodIn_of _ (by decide +kernel)) ggX6_count_J13_bitCount_95d88
theorem dX6_count_0 : decode cX6_count 0 = .ok (.iload_n 1, 1) := by decide +kernel
theorem dX6_count_1 : decode cX6_count 1 = .ok (.tableswitch 220 0 14 #[75, 86, 99, 110, 118, 126, 134, 142, 153, 164, 174, 184, 194, 204, 212], 75) := by decide +kernel
theorem dX6_count_76 : decode cX6_count 76 = .ok (.aload_n 0, 1) := by decide +kernel
theorem dX6_count_77 : decode cX6_count 77 = .ok (.getfield 12, 3) := by decide +kernel
theorem dX6_count_80 : decode cX6_count 80 = .ok (.getfield 107, 3) := by decide +kernel
theorem dX6_count_83 : decode cX6_count 83 = .ok (.getfield 175, 3) := by decide +kernel
theorem dX6_count_86 : decode cX6_count 86 = .ok (.ireturn, 1) := by decide +kernel
theorem dX6_count_87 : decode cX6_count 87 = .ok (.aload_n 0, 1) := by decide +kernel
theorem dX6_count_88 : decode cX6_count 88 = .ok (.getfield 12, 3) := by decide +kernel
theorem dX6_count_91 : decode cX6_count 91 = .ok (.bipush (-6), 2) := by decide +kernel
theorem dX6_count_93 : decode cX6_count 93 = .ok (.invokevirtual 99, 3) := by decide +kernel
theorem dX6_count_96 : decode cX6_count 96 = .ok (.invokestatic 116, 3) := by decide +kernel
theorem dX6_count_99 : decode cX6_count 99 = .ok (.ireturn, 1) := by decide +kernel
theorem dX6_count_100 : decode cX6_count 100 = .ok (.aload_n 0, 1) := by decide +kernel
theorem dX6_count_101 : decode cX6_count 101 = .ok (.getfield 12, 3) := by decide +kernel
theorem dX6_count_104 : decode cX6_count 104 = .ok (.getfield 78, 3) := by decide +kernel
theorem dX6_count_107 : decode cX6_count 107 = .ok (.getfield 179, 3) := by decide +kernel
theorem dX6_count_110 : decode cX6_count 110 = .ok (.ireturn, 1) := by decide +kernel
theorem dX6_count_111 : decode cX6_count 111 = .ok (.aload_n 0, 1) := by decide +kernel
theorem dX6_count_112 : decode cX6_count 112 = .ok (.getfield 12, 3) := by decide +kernel
theorem dX6_count_115 : decode cX6_count 115 = .ok (.getfield 182, 3) := by decide +kernel
theorem dX6_count_118 : decode cX6_count 118 = .ok (.ireturn, 1) := by decide +kernel
theorem dX6_count_119 : decode cX6_count 119 = .ok (.aload_n 0, 1) := by decide +kernel
theorem dX6_count_120 : decode cX6_count 120 = .ok (.getfield 12, 3) := by decide +kernel
theorem dX6_count_123 : decode cX6_count 123 = .ok (.getfield 185, 3) := by decide +kernel
theorem dX6_count_126 : decode cX6_count 126 = .ok (.ireturn, 1) := by decide +kernel
theorem dX6_count_127 : decode cX6_count 127 = .ok (.aload_n 0, 1) := by decide +kernel
theorem dX6_count_128 : decode cX6_count 128 = .ok (.getfield 12, 3) := by decide +kernel
theorem dX6_count_131 : decode cX6_count 131 = .ok (.getfield 188, 3) := by decide +kernel
theorem dX6_count_134 : decode cX6_count 134 = .ok (.ireturn, 1) := by decide +kernel
theorem dX6_count_135 : decode cX6_count 135 = .ok (.aload_n 0, 1) := by decide +kernel
theorem dX6_count_136 : decode cX6_count 136 = .ok (.getfield 12, 3) := by decide +kernel
theorem dX6_count_139 : decode cX6_count 139 = .ok (.getfield 191, 3) := by decide +kernel
theorem dX6_count_142 : decode cX6_count 142 = .ok (.ireturn, 1) := by decide +kernel
theorem dX6_count_143 : decode cX6_count 143 = .ok (.aload_n 0, 1) := by decide +kernel
theorem dX6_count_144 : decode cX6_count 144 = .ok (.getfield 12, 3) := by decide +kernel
theorem dX6_count_147 : decode cX6_count 147 = .ok (.getfield 78, 3) := by decide +kernel
theorem dX6_count_150 : decode cX6_count 150 = .ok (.getfield 194, 3) := by decide +kernel
theorem dX6_count_153 : decode cX6_count 153 = .ok (.ireturn, 1) := by decide +kernel
theorem dX6_count_154 : decode cX6_count 154 = .ok (.aload_n 0, 1) := by decide +kernel
theorem dX6_count_155 : decode cX6_count 155 = .ok (.getfield 12, 3) := by decide +kernel
theorem dX6_count_158 : decode cX6_count 158 = .ok (.getfield 78, 3) := by decide +kernel
theorem dX6_count_161 : decode cX6_count 161 = .ok (.getfield 197, 3) := by decide +kernel
theorem dX6_count_164 : decode cX6_count 164 = .ok (.ireturn, 1) := by decide +kernel
theorem dX6_count_165 : decode cX6_count 165 = .ok (.aload_n 0, 1) := by decide +kernel
theorem dX6_count_166 : decode cX6_count 166 = .ok (.getfield 12, 3) := by decide +kernel
theorem dX6_count_169 : decode cX6_count 169 = .ok (.getfield 200, 3) := by decide +kernel
theorem dX6_count_172 : decode cX6_count 172 = .ok (.iconst 0, 1) := by decide +kernel
theorem dX6_count_173 : decode cX6_count 173 = .ok (.iaload, 1) := by decide +kernel
theorem dX6_count_174 : decode cX6_count 174 = .ok (.ireturn, 1) := by decide +kernel
theorem dX6_count_175 : decode cX6_count 175 = .ok (.aload_n 0, 1) := by decide +kernel
theorem dX6_count_176 : decode cX6_count 176 = .ok (.getfield 12, 3) := by decide +kernel
theorem dX6_count_179 : decode cX6_count 179 = .ok (.getfield 200, 3) := by decide +kernel
theorem dX6_count_182 : decode cX6_count 182 = .ok (.iconst 1, 1) := by decide +kernel
theorem dX6_count_183 : decode cX6_count 183 = .ok (.iaload, 1) := by decide +kernel
theorem dX6_count_184 : decode cX6_count 184 = .ok (.ireturn, 1) := by decide +kernel
theorem dX6_count_185 : decode cX6_count 185 = .ok (.aload_n 0, 1) := by decide +kernel
theorem dX6_count_186 : decode cX6_count 186 = .ok (.getfield 12, 3) := by decide +kernel
theorem dX6_count_189 : decode cX6_count 189 = .ok (.getfield 200, 3) := by decide +kernel
theorem dX6_count_192 : decode cX6_count 192 = .ok (.iconst 2, 1) := by decide +kernel
theorem dX6_count_193 : decode cX6_count 193 = .ok (.iaload, 1) := by decide +kernel
theorem dX6_count_194 : decode cX6_count 194 = .ok (.ireturn, 1) := by decide +kernel
theorem dX6_count_195 : decode cX6_count 195 = .ok (.aload_n 0, 1) := by decide +kernel
theorem dX6_count_196 : decode cX6_count 196 = .ok (.getfield 12, 3) := by decide +kernel
theorem dX6_count_199 : decode cX6_count 199 = .ok (.getfield 200, 3) := by decide +kernel
theorem dX6_count_202 : decode cX6_count 202 = .ok (.iconst 3, 1) := by decide +kernel
theorem dX6_count_203 : decode cX6_count 203 = .ok (.iaload, 1) := by decide +kernel
theorem dX6_count_204 : decode cX6_count 204 = .ok (.ireturn, 1) := by decide +kernel
theorem dX6_count_205 : decode cX6_count 205 = .ok (.aload_n 0, 1) := by decide +kernel
theorem dX6_count_206 : decode cX6_count 206 = .ok (.getfield 26, 3) := by decide +kernel
theorem dX6_count_209 : decode cX6_count 209 = .ok (.getfield 203, 3) := by decide +kernel
theorem dX6_count_212 : decode cX6_count 212 = .ok (.ireturn, 1) := by decide +kernel
theorem dX6_count_213 : decode cX6_count 213 = .ok (.aload_n 0, 1) := by decide +kernel
theorem dX6_count_214 : decode cX6_count 214 = .ok (.getfield 33, 3) := by decide +kernel
theorem dX6_count_217 : decode cX6_count 217 = .ok (.getfield 206, 3) := by decide +kernel
theorem dX6_count_220 : decode cX6_count 220 = .ok (.ireturn, 1) := by decide +kernel
theorem dX6_count_221 : decode cX6_count 221 = .ok (.bipush (-2), 2) := by decide +kernel
theorem dX6_count_223 : decode cX6_count 223 = .ok (.ireturn, 1) := by decide +kernel
theorem dX6_ended_0 : decode cX6_ended 0 = .ok (.iload_n 1, 1) := by decide +kernel
theorem dX6_ended_1 : decode cX6_ended 1 = .ok (.ifCond .lt 21, 3) := by decide +kernel
theorem dX6_ended_4 : decode cX6_ended 4 = .ok (.iload_n 1, 1) := by decide +kernel
theorem dX6_ended_5 : decode cX6_ended 5 = .ok (.bipush 7, 2) := by decide +kernel
theorem dX6_ended_7 : decode cX6_ended 7 = .ok (.if_icmp .ge 15, 3) := by decide +kernel
theorem dX6_ended_10 : decode cX6_ended 10 = .ok (.aload_n 0, 1) := by decide +kernel
theorem dX6_ended_11 : decode cX6_ended 11 = .ok (.getfield 12, 3) := by decide +kernel
theorem dX6_ended_14 : decode cX6_ended 14 = .ok (.getfield 209, 3) := by decide +kernel
theorem dX6_ended_17 : decode cX6_ended 17 = .ok (.iload_n 1, 1) := by decide +kernel
theorem dX6_ended_18 : decode cX6_ended 18 = .ok (.iaload, 1) := by decide +kernel
theorem dX6_ended_19 : decode cX6_ended 19 = .ok (.goto 5, 3) := by decide +kernel
theorem dX6_ended_22 : decode cX6_ended 22 = .ok (.bipush (-2), 2) := by decide +kernel
theorem dX6_ended_24 : decode cX6_ended 24 = .ok (.ireturn, 1) := by decide +kernel
set_option maxRecDepth 20000 in
theorem ggX6_walk_X6_isDoor : GoodIn wsX6_walk wsX6_isDoor := goodIn_r _ [8] (by decide +kernel) (by decide +kernel)
set_option maxRecDepth 20000 in
theorem gX6_walk_X6_isDoor : GoodIn wsX6_walk (va_wsS RX6 157 yX6_isDoor wsX6_isDoor) := goodIn_app (goodIn_of _ (by decide +kernel)) ggX6_walk_X6_isDoor
set_option maxRecDepth 20000 in
theorem ggX6_walk_X6_isNeed : GoodIn wsX6_walk wsX6_isNeed := goodIn_r _ [11] (by decide +kernel) (by decide +kernel)
set_option maxRecDepth 20000 in
theorem gX6_walk_X6_isNeed : GoodIn wsX6_walk (va_wsS RX6 212 yX6_isNeed wsX6_isNeed) := goodIn_app (goodIn_of _ (by decide +kernel)) ggX6_walk_X6_isNeed
set_option maxRecDepth 20000 in
theorem ggX6_walk_X5_go : GoodIn wsX6_walk wsX5_go := goodIn_r _ [16, 17, 18, 19, 20, 21, 22, 23, 24, 25, 26, 6, 7, 8, 27, 28, 29, 30, 31, 32, 33, 34, 15, 35, 36, 37, 38, 39, 40, 41, 42, 43, 44, 45, 46, 47, 48, 49, 50, 51, 52, 53, 54, 55, 61, 62, 63, 64, 65, 66, 67, 68, 69, 70, 71, 72, 73, 74, 75, 76, 77, 78, 79, 80] (by decide +kernel) (by decide +kernel)
set_option maxRecDepth 20000 in
theorem gX6_walk_X5_go : GoodIn wsX6_walk (wsV RX6 215 RX5 yX5_go wsX5_go) := goodIn_app (goodIn_of _ (by decide +kernel)) ggX6_walk_X5_go
theorem dX6_walk_0 : decode cX6_walk 0 = .ok (.iload_n 1, 1) := by decide +kernel
theorem dX6_walk_1 : decode cX6_walk 1 = .ok (.iload_n 2, 1) := by decide +kernel
theorem dX6_walk_2 : decode cX6_walk 2 = .ok (.invokestatic 157, 3) := by decide +kernel
theorem dX6_walk_5 : decode cX6_walk 5 = .ok (.ifCond .ne 5, 3) := by decide +kernel
theorem dX6_walk_8 : decode cX6_walk 8 = .ok (.iconst (-1), 1) := by decide +kernel
theorem dX6_walk_9 : decode cX6_walk 9 = .ok (.ireturn, 1) := by decide +kernel
theorem dX6_walk_10 : decode cX6_walk 10 = .ok (.iload_n 3, 1) := by decide +kernel
theorem dX6_walk_11 : decode cX6_walk 11 = .ok (.invokestatic 212, 3) := by decide +kernel
theorem dX6_walk_14 : decode cX6_walk 14 = .ok (.ifCond .eq 14, 3) := by decide +kernel
theorem dX6_walk_17 : decode cX6_walk 17 = .ok (.iload 4, 2) := by decide +kernel
theorem dX6_walk_19 : decode cX6_walk 19 = .ok (.ifCond .eq 12, 3) := by decide +kernel
theorem dX6_walk_22 : decode cX6_walk 22 = .ok (.iload 4, 2) := by decide +kernel
theorem dX6_walk_24 : decode cX6_walk 24 = .ok (.iconst 1, 1) := by decide +kernel
theorem dX6_walk_25 : decode cX6_walk 25 = .ok (.if_icmp .eq 6, 3) := by decide +kernel
theorem dX6_walk_28 : decode cX6_walk 28 = .ok (.bipush (-2), 2) := by decide +kernel
theorem dX6_walk_30 : decode cX6_walk 30 = .ok (.ireturn, 1) := by decide +kernel
theorem dX6_walk_31 : decode cX6_walk 31 = .ok (.aload_n 0, 1) := by decide +kernel
theorem dX6_walk_32 : decode cX6_walk 32 = .ok (.getfield 19, 3) := by decide +kernel
theorem dX6_walk_35 : decode cX6_walk 35 = .ok (.aload_n 0, 1) := by decide +kernel
theorem dX6_walk_36 : decode cX6_walk 36 = .ok (.getfield 12, 3) := by decide +kernel
theorem dX6_walk_39 : decode cX6_walk 39 = .ok (.iload_n 1, 1) := by decide +kernel
theorem dX6_walk_40 : decode cX6_walk 40 = .ok (.iload_n 2, 1) := by decide +kernel
theorem dX6_walk_41 : decode cX6_walk 41 = .ok (.iload_n 3, 1) := by decide +kernel
theorem dX6_walk_42 : decode cX6_walk 42 = .ok (.invokevirtual 215, 3) := by decide +kernel
theorem dX6_walk_45 : decode cX6_walk 45 = .ok (.iload 4, 2) := by decide +kernel
theorem dX6_walk_47 : decode cX6_walk 47 = .ok (.ifCond .ne 13, 3) := by decide +kernel
theorem dX6_walk_50 : decode cX6_walk 50 = .ok (.aload_n 0, 1) := by decide +kernel
theorem dX6_walk_51 : decode cX6_walk 51 = .ok (.getfield 19, 3) := by decide +kernel
theorem dX6_walk_54 : decode cX6_walk 54 = .ok (.getfield 219, 3) := by decide +kernel
theorem dX6_walk_57 : decode cX6_walk 57 = .ok (.goto 10, 3) := by decide +kernel
theorem dX6_walk_60 : decode cX6_walk 60 = .ok (.aload_n 0, 1) := by decide +kernel
theorem dX6_walk_61 : decode cX6_walk 61 = .ok (.getfield 19, 3) := by decide +kernel
theorem dX6_walk_64 : decode cX6_walk 64 = .ok (.getfield 222, 3) := by decide +kernel
theorem dX6_walk_67 : decode cX6_walk 67 = .ok (.ireturn, 1) := by decide +kernel
set_option maxRecDepth 20000 in
theorem ggX6_hides_X4_has : GoodIn wsX6_hides wsX4_has := goodIn_r _ [7, 8, 60, 61, 62, 63, 64, 65, 66, 67] (by decide +kernel) (by decide +kernel)
set_option maxRecDepth 20000 in
theorem gX6_hides_X4_has : GoodIn wsX6_hides (wsV RX6 122 RX4 yX4_has wsX4_has) := goodIn_app (goodIn_of _ (by decide +kernel)) ggX6_hides_X4_has
set_option maxRecDepth 20000 in
theorem ggX6_hides_X2_goodStamps : GoodIn wsX6_hides wsX2_goodStamps := goodIn_r _ [13, 14, 15, 16, 17, 18, 19, 20, 21, 22, 23, 24, 12, 25, 26, 27, 28, 29, 30, 31, 4, 5, 6, 7, 8, 32, 33, 50, 51, 52, 53, 54, 55, 56, 57, 58, 59, 60, 61, 62, 63, 64, 65, 66, 67] (by decide +kernel) (by decide +kernel)
set_option maxRecDepth 20000 in
theorem gX6_hides_X2_goodStamps : GoodIn wsX6_hides (wsV RX6 99 RX2 yX2_goodStamps wsX2_goodStamps) := goodIn_app (goodIn_of _ (by decide +kernel)) ggX6_hides_X2_goodStamps
set_option maxRecDepth 20000 in
theorem ggX6_hides_X2_hiddenWithout : GoodIn wsX6_hides wsX2_hiddenWithout := goodIn_r _ [37, 14, 26, 38, 39, 40, 12, 41, 28, 15, 29, 30, 32, 20, 33, 42, 43, 19, 21, 44, 10, 11, 13, 16, 17, 18, 22, 23, 24, 25, 27, 31, 4, 5, 6, 7, 8, 50, 51, 52, 53, 54, 55, 56, 57, 58, 59, 60, 61, 62, 63, 64, 65, 66, 67] (by decide +kernel) (by decide +kernel)
set_option maxRecDepth 20000 in
theorem gX6_hides_X2_hiddenWithout : GoodIn wsX6_hides (wsV RX6 223 RX2 yX2_hiddenWithout wsX2_hiddenWithout) := goodIn_app (goodIn_of _ (by decide +kernel)) ggX6_hides_X2_hiddenWithout
theorem dX6_hides_0 : decode cX6_hides 0 = .ok (.aload_n 0, 1) := by decide +kernel
theorem dX6_hides_1 : decode cX6_hides 1 = .ok (.getfield 12, 3) := by decide +kernel
theorem dX6_hides_4 : decode cX6_hides 4 = .ok (.getfield 107, 3) := by decide +kernel
theorem dX6_hides_7 : decode cX6_hides 7 = .ok (.iload_n 1, 1) := by decide +kernel
theorem dX6_hides_8 : decode cX6_hides 8 = .ok (.invokevirtual 122, 3) := by decide +kernel
theorem dX6_hides_11 : decode cX6_hides 11 = .ok (.ifCond .eq 23, 3) := by decide +kernel
theorem dX6_hides_14 : decode cX6_hides 14 = .ok (.aload_n 0, 1) := by decide +kernel
theorem dX6_hides_15 : decode cX6_hides 15 = .ok (.getfield 12, 3) := by decide +kernel
theorem dX6_hides_18 : decode cX6_hides 18 = .ok (.iload_n 1, 1) := by decide +kernel
theorem dX6_hides_19 : decode cX6_hides 19 = .ok (.aload_n 0, 1) := by decide +kernel
theorem dX6_hides_20 : decode cX6_hides 20 = .ok (.getfield 12, 3) := by decide +kernel
theorem dX6_hides_23 : decode cX6_hides 23 = .ok (.bipush (-6), 2) := by decide +kernel
theorem dX6_hides_25 : decode cX6_hides 25 = .ok (.invokevirtual 99, 3) := by decide +kernel
theorem dX6_hides_28 : decode cX6_hides 28 = .ok (.invokevirtual 223, 3) := by decide +kernel
theorem dX6_hides_31 : decode cX6_hides 31 = .ok (.goto 4, 3) := by decide +kernel
theorem dX6_hides_34 : decode cX6_hides 34 = .ok (.iconst (-1), 1) := by decide +kernel
theorem dX6_hides_35 : decode cX6_hides 35 = .ok (.ireturn, 1) := by decide +kernel
set_option maxRecDepth 20000 in
theorem ggX6_needless_X6_isPage : GoodIn wsX6_needless wsX6_isPage := goodIn_r _ [6] (by decide +kernel) (by decide +kernel)
set_option maxRecDepth 20000 in
theorem gX6_needless_X6_isPage : GoodIn wsX6_needless (va_wsS RX6 91 yX6_isPage wsX6_isPage) := goodIn_app (goodIn_of _ (by decide +kernel)) ggX6_needless_X6_isPage
set_option maxRecDepth 20000 in
theorem ggX6_needless_X2_needlessFor : GoodIn wsX6_needless wsX2_needlessFor := goodIn_r _ [11, 12, 13, 14, 15, 16, 10, 17, 18, 19, 20, 21, 5, 22, 23, 24, 25, 26, 27, 28, 29, 30, 31, 32, 33, 34, 35, 36, 37, 4, 6, 38, 39, 40, 41, 42, 43, 44, 45, 46, 47, 48, 49, 50, 51, 52, 58, 59, 60, 61, 62, 63, 64, 65, 66, 67, 68, 69, 70, 71, 72, 73, 74, 75] (by decide +kernel) (by decide +kernel)
set_option maxRecDepth 20000 in
theorem gX6_needless_X2_needlessFor : GoodIn wsX6_needless (wsV RX6 227 RX2 yX2_needlessFor wsX2_needlessFor) := goodIn_app (goodIn_of _ (by decide +kernel)) ggX6_needless_X2_needlessFor
theorem dX6_needless_0 : decode cX6_needless 0 = .ok (.iload_n 1, 1) := by decide +kernel
theorem dX6_needless_1 : decode cX6_needless 1 = .ok (.invokestatic 91, 3) := by decide +kernel
theorem dX6_needless_4 : decode cX6_needless 4 = .ok (.ifCond .eq 14, 3) := by decide +kernel
theorem dX6_needless_7 : decode cX6_needless 7 = .ok (.aload_n 0, 1) := by decide +kernel
theorem dX6_needless_8 : decode cX6_needless 8 = .ok (.getfield 12, 3) := by decide +kernel
theorem dX6_needless_11 : decode cX6_needless 11 = .ok (.iload_n 1, 1) := by decide +kernel
theorem dX6_needless_12 : decode cX6_needless 12 = .ok (.invokevirtual 227, 3) := by decide +kernel
theorem dX6_needless_15 : decode cX6_needless 15 = .ok (.goto 6, 3) := by decide +kernel
theorem dX6_needless_18 : decode cX6_needless 18 = .ok (.ldc2_w 230, 3) := by decide +kernel
theorem dX6_needless_21 : decode cX6_needless 21 = .ok (.lreturn, 1) := by decide +kernel
set_option maxRecDepth 20000 in
theorem ggX6_longest_X2_longestChain : GoodIn wsX6_longest wsX2_longestChain := goodIn_r _ [6, 7, 8, 9, 10, 11, 5, 12, 13, 14, 15, 16, 17, 18, 19, 20, 21, 22, 23, 24, 25, 26, 27, 28, 29, 30, 31, 32, 33, 34, 35, 36, 37, 38, 39, 40, 41, 47, 48, 49, 50, 51, 52, 53, 54, 55, 56, 57, 58, 59, 60, 61, 62, 63, 64] (by decide +kernel) (by decide +kernel)
set_option maxRecDepth 20000 in
theorem gX6_longest_X2_longestChain : GoodIn wsX6_longest (wsV RX6 232 RX2 yX2_longestChain wsX2_longestChain) := goodIn_app (goodIn_of _ (by decide +kernel)) ggX6_longest_X2_longestChain
theorem dX6_longest_0 : decode cX6_longest 0 = .ok (.aload_n 0, 1) := by decide +kernel
theorem dX6_longest_1 : decode cX6_longest 1 = .ok (.getfield 12, 3) := by decide +kernel
theorem dX6_longest_4 : decode cX6_longest 4 = .ok (.invokevirtual 232, 3) := by decide +kernel
theorem dX6_longest_7 : decode cX6_longest 7 = .ok (.ireturn, 1) := by decide +kernel
set_option maxRecDepth 20000 in
theorem ggX6_put_X3_append : GoodIn wsX6_put wsX3_append := goodIn_r _ [6, 7, 8, 9, 10, 5, 11, 12, 13, 14, 15, 21, 22, 23, 24, 25, 26] (by decide +kernel) (by decide +kernel)
set_option maxRecDepth 20000 in
theorem gX6_put_X3_append : GoodIn wsX6_put (wsV RX6 235 RX3 yX3_append wsX3_append) := goodIn_app (goodIn_of _ (by decide +kernel)) ggX6_put_X3_append
theorem dX6_put_0 : decode cX6_put 0 = .ok (.aload_n 0, 1) := by decide +kernel
theorem dX6_put_1 : decode cX6_put 1 = .ok (.getfield 26, 3) := by decide +kernel
theorem dX6_put_4 : decode cX6_put 4 = .ok (.lload_n 1, 1) := by decide +kernel
theorem dX6_put_5 : decode cX6_put 5 = .ok (.invokevirtual 235, 3) := by decide +kernel
theorem dX6_put_8 : decode cX6_put 8 = .ok (.ireturn, 1) := by decide +kernel
set_option maxRecDepth 20000 in
theorem ggX6_wipe_X3_clear : GoodIn wsX6_wipe wsX3_clear := goodIn_r _ [6, 7, 13, 14, 15, 16, 17, 18] (by decide +kernel) (by decide +kernel)
set_option maxRecDepth 20000 in
theorem gX6_wipe_X3_clear : GoodIn wsX6_wipe (wsV RX6 238 RX3 yX3_clear wsX3_clear) := goodIn_app (goodIn_of _ (by decide +kernel)) ggX6_wipe_X3_clear
theorem dX6_wipe_0 : decode cX6_wipe 0 = .ok (.aload_n 0, 1) := by decide +kernel
theorem dX6_wipe_1 : decode cX6_wipe 1 = .ok (.getfield 26, 3) := by decide +kernel
theorem dX6_wipe_4 : decode cX6_wipe 4 = .ok (.invokevirtual 238, 3) := by decide +kernel
theorem dX6_wipe_7 : decode cX6_wipe 7 = .ok (.ireturn, 1) := by decide +kernel
set_option maxRecDepth 20000 in
theorem ggX6_fault_X3_findFault : GoodIn wsX6_fault wsX3_findFault := goodIn_r _ [6, 7, 8, 9, 10, 11, 12, 5, 13, 14, 15, 16, 17, 18, 19, 20, 21, 22, 23, 24, 25, 26, 27, 28, 29, 30, 31, 32, 33, 34, 35, 36, 37, 38, 39, 40, 41, 42, 43, 44, 45, 46, 47, 48, 49, 50, 51, 52, 53, 54, 55, 56, 57, 58, 59, 60, 61, 62, 63, 64, 65, 66, 67, 68, 69, 70, 71, 72, 73, 74, 75, 76, 77, 78, 79, 80, 81, 82, 83, 84, 85, 86, 87, 88, 89, 90, 91, 92, 93, 94, 95, 96, 97, 98, 99, 100, 101, 102, 103, 104, 110, 111, 112, 113, 114, 115] (by decide +kernel) (by decide +kernel)
set_option maxRecDepth 20000 in
theorem gX6_fault_X3_findFault : GoodIn wsX6_fault (wsV RX6 241 RX3 yX3_findFault wsX3_findFault) := goodIn_app (goodIn_of _ (by decide +kernel)) ggX6_fault_X3_findFault
theorem dX6_fault_0 : decode cX6_fault 0 = .ok (.aload_n 0, 1) := by decide +kernel
theorem dX6_fault_1 : decode cX6_fault 1 = .ok (.getfield 26, 3) := by decide +kernel
theorem dX6_fault_4 : decode cX6_fault 4 = .ok (.invokevirtual 241, 3) := by decide +kernel
theorem dX6_fault_7 : decode cX6_fault 7 = .ok (.ireturn, 1) := by decide +kernel
set_option maxRecDepth 20000 in
theorem ggX6_carryOut_X3_findFault : GoodIn wsX6_carryOut wsX3_findFault := goodIn_r _ [9, 10, 11, 12, 13, 14, 15, 8, 16, 17, 18, 19, 20, 21, 22, 23, 24, 25, 26, 27, 28, 29, 30, 31, 32, 33, 34, 35, 36, 37, 38, 39, 40, 41, 42, 43, 44, 45, 46, 47, 48, 49, 50, 51, 52, 53, 54, 55, 56, 57, 58, 59, 60, 61, 62, 63, 64, 65, 66, 67, 68, 69, 70, 71, 72, 73, 74, 75, 76, 77, 78, 79, 80, 81, 82, 83, 84, 85, 86, 87, 88, 89, 90, 91, 92, 93, 94, 95, 96, 97, 98, 99, 100, 101, 102, 103, 104, 105, 106, 107, 372, 373, 374, 375, 376, 377] (by decide +kernel) (by decide +kernel)
set_option maxRecDepth 20000 in
theorem gX6_carryOut_X3_findFault : GoodIn wsX6_carryOut (wsV RX6 241 RX3 yX3_findFault wsX3_findFault) := goodIn_app (goodIn_of _ (by decide +kernel)) ggX6_carryOut_X3_findFault
set_option maxRecDepth 20000 in
theorem ggX6_carryOut_X1_remember : GoodIn wsX6_carryOut wsX1_remember := goodIn_r _ [112, 113, 114, 115, 116, 117, 118, 119, 120, 121, 122, 123, 124, 125, 126, 127, 128, 129, 130, 131, 132, 133, 134, 135, 136, 137, 138, 139, 140, 141, 142, 143, 144, 145, 146, 147, 148, 149, 150, 151, 152, 153, 154, 155, 156, 157, 158, 159, 160, 161, 162, 163, 164, 165, 166, 167, 168, 169, 170, 171, 172, 173, 174, 175, 176, 177, 178, 179, 180, 181, 182, 183, 184, 185, 186, 187, 188, 189, 378, 379, 380, 381, 382, 383, 384, 385, 386, 387, 388, 389, 390, 391, 392, 393, 394, 395, 396, 397, 398, 399, 400, 401, 402, 403, 404] (by decide +kernel) (by decide +kernel)
set_option maxRecDepth 20000 in
theorem gX6_carryOut_X1_remember : GoodIn wsX6_carryOut (wsV RX6 41 RX1 yX1_remember wsX1_remember) := goodIn_app (goodIn_of _ (by decide +kernel)) ggX6_carryOut_X1_remember
set_option maxRecDepth 20000 in
theorem ggX6_carryOut_X3_startReading : GoodIn wsX6_carryOut wsX3_startReading := goodIn_r _ [16, 10, 372, 373, 374, 375, 376, 377] (by decide +kernel) (by decide +kernel)
set_option maxRecDepth 20000 in
theorem gX6_carryOut_X3_startReading : GoodIn wsX6_carryOut (wsV RX6 244 RX3 yX3_startReading wsX3_startReading) := goodIn_app (goodIn_of _ (by decide +kernel)) ggX6_carryOut_X3_startReading
set_option maxRecDepth 20000 in
theorem ggX6_carryOut_X3_readOrder : GoodIn wsX6_carryOut wsX3_readOrder := goodIn_r _ [20, 10, 11, 12, 21, 22, 23, 24, 8, 25, 26, 27, 28, 29, 30, 31, 32, 33, 34, 35, 36, 37, 38, 39, 40, 41, 42, 43, 44, 45, 46, 47, 48, 49, 50, 51, 52, 53, 54, 55, 56, 57, 58, 59, 60, 61, 62, 63, 64, 65, 66, 67, 68, 69, 70, 71, 72, 73, 74, 75, 76, 77, 78, 79, 80, 81, 82, 83, 84, 85, 86, 87, 88, 89, 90, 91, 92, 93, 94, 95, 96, 97, 98, 99, 100, 101, 102, 103, 104, 105, 106, 107, 372, 373, 374, 375, 376, 377] (by decide +kernel) (by decide +kernel)
set_option maxRecDepth 20000 in
theorem gX6_carryOut_X3_readOrder : GoodIn wsX6_carryOut (wsV RX6 247 RX3 yX3_readOrder wsX3_readOrder) := goodIn_app (goodIn_of _ (by decide +kernel)) ggX6_carryOut_X3_readOrder
set_option maxRecDepth 20000 in
theorem ggX6_carryOut_X2_follow : GoodIn wsX6_carryOut wsX2_follow := goodIn_r _ [195, 196, 197, 198, 199, 200, 117, 201, 125, 202, 203, 204, 205, 206, 207, 208, 209, 210, 138, 211, 212, 213, 214, 215, 216, 217, 218, 219, 220, 221, 222, 223, 224, 225, 226, 227, 137, 228, 181, 229, 230, 231, 232, 133, 142, 233, 234, 235, 236, 141, 237, 187, 238, 239, 240, 241, 188, 242, 243, 244, 245, 154, 155, 156, 157, 246, 247, 248, 249, 250, 251, 252, 253, 254, 255, 256, 257, 258, 259, 260, 126, 261, 262, 263, 264, 265, 266, 267, 268, 269, 270, 271, 272, 273, 274, 275, 276, 147, 148, 146, 149, 150, 179, 277, 278, 279, 280, 281, 282, 283, 284, 285, 286, 287, 288, 289, 290, 291, 292, 293, 294, 295, 296, 297, 171, 173, 298, 134, 299, 300, 301, 302, 303, 304, 305, 170, 306, 307, 308, 309, 310, 311, 312, 313, 314, 315, 316, 317, 172, 318, 319, 320, 321, 322, 323, 324, 325, 326, 327, 328, 329, 330, 331, 332, 333, 334, 335, 336, 337, 338, 339, 340, 341, 342, 343, 344, 345, 346, 347, 348, 349, 350, 351, 352, 189, 353, 372, 373, 374, 375, 376, 377, 380, 381, 382, 383, 384, 385, 386, 387, 388, 389, 390, 391, 392, 393, 394, 395, 396, 397, 398, 399, 400, 401, 402, 403, 404, 405, 406] (by decide +kernel) (by decide +kernel)
set_option maxRecDepth 20000 in
theorem gX6_carryOut_X2_follow : GoodIn wsX6_carryOut (wsV RX6 251 RX2 yX2_follow wsX2_follow) := goodIn_app (goodIn_of _ (by decide +kernel)) ggX6_carryOut_X2_follow
set_option maxRecDepth 20000 in
theorem ggX6_carryOut_X3_skipSign : GoodIn wsX6_carryOut wsX3_skipSign := goodIn_r _ [35, 10, 372, 373, 374, 375, 376, 377] (by decide +kernel) (by decide +kernel)
set_option maxRecDepth 20000 in
theorem gX6_carryOut_X3_skipSign : GoodIn wsX6_carryOut (wsV RX6 255 RX3 yX3_skipSign wsX3_skipSign) := goodIn_app (goodIn_of _ (by decide +kernel)) ggX6_carryOut_X3_skipSign
set_option maxRecDepth 20000 in
theorem ggX6_carryOut_X3_clear : GoodIn wsX6_carryOut wsX3_clear := goodIn_r _ [358, 11, 372, 373, 374, 375, 376, 377] (by decide +kernel) (by decide +kernel)
set_option maxRecDepth 20000 in
theorem gX6_carryOut_X3_clear : GoodIn wsX6_carryOut (wsV RX6 238 RX3 yX3_clear wsX3_clear) := goodIn_app (goodIn_of _ (by decide +kernel)) ggX6_carryOut_X3_clear
set_option maxRecDepth 20000 in
theorem ggX6_carryOut_X1_keepUnlessError : GoodIn wsX6_carryOut wsX1_keepUnlessError := goodIn_r _ [362, 363, 364, 365, 111, 366, 114, 113, 378, 379] (by decide +kernel) (by decide +kernel)
set_option maxRecDepth 20000 in
theorem gX6_carryOut_X1_keepUnlessError : GoodIn wsX6_carryOut (wsV RX6 49 RX1 yX1_keepUnlessError wsX1_keepUnlessError) := goodIn_app (goodIn_of _ (by decide +kernel)) ggX6_carryOut_X1_keepUnlessError
theorem dX6_carryOut_0 : decode cX6_carryOut 0 = .ok (.aload_n 0, 1) := by decide +kernel
theorem dX6_carryOut_1 : decode cX6_carryOut 1 = .ok (.getfield 26, 3) := by decide +kernel
theorem dX6_carryOut_4 : decode cX6_carryOut 4 = .ok (.invokevirtual 241, 3) := by decide +kernel
theorem dX6_carryOut_7 : decode cX6_carryOut 7 = .ok (.bipush (-6), 2) := by decide +kernel
theorem dX6_carryOut_9 : decode cX6_carryOut 9 = .ok (.if_icmp .eq 6, 3) := by decide +kernel
theorem dX6_carryOut_12 : decode cX6_carryOut 12 = .ok (.bipush (-3), 2) := by decide +kernel
theorem dX6_carryOut_14 : decode cX6_carryOut 14 = .ok (.ireturn, 1) := by decide +kernel
theorem dX6_carryOut_15 : decode cX6_carryOut 15 = .ok (.aload_n 0, 1) := by decide +kernel
theorem dX6_carryOut_16 : decode cX6_carryOut 16 = .ok (.getfield 33, 3) := by decide +kernel
theorem dX6_carryOut_19 : decode cX6_carryOut 19 = .ok (.aload_n 0, 1) := by decide +kernel
theorem dX6_carryOut_20 : decode cX6_carryOut 20 = .ok (.getfield 12, 3) := by decide +kernel
theorem dX6_carryOut_23 : decode cX6_carryOut 23 = .ok (.invokevirtual 41, 3) := by decide +kernel
theorem dX6_carryOut_26 : decode cX6_carryOut 26 = .ok (.iconst 0, 1) := by decide +kernel
theorem dX6_carryOut_27 : decode cX6_carryOut 27 = .ok (.istore_n 1, 1) := by decide +kernel
theorem dX6_carryOut_28 : decode cX6_carryOut 28 = .ok (.aload_n 0, 1) := by decide +kernel
theorem dX6_carryOut_29 : decode cX6_carryOut 29 = .ok (.getfield 26, 3) := by decide +kernel
theorem dX6_carryOut_32 : decode cX6_carryOut 32 = .ok (.invokevirtual 244, 3) := by decide +kernel
theorem dX6_carryOut_35 : decode cX6_carryOut 35 = .ok (.iload_n 1, 1) := by decide +kernel
theorem dX6_carryOut_36 : decode cX6_carryOut 36 = .ok (.bipush 80, 2) := by decide +kernel
theorem dX6_carryOut_38 : decode cX6_carryOut 38 = .ok (.if_icmp .ge 44, 3) := by decide +kernel
theorem dX6_carryOut_41 : decode cX6_carryOut 41 = .ok (.aload_n 0, 1) := by decide +kernel
theorem dX6_carryOut_42 : decode cX6_carryOut 42 = .ok (.getfield 26, 3) := by decide +kernel
theorem dX6_carryOut_45 : decode cX6_carryOut 45 = .ok (.invokevirtual 247, 3) := by decide +kernel
theorem dX6_carryOut_48 : decode cX6_carryOut 48 = .ok (.ifCond .eq 34, 3) := by decide +kernel
theorem dX6_carryOut_51 : decode cX6_carryOut 51 = .ok (.aload_n 0, 1) := by decide +kernel
theorem dX6_carryOut_52 : decode cX6_carryOut 52 = .ok (.getfield 12, 3) := by decide +kernel
theorem dX6_carryOut_55 : decode cX6_carryOut 55 = .ok (.aload_n 0, 1) := by decide +kernel
theorem dX6_carryOut_56 : decode cX6_carryOut 56 = .ok (.getfield 26, 3) := by decide +kernel
theorem dX6_carryOut_59 : decode cX6_carryOut 59 = .ok (.aload_n 0, 1) := by decide +kernel
theorem dX6_carryOut_60 : decode cX6_carryOut 60 = .ok (.getfield 19, 3) := by decide +kernel
theorem dX6_carryOut_63 : decode cX6_carryOut 63 = .ok (.invokevirtual 251, 3) := by decide +kernel
theorem dX6_carryOut_66 : decode cX6_carryOut 66 = .ok (.ifCond .lt 16, 3) := by decide +kernel
theorem dX6_carryOut_69 : decode cX6_carryOut 69 = .ok (.iinc 1 1, 3) := by decide +kernel
theorem dX6_carryOut_72 : decode cX6_carryOut 72 = .ok (.aload_n 0, 1) := by decide +kernel
theorem dX6_carryOut_73 : decode cX6_carryOut 73 = .ok (.getfield 26, 3) := by decide +kernel
theorem dX6_carryOut_76 : decode cX6_carryOut 76 = .ok (.invokevirtual 255, 3) := by decide +kernel
theorem dX6_carryOut_79 : decode cX6_carryOut 79 = .ok (.goto (-44), 3) := by decide +kernel
theorem dX6_carryOut_82 : decode cX6_carryOut 82 = .ok (.aload_n 0, 1) := by decide +kernel
theorem dX6_carryOut_83 : decode cX6_carryOut 83 = .ok (.getfield 26, 3) := by decide +kernel
theorem dX6_carryOut_86 : decode cX6_carryOut 86 = .ok (.invokevirtual 238, 3) := by decide +kernel
theorem dX6_carryOut_89 : decode cX6_carryOut 89 = .ok (.pop, 1) := by decide +kernel
theorem dX6_carryOut_90 : decode cX6_carryOut 90 = .ok (.aload_n 0, 1) := by decide +kernel
theorem dX6_carryOut_91 : decode cX6_carryOut 91 = .ok (.getfield 33, 3) := by decide +kernel
theorem dX6_carryOut_94 : decode cX6_carryOut 94 = .ok (.iload_n 1, 1) := by decide +kernel
theorem dX6_carryOut_95 : decode cX6_carryOut 95 = .ok (.invokevirtual 49, 3) := by decide +kernel
theorem dX6_carryOut_98 : decode cX6_carryOut 98 = .ok (.ireturn, 1) := by decide +kernel
set_option maxRecDepth 20000 in
theorem ggX6_undo_X1_goBack : GoodIn wsX6_undo wsX1_goBack := goodIn_r _ [7, 8, 9, 10, 11, 12, 13, 14, 15, 16, 17, 18, 19, 20, 21, 22, 23, 24, 25, 26, 27, 28, 29, 30, 31, 32, 33, 34, 35, 36, 37, 38, 39, 40, 41, 42, 43, 44, 45, 46, 47, 48, 49, 50, 51, 52, 53, 54, 55, 61, 62, 63, 64, 65, 66, 67, 68, 69, 70, 71, 72, 73, 74, 75, 76, 77, 78, 79, 80, 81, 82, 83, 84, 85, 86, 87] (by decide +kernel) (by decide +kernel)
set_option maxRecDepth 20000 in
theorem gX6_undo_X1_goBack : GoodIn wsX6_undo (wsV RX6 258 RX1 yX1_goBack wsX1_goBack) := goodIn_app (goodIn_of _ (by decide +kernel)) ggX6_undo_X1_goBack
theorem dX6_undo_0 : decode cX6_undo 0 = .ok (.aload_n 0, 1) := by decide +kernel
theorem dX6_undo_1 : decode cX6_undo 1 = .ok (.getfield 33, 3) := by decide +kernel
theorem dX6_undo_4 : decode cX6_undo 4 = .ok (.aload_n 0, 1) := by decide +kernel
theorem dX6_undo_5 : decode cX6_undo 5 = .ok (.getfield 12, 3) := by decide +kernel
theorem dX6_undo_8 : decode cX6_undo 8 = .ok (.invokevirtual 258, 3) := by decide +kernel
theorem dX6_undo_11 : decode cX6_undo 11 = .ok (.ireturn, 1) := by decide +kernel
set_option maxRecDepth 20000 in
theorem ggX6_save_X6_isSlot : GoodIn wsX6_save wsX6_isSlot := goodIn_r _ [11] (by decide +kernel) (by decide +kernel)
set_option maxRecDepth 20000 in
theorem gX6_save_X6_isSlot : GoodIn wsX6_save (va_wsS RX6 262 yX6_isSlot wsX6_isSlot) := goodIn_app (goodIn_of _ (by decide +kernel)) ggX6_save_X6_isSlot
set_option maxRecDepth 20000 in
theorem ggX6_save_X2_init : GoodIn wsX6_save wsX2_init := goodIn_r _ [14, 15, 16, 17, 18, 19, 20, 21, 22, 23, 24, 25, 26, 27, 28, 29, 30, 31, 32, 33, 34, 35, 36, 37, 38, 39, 40, 41, 42, 43, 44, 45, 46, 47, 48, 49, 50, 51, 52, 53, 54, 55, 89, 90, 91, 92, 93, 94, 95, 96, 97, 98, 99, 100, 101, 102, 103, 104, 105, 106, 107, 108, 109, 110, 111, 112, 113] (by decide +kernel) (by decide +kernel)
set_option maxRecDepth 20000 in
theorem gX6_save_X2_init : GoodIn wsX6_save (wsX2_init) := ggX6_save_X2_init
set_option maxRecDepth 20000 in
theorem ggX6_save_X2_copyFrom : GoodIn wsX6_save wsX2_copyFrom := goodIn_r _ [59, 19, 60, 61, 62, 63, 20, 27, 28, 32, 36, 64, 65, 66, 67, 68, 69, 70, 31, 71, 40, 72, 41, 42, 43, 44, 73, 74, 75, 76, 77, 78, 35, 79, 48, 80, 49, 50, 51, 81, 82, 83, 89, 90, 91, 92, 93, 94, 95, 96, 97, 98, 99, 100, 101, 102, 103, 104, 105, 106, 107, 108, 109, 110, 111, 112, 113] (by decide +kernel) (by decide +kernel)
set_option maxRecDepth 20000 in
theorem gX6_save_X2_copyFrom : GoodIn wsX6_save (wsV RX6 265 RX2 yX2_copyFrom wsX2_copyFrom) := goodIn_app (goodIn_of _ (by decide +kernel)) ggX6_save_X2_copyFrom
theorem dX6_save_0 : decode cX6_save 0 = .ok (.iload_n 1, 1) := by decide +kernel
theorem dX6_save_1 : decode cX6_save 1 = .ok (.invokestatic 262, 3) := by decide +kernel
theorem dX6_save_4 : decode cX6_save 4 = .ok (.ifCond .ne 6, 3) := by decide +kernel
theorem dX6_save_7 : decode cX6_save 7 = .ok (.bipush (-2), 2) := by decide +kernel
theorem dX6_save_9 : decode cX6_save 9 = .ok (.ireturn, 1) := by decide +kernel
theorem dX6_save_10 : decode cX6_save 10 = .ok (.aload_n 0, 1) := by decide +kernel
theorem dX6_save_11 : decode cX6_save 11 = .ok (.getfield 37, 3) := by decide +kernel
theorem dX6_save_14 : decode cX6_save 14 = .ok (.iload_n 1, 1) := by decide +kernel
theorem dX6_save_15 : decode cX6_save 15 = .ok (.aaload, 1) := by decide +kernel
theorem dX6_save_16 : decode cX6_save 16 = .ok (.ifnonnull 16, 3) := by decide +kernel
theorem dX6_save_19 : decode cX6_save 19 = .ok (.aload_n 0, 1) := by decide +kernel
theorem dX6_save_20 : decode cX6_save 20 = .ok (.getfield 37, 3) := by decide +kernel
theorem dX6_save_23 : decode cX6_save 23 = .ok (.iload_n 1, 1) := by decide +kernel
theorem dX6_save_24 : decode cX6_save 24 = .ok (.new 9, 3) := by decide +kernel
theorem dX6_save_27 : decode cX6_save 27 = .ok (.dup, 1) := by decide +kernel
theorem dX6_save_28 : decode cX6_save 28 = .ok (.invokespecial 11, 3) := by decide +kernel
theorem dX6_save_31 : decode cX6_save 31 = .ok (.aastore, 1) := by decide +kernel
theorem dX6_save_32 : decode cX6_save 32 = .ok (.aload_n 0, 1) := by decide +kernel
theorem dX6_save_33 : decode cX6_save 33 = .ok (.getfield 37, 3) := by decide +kernel
theorem dX6_save_36 : decode cX6_save 36 = .ok (.iload_n 1, 1) := by decide +kernel
theorem dX6_save_37 : decode cX6_save 37 = .ok (.aaload, 1) := by decide +kernel
theorem dX6_save_38 : decode cX6_save 38 = .ok (.aload_n 0, 1) := by decide +kernel
theorem dX6_save_39 : decode cX6_save 39 = .ok (.getfield 12, 3) := by decide +kernel
theorem dX6_save_42 : decode cX6_save 42 = .ok (.invokevirtual 265, 3) := by decide +kernel
theorem dX6_save_45 : decode cX6_save 45 = .ok (.aload_n 0, 1) := by decide +kernel
theorem dX6_save_46 : decode cX6_save 46 = .ok (.getfield 12, 3) := by decide +kernel
theorem dX6_save_49 : decode cX6_save 49 = .ok (.getfield 107, 3) := by decide +kernel
theorem dX6_save_52 : decode cX6_save 52 = .ok (.getfield 175, 3) := by decide +kernel
theorem dX6_save_55 : decode cX6_save 55 = .ok (.ireturn, 1) := by decide +kernel
set_option maxRecDepth 20000 in
theorem ggX6_restore_X6_isSlot : GoodIn wsX6_restore wsX6_isSlot := goodIn_r _ [9] (by decide +kernel) (by decide +kernel)
set_option maxRecDepth 20000 in
theorem gX6_restore_X6_isSlot : GoodIn wsX6_restore (va_wsS RX6 262 yX6_isSlot wsX6_isSlot) := goodIn_app (goodIn_of _ (by decide +kernel)) ggX6_restore_X6_isSlot
set_option maxRecDepth 20000 in
theorem ggX6_restore_X1_remember : GoodIn wsX6_restore wsX1_remember := goodIn_r _ [14, 15, 16, 17, 18, 19, 20, 21, 22, 23, 24, 25, 26, 27, 28, 29, 30, 31, 32, 33, 34, 35, 36, 37, 38, 39, 40, 41, 42, 43, 44, 45, 46, 47, 48, 49, 50, 51, 52, 53, 54, 55, 56, 57, 58, 59, 60, 61, 62, 63, 64, 65, 66, 67, 68, 69, 70, 71, 72, 73, 74, 75, 76, 77, 78, 79, 80, 81, 82, 83, 84, 85, 86, 87, 88, 89, 90, 91, 124, 125, 106, 107, 108, 109, 110, 111, 112, 113, 114, 115, 116, 117, 118, 119, 120, 121, 122, 123, 126, 127, 128, 129, 130, 131, 132] (by decide +kernel) (by decide +kernel)
set_option maxRecDepth 20000 in
theorem gX6_restore_X1_remember : GoodIn wsX6_restore (wsV RX6 41 RX1 yX1_remember wsX1_remember) := goodIn_app (goodIn_of _ (by decide +kernel)) ggX6_restore_X1_remember
set_option maxRecDepth 20000 in
theorem ggX6_restore_X2_copyFrom : GoodIn wsX6_restore wsX2_copyFrom := goodIn_r _ [67, 27, 68, 69, 70, 71, 28, 35, 36, 40, 44, 72, 73, 74, 75, 76, 77, 78, 39, 79, 48, 80, 49, 50, 51, 52, 81, 82, 83, 84, 85, 86, 43, 87, 56, 88, 57, 58, 59, 89, 90, 91, 106, 107, 108, 109, 110, 111, 112, 113, 114, 115, 116, 117, 118, 119, 120, 121, 122, 123, 126, 127, 128, 129, 130, 131, 132] (by decide +kernel) (by decide +kernel)
set_option maxRecDepth 20000 in
theorem gX6_restore_X2_copyFrom : GoodIn wsX6_restore (wsV RX6 265 RX2 yX2_copyFrom wsX2_copyFrom) := goodIn_app (goodIn_of _ (by decide +kernel)) ggX6_restore_X2_copyFrom
set_option maxRecDepth 20000 in
theorem ggX6_restore_X1_keepUnlessError : GoodIn wsX6_restore wsX1_keepUnlessError := goodIn_r _ [96, 97, 98, 99, 13, 100, 16, 15, 124, 125] (by decide +kernel) (by decide +kernel)
set_option maxRecDepth 20000 in
theorem gX6_restore_X1_keepUnlessError : GoodIn wsX6_restore (wsV RX6 49 RX1 yX1_keepUnlessError wsX1_keepUnlessError) := goodIn_app (goodIn_of _ (by decide +kernel)) ggX6_restore_X1_keepUnlessError
theorem dX6_restore_0 : decode cX6_restore 0 = .ok (.iload_n 1, 1) := by decide +kernel
theorem dX6_restore_1 : decode cX6_restore 1 = .ok (.invokestatic 262, 3) := by decide +kernel
theorem dX6_restore_4 : decode cX6_restore 4 = .ok (.ifCond .ne 6, 3) := by decide +kernel
theorem dX6_restore_7 : decode cX6_restore 7 = .ok (.bipush (-2), 2) := by decide +kernel
theorem dX6_restore_9 : decode cX6_restore 9 = .ok (.ireturn, 1) := by decide +kernel
theorem dX6_restore_10 : decode cX6_restore 10 = .ok (.aload_n 0, 1) := by decide +kernel
theorem dX6_restore_11 : decode cX6_restore 11 = .ok (.getfield 37, 3) := by decide +kernel
theorem dX6_restore_14 : decode cX6_restore 14 = .ok (.iload_n 1, 1) := by decide +kernel
theorem dX6_restore_15 : decode cX6_restore 15 = .ok (.aaload, 1) := by decide +kernel
theorem dX6_restore_16 : decode cX6_restore 16 = .ok (.astore_n 2, 1) := by decide +kernel
theorem dX6_restore_17 : decode cX6_restore 17 = .ok (.aload_n 2, 1) := by decide +kernel
theorem dX6_restore_18 : decode cX6_restore 18 = .ok (.ifnonnull 6, 3) := by decide +kernel
theorem dX6_restore_21 : decode cX6_restore 21 = .ok (.bipush (-5), 2) := by decide +kernel
theorem dX6_restore_23 : decode cX6_restore 23 = .ok (.ireturn, 1) := by decide +kernel
theorem dX6_restore_24 : decode cX6_restore 24 = .ok (.aload_n 0, 1) := by decide +kernel
theorem dX6_restore_25 : decode cX6_restore 25 = .ok (.getfield 33, 3) := by decide +kernel
theorem dX6_restore_28 : decode cX6_restore 28 = .ok (.aload_n 0, 1) := by decide +kernel
theorem dX6_restore_29 : decode cX6_restore 29 = .ok (.getfield 12, 3) := by decide +kernel
theorem dX6_restore_32 : decode cX6_restore 32 = .ok (.invokevirtual 41, 3) := by decide +kernel
theorem dX6_restore_35 : decode cX6_restore 35 = .ok (.aload_n 0, 1) := by decide +kernel
theorem dX6_restore_36 : decode cX6_restore 36 = .ok (.getfield 12, 3) := by decide +kernel
theorem dX6_restore_39 : decode cX6_restore 39 = .ok (.aload_n 2, 1) := by decide +kernel
theorem dX6_restore_40 : decode cX6_restore 40 = .ok (.invokevirtual 265, 3) := by decide +kernel
theorem dX6_restore_43 : decode cX6_restore 43 = .ok (.aload_n 0, 1) := by decide +kernel
theorem dX6_restore_44 : decode cX6_restore 44 = .ok (.getfield 33, 3) := by decide +kernel
theorem dX6_restore_47 : decode cX6_restore 47 = .ok (.aload_n 0, 1) := by decide +kernel
theorem dX6_restore_48 : decode cX6_restore 48 = .ok (.getfield 12, 3) := by decide +kernel
theorem dX6_restore_51 : decode cX6_restore 51 = .ok (.getfield 107, 3) := by decide +kernel
theorem dX6_restore_54 : decode cX6_restore 54 = .ok (.getfield 175, 3) := by decide +kernel
theorem dX6_restore_57 : decode cX6_restore 57 = .ok (.invokevirtual 49, 3) := by decide +kernel
theorem dX6_restore_60 : decode cX6_restore 60 = .ok (.ireturn, 1) := by decide +kernel
theorem dX6_isGuest_0 : decode cX6_isGuest 0 = .ok (.iload_n 0, 1) := by decide +kernel
theorem dX6_isGuest_1 : decode cX6_isGuest 1 = .ok (.ifCond .lt 13, 3) := by decide +kernel
theorem dX6_isGuest_4 : decode cX6_isGuest 4 = .ok (.iload_n 0, 1) := by decide +kernel
theorem dX6_isGuest_5 : decode cX6_isGuest 5 = .ok (.bipush 6, 2) := by decide +kernel
theorem dX6_isGuest_7 : decode cX6_isGuest 7 = .ok (.if_icmp .ge 7, 3) := by decide +kernel
theorem dX6_isGuest_10 : decode cX6_isGuest 10 = .ok (.iconst 1, 1) := by decide +kernel
theorem dX6_isGuest_11 : decode cX6_isGuest 11 = .ok (.goto 4, 3) := by decide +kernel
theorem dX6_isGuest_14 : decode cX6_isGuest 14 = .ok (.iconst 0, 1) := by decide +kernel
theorem dX6_isGuest_15 : decode cX6_isGuest 15 = .ok (.ireturn, 1) := by decide +kernel
theorem dX6_isPage_0 : decode cX6_isPage 0 = .ok (.iload_n 0, 1) := by decide +kernel
theorem dX6_isPage_1 : decode cX6_isPage 1 = .ok (.ifCond .lt 13, 3) := by decide +kernel
theorem dX6_isPage_4 : decode cX6_isPage 4 = .ok (.iload_n 0, 1) := by decide +kernel
theorem dX6_isPage_5 : decode cX6_isPage 5 = .ok (.bipush 12, 2) := by decide +kernel
theorem dX6_isPage_7 : decode cX6_isPage 7 = .ok (.if_icmp .ge 7, 3) := by decide +kernel
theorem dX6_isPage_10 : decode cX6_isPage 10 = .ok (.iconst 1, 1) := by decide +kernel
theorem dX6_isPage_11 : decode cX6_isPage 11 = .ok (.goto 4, 3) := by decide +kernel
theorem dX6_isPage_14 : decode cX6_isPage 14 = .ok (.iconst 0, 1) := by decide +kernel
theorem dX6_isPage_15 : decode cX6_isPage 15 = .ok (.ireturn, 1) := by decide +kernel
theorem dX6_isDoor_0 : decode cX6_isDoor 0 = .ok (.iload_n 0, 1) := by decide +kernel
theorem dX6_isDoor_1 : decode cX6_isDoor 1 = .ok (.ifCond .lt 23, 3) := by decide +kernel
theorem dX6_isDoor_4 : decode cX6_isDoor 4 = .ok (.iload_n 0, 1) := by decide +kernel
theorem dX6_isDoor_5 : decode cX6_isDoor 5 = .ok (.bipush 6, 2) := by decide +kernel
theorem dX6_isDoor_7 : decode cX6_isDoor 7 = .ok (.if_icmp .ge 17, 3) := by decide +kernel
theorem dX6_isDoor_10 : decode cX6_isDoor 10 = .ok (.iload_n 1, 1) := by decide +kernel
theorem dX6_isDoor_11 : decode cX6_isDoor 11 = .ok (.ifCond .lt 13, 3) := by decide +kernel
theorem dX6_isDoor_14 : decode cX6_isDoor 14 = .ok (.iload_n 1, 1) := by decide +kernel
theorem dX6_isDoor_15 : decode cX6_isDoor 15 = .ok (.bipush 10, 2) := by decide +kernel
theorem dX6_isDoor_17 : decode cX6_isDoor 17 = .ok (.if_icmp .ge 7, 3) := by decide +kernel
theorem dX6_isDoor_20 : decode cX6_isDoor 20 = .ok (.iconst 1, 1) := by decide +kernel
theorem dX6_isDoor_21 : decode cX6_isDoor 21 = .ok (.goto 4, 3) := by decide +kernel
theorem dX6_isDoor_24 : decode cX6_isDoor 24 = .ok (.iconst 0, 1) := by decide +kernel
theorem dX6_isDoor_25 : decode cX6_isDoor 25 = .ok (.ireturn, 1) := by decide +kernel
theorem dX6_isNeed_0 : decode cX6_isNeed 0 = .ok (.iload_n 0, 1) := by decide +kernel
theorem dX6_isNeed_1 : decode cX6_isNeed 1 = .ok (.iconst 1, 1) := by decide +kernel
theorem dX6_isNeed_2 : decode cX6_isNeed 2 = .ok (.if_icmp .eq 8, 3) := by decide +kernel
theorem dX6_isNeed_5 : decode cX6_isNeed 5 = .ok (.iload_n 0, 1) := by decide +kernel
theorem dX6_isNeed_6 : decode cX6_isNeed 6 = .ok (.iconst 2, 1) := by decide +kernel
theorem dX6_isNeed_7 : decode cX6_isNeed 7 = .ok (.if_icmp .ne 7, 3) := by decide +kernel
theorem dX6_isNeed_10 : decode cX6_isNeed 10 = .ok (.iconst 1, 1) := by decide +kernel
theorem dX6_isNeed_11 : decode cX6_isNeed 11 = .ok (.goto 4, 3) := by decide +kernel
theorem dX6_isNeed_14 : decode cX6_isNeed 14 = .ok (.iconst 0, 1) := by decide +kernel
theorem dX6_isNeed_15 : decode cX6_isNeed 15 = .ok (.ireturn, 1) := by decide +kernel
theorem dX6_areRights_0 : decode cX6_areRights 0 = .ok (.iload_n 0, 1) := by decide +kernel
theorem dX6_areRights_1 : decode cX6_areRights 1 = .ok (.iconst 1, 1) := by decide +kernel
theorem dX6_areRights_2 : decode cX6_areRights 2 = .ok (.if_icmp .lt 13, 3) := by decide +kernel
theorem dX6_areRights_5 : decode cX6_areRights 5 = .ok (.iload_n 0, 1) := by decide +kernel
theorem dX6_areRights_6 : decode cX6_areRights 6 = .ok (.bipush 7, 2) := by decide +kernel
theorem dX6_areRights_8 : decode cX6_areRights 8 = .ok (.if_icmp .gt 7, 3) := by decide +kernel
theorem dX6_areRights_11 : decode cX6_areRights 11 = .ok (.iconst 1, 1) := by decide +kernel
theorem dX6_areRights_12 : decode cX6_areRights 12 = .ok (.goto 4, 3) := by decide +kernel
theorem dX6_areRights_15 : decode cX6_areRights 15 = .ok (.iconst 0, 1) := by decide +kernel
theorem dX6_areRights_16 : decode cX6_areRights 16 = .ok (.ireturn, 1) := by decide +kernel
theorem dX6_isSlot_0 : decode cX6_isSlot 0 = .ok (.iload_n 0, 1) := by decide +kernel
theorem dX6_isSlot_1 : decode cX6_isSlot 1 = .ok (.ifCond .lt 12, 3) := by decide +kernel
theorem dX6_isSlot_4 : decode cX6_isSlot 4 = .ok (.iload_n 0, 1) := by decide +kernel
theorem dX6_isSlot_5 : decode cX6_isSlot 5 = .ok (.iconst 2, 1) := by decide +kernel
theorem dX6_isSlot_6 : decode cX6_isSlot 6 = .ok (.if_icmp .ge 7, 3) := by decide +kernel
theorem dX6_isSlot_9 : decode cX6_isSlot 9 = .ok (.iconst 1, 1) := by decide +kernel
theorem dX6_isSlot_10 : decode cX6_isSlot 10 = .ok (.goto 4, 3) := by decide +kernel
theorem dX6_isSlot_13 : decode cX6_isSlot 13 = .ok (.iconst 0, 1) := by decide +kernel
theorem dX6_isSlot_14 : decode cX6_isSlot 14 = .ok (.ireturn, 1) := by decide +kernel
theorem dX6_isIn_0 : decode cX6_isIn 0 = .ok (.lload_n 0, 1) := by decide +kernel
theorem dX6_isIn_1 : decode cX6_isIn 1 = .ok (.iload_n 2, 1) := by decide +kernel
theorem dX6_isIn_2 : decode cX6_isIn 2 = .ok (.lushr, 1) := by decide +kernel
theorem dX6_isIn_3 : decode cX6_isIn 3 = .ok (.lconst 1, 1) := by decide +kernel
theorem dX6_isIn_4 : decode cX6_isIn 4 = .ok (.land, 1) := by decide +kernel
theorem dX6_isIn_5 : decode cX6_isIn 5 = .ok (.lconst 0, 1) := by decide +kernel
theorem dX6_isIn_6 : decode cX6_isIn 6 = .ok (.lcmp, 1) := by decide +kernel
theorem dX6_isIn_7 : decode cX6_isIn 7 = .ok (.ifCond .eq 7, 3) := by decide +kernel
theorem dX6_isIn_10 : decode cX6_isIn 10 = .ok (.iconst 1, 1) := by decide +kernel
theorem dX6_isIn_11 : decode cX6_isIn 11 = .ok (.goto 4, 3) := by decide +kernel
theorem dX6_isIn_14 : decode cX6_isIn 14 = .ok (.iconst 0, 1) := by decide +kernel
theorem dX6_isIn_15 : decode cX6_isIn 15 = .ok (.ireturn, 1) := by decide +kernel
theorem dX7_init_0 : decode cX7_init 0 = .ok (.aload_n 0, 1) := by decide +kernel
theorem dX7_init_1 : decode cX7_init 1 = .ok (.invokespecial 1, 3) := by decide +kernel
theorem dX7_init_4 : decode cX7_init 4 = .ok (.aload_n 0, 1) := by decide +kernel
theorem dX7_init_5 : decode cX7_init 5 = .ok (.sipush 407, 3) := by decide +kernel
theorem dX7_init_8 : decode cX7_init 8 = .ok (.newarray .int, 2) := by decide +kernel
theorem dX7_init_10 : decode cX7_init 10 = .ok (.putfield 7, 3) := by decide +kernel
theorem dX7_init_13 : decode cX7_init 13 = .ok (.aload_n 0, 1) := by decide +kernel
theorem dX7_init_14 : decode cX7_init 14 = .ok (.sipush 2442, 3) := by decide +kernel
theorem dX7_init_17 : decode cX7_init 17 = .ok (.newarray .int, 2) := by decide +kernel
theorem dX7_init_19 : decode cX7_init 19 = .ok (.putfield 13, 3) := by decide +kernel
theorem dX7_init_22 : decode cX7_init 22 = .ok (.aload_n 0, 1) := by decide +kernel
theorem dX7_init_23 : decode cX7_init 23 = .ok (.sipush 814, 3) := by decide +kernel
theorem dX7_init_26 : decode cX7_init 26 = .ok (.newarray .int, 2) := by decide +kernel
theorem dX7_init_28 : decode cX7_init 28 = .ok (.putfield 16, 3) := by decide +kernel
theorem dX7_init_31 : decode cX7_init 31 = .ok (.aload_n 0, 1) := by decide +kernel
theorem dX7_init_32 : decode cX7_init 32 = .ok (.iconst 2, 1) := by decide +kernel
theorem dX7_init_33 : decode cX7_init 33 = .ok (.newarray .boolean, 2) := by decide +kernel
theorem dX7_init_35 : decode cX7_init 35 = .ok (.putfield 19, 3) := by decide +kernel
theorem dX7_init_38 : decode cX7_init 38 = .ok (.aload_n 0, 1) := by decide +kernel
theorem dX7_init_39 : decode cX7_init 39 = .ok (.bipush 40, 2) := by decide +kernel
theorem dX7_init_41 : decode cX7_init 41 = .ok (.newarray .boolean, 2) := by decide +kernel
theorem dX7_init_43 : decode cX7_init 43 = .ok (.putfield 23, 3) := by decide +kernel
theorem dX7_init_46 : decode cX7_init 46 = .ok (.aload_n 0, 1) := by decide +kernel
theorem dX7_init_47 : decode cX7_init 47 = .ok (.bipush 40, 2) := by decide +kernel
theorem dX7_init_49 : decode cX7_init 49 = .ok (.newarray .boolean, 2) := by decide +kernel
theorem dX7_init_51 : decode cX7_init 51 = .ok (.putfield 26, 3) := by decide +kernel
theorem dX7_init_54 : decode cX7_init 54 = .ok (.aload_n 0, 1) := by decide +kernel
theorem dX7_init_55 : decode cX7_init 55 = .ok (.bipush 80, 2) := by decide +kernel
theorem dX7_init_57 : decode cX7_init 57 = .ok (.newarray .int, 2) := by decide +kernel
theorem dX7_init_59 : decode cX7_init 59 = .ok (.putfield 29, 3) := by decide +kernel
theorem dX7_init_62 : decode cX7_init 62 = .ok (.aload_n 0, 1) := by decide +kernel
theorem dX7_init_63 : decode cX7_init 63 = .ok (.bipush 29, 2) := by decide +kernel
theorem dX7_init_65 : decode cX7_init 65 = .ok (.newarray .int, 2) := by decide +kernel
theorem dX7_init_67 : decode cX7_init 67 = .ok (.putfield 32, 3) := by decide +kernel
theorem dX7_init_70 : decode cX7_init 70 = .ok (.aload_n 0, 1) := by decide +kernel
theorem dX7_init_71 : decode cX7_init 71 = .ok (.bipush 116, 2) := by decide +kernel
theorem dX7_init_73 : decode cX7_init 73 = .ok (.newarray .int, 2) := by decide +kernel
theorem dX7_init_75 : decode cX7_init 75 = .ok (.putfield 35, 3) := by decide +kernel
theorem dX7_init_78 : decode cX7_init 78 = .ok (.aload_n 0, 1) := by decide +kernel
theorem dX7_init_79 : decode cX7_init 79 = .ok (.getfield 7, 3) := by decide +kernel
theorem dX7_init_82 : decode cX7_init 82 = .ok (.iconst 0, 1) := by decide +kernel
theorem dX7_init_83 : decode cX7_init 83 = .ok (.iconst 4, 1) := by decide +kernel
theorem dX7_init_84 : decode cX7_init 84 = .ok (.iastore, 1) := by decide +kernel
theorem dX7_init_85 : decode cX7_init 85 = .ok (.aload_n 0, 1) := by decide +kernel
theorem dX7_init_86 : decode cX7_init 86 = .ok (.getfield 7, 3) := by decide +kernel
theorem dX7_init_89 : decode cX7_init 89 = .ok (.iconst 1, 1) := by decide +kernel
theorem dX7_init_90 : decode cX7_init 90 = .ok (.iconst 1, 1) := by decide +kernel
theorem dX7_init_91 : decode cX7_init 91 = .ok (.iastore, 1) := by decide +kernel
theorem dX7_init_92 : decode cX7_init 92 = .ok (.aload_n 0, 1) := by decide +kernel
theorem dX7_init_93 : decode cX7_init 93 = .ok (.getfield 7, 3) := by decide +kernel
theorem dX7_init_96 : decode cX7_init 96 = .ok (.iconst 2, 1) := by decide +kernel
theorem dX7_init_97 : decode cX7_init 97 = .ok (.iconst 2, 1) := by decide +kernel
theorem dX7_init_98 : decode cX7_init 98 = .ok (.iastore, 1) := by decide +kernel
theorem dX7_init_99 : decode cX7_init 99 = .ok (.iconst 0, 1) := by decide +kernel
theorem dX7_init_100 : decode cX7_init 100 = .ok (.istore_n 1, 1) := by decide +kernel
theorem dX7_init_101 : decode cX7_init 101 = .ok (.iload_n 1, 1) := by decide +kernel
theorem dX7_init_102 : decode cX7_init 102 = .ok (.bipush 12, 2) := by decide +kernel
theorem dX7_init_104 : decode cX7_init 104 = .ok (.if_icmp .ge 19, 3) := by decide +kernel
theorem dX7_init_107 : decode cX7_init 107 = .ok (.aload_n 0, 1) := by decide +kernel
theorem dX7_init_108 : decode cX7_init 108 = .ok (.getfield 7, 3) := by decide +kernel
theorem dX7_init_111 : decode cX7_init 111 = .ok (.iconst 4, 1) := by decide +kernel
theorem dX7_init_112 : decode cX7_init 112 = .ok (.iload_n 1, 1) := by decide +kernel
theorem dX7_init_113 : decode cX7_init 113 = .ok (.iadd, 1) := by decide +kernel
theorem dX7_init_114 : decode cX7_init 114 = .ok (.bipush (-6), 2) := by decide +kernel
theorem dX7_init_116 : decode cX7_init 116 = .ok (.iastore, 1) := by decide +kernel
theorem dX7_init_117 : decode cX7_init 117 = .ok (.iinc 1 1, 3) := by decide +kernel
theorem dX7_init_120 : decode cX7_init 120 = .ok (.goto (-19), 3) := by decide +kernel
theorem dX7_init_123 : decode cX7_init 123 = .ok (.iconst 0, 1) := by decide +kernel
theorem dX7_init_124 : decode cX7_init 124 = .ok (.istore_n 1, 1) := by decide +kernel
theorem dX7_init_125 : decode cX7_init 125 = .ok (.iload_n 1, 1) := by decide +kernel
theorem dX7_init_126 : decode cX7_init 126 = .ok (.bipush 60, 2) := by decide +kernel
theorem dX7_init_128 : decode cX7_init 128 = .ok (.if_icmp .ge 20, 3) := by decide +kernel
theorem dX7_init_131 : decode cX7_init 131 = .ok (.aload_n 0, 1) := by decide +kernel
theorem dX7_init_132 : decode cX7_init 132 = .ok (.getfield 7, 3) := by decide +kernel
theorem dX7_init_135 : decode cX7_init 135 = .ok (.bipush 16, 2) := by decide +kernel
theorem dX7_init_137 : decode cX7_init 137 = .ok (.iload_n 1, 1) := by decide +kernel
theorem dX7_init_138 : decode cX7_init 138 = .ok (.iadd, 1) := by decide +kernel
theorem dX7_init_139 : decode cX7_init 139 = .ok (.bipush (-6), 2) := by decide +kernel
theorem dX7_init_141 : decode cX7_init 141 = .ok (.iastore, 1) := by decide +kernel
theorem dX7_init_142 : decode cX7_init 142 = .ok (.iinc 1 1, 3) := by decide +kernel
theorem dX7_init_145 : decode cX7_init 145 = .ok (.goto (-20), 3) := by decide +kernel
theorem dX7_init_148 : decode cX7_init 148 = .ok (.return_, 1) := by decide +kernel
theorem dX7_in_0 : decode cX7_in 0 = .ok (.iload_n 0, 1) := by decide +kernel
theorem dX7_in_1 : decode cX7_in 1 = .ok (.iload_n 1, 1) := by decide +kernel
theorem dX7_in_2 : decode cX7_in 2 = .ok (.if_icmp .lt 12, 3) := by decide +kernel
theorem dX7_in_5 : decode cX7_in 5 = .ok (.iload_n 0, 1) := by decide +kernel
theorem dX7_in_6 : decode cX7_in 6 = .ok (.iload_n 2, 1) := by decide +kernel
theorem dX7_in_7 : decode cX7_in 7 = .ok (.if_icmp .gt 7, 3) := by decide +kernel
theorem dX7_in_10 : decode cX7_in 10 = .ok (.iconst 1, 1) := by decide +kernel
theorem dX7_in_11 : decode cX7_in 11 = .ok (.goto 4, 3) := by decide +kernel
theorem dX7_in_14 : decode cX7_in 14 = .ok (.iconst 0, 1) := by decide +kernel
theorem dX7_in_15 : decode cX7_in 15 = .ok (.ireturn, 1) := by decide +kernel
set_option maxRecDepth 20000 in
theorem ggX7_isGuest_X7_in : GoodIn wsX7_isGuest wsX7_in := goodIn_r _ [4] (by decide +kernel) (by decide +kernel)
set_option maxRecDepth 20000 in
theorem gX7_isGuest_X7_in : GoodIn wsX7_isGuest (va_wsS RX7 38 yX7_in wsX7_in) := goodIn_app (goodIn_of _ (by decide +kernel)) ggX7_isGuest_X7_in
theorem dX7_isGuest_0 : decode cX7_isGuest 0 = .ok (.iload_n 0, 1) := by decide +kernel
theorem dX7_isGuest_1 : decode cX7_isGuest 1 = .ok (.iconst 0, 1) := by decide +kernel
theorem dX7_isGuest_2 : decode cX7_isGuest 2 = .ok (.iconst 5, 1) := by decide +kernel
theorem dX7_isGuest_3 : decode cX7_isGuest 3 = .ok (.invokestatic 38, 3) := by decide +kernel
theorem dX7_isGuest_6 : decode cX7_isGuest 6 = .ok (.ireturn, 1) := by decide +kernel
set_option maxRecDepth 20000 in
theorem ggX7_isPage_X7_in : GoodIn wsX7_isPage wsX7_in := goodIn_r _ [4] (by decide +kernel) (by decide +kernel)
set_option maxRecDepth 20000 in
theorem gX7_isPage_X7_in : GoodIn wsX7_isPage (va_wsS RX7 38 yX7_in wsX7_in) := goodIn_app (goodIn_of _ (by decide +kernel)) ggX7_isPage_X7_in
theorem dX7_isPage_0 : decode cX7_isPage 0 = .ok (.iload_n 0, 1) := by decide +kernel
theorem dX7_isPage_1 : decode cX7_isPage 1 = .ok (.iconst 0, 1) := by decide +kernel
theorem dX7_isPage_2 : decode cX7_isPage 2 = .ok (.bipush 11, 2) := by decide +kernel
theorem dX7_isPage_4 : decode cX7_isPage 4 = .ok (.invokestatic 38, 3) := by decide +kernel
theorem dX7_isPage_7 : decode cX7_isPage 7 = .ok (.ireturn, 1) := by decide +kernel
set_option maxRecDepth 20000 in
theorem ggX7_areRights_X7_in : GoodIn wsX7_areRights wsX7_in := goodIn_r _ [4] (by decide +kernel) (by decide +kernel)
set_option maxRecDepth 20000 in
theorem gX7_areRights_X7_in : GoodIn wsX7_areRights (va_wsS RX7 38 yX7_in wsX7_in) := goodIn_app (goodIn_of _ (by decide +kernel)) ggX7_areRights_X7_in
theorem dX7_areRights_0 : decode cX7_areRights 0 = .ok (.iload_n 0, 1) := by decide +kernel
theorem dX7_areRights_1 : decode cX7_areRights 1 = .ok (.iconst 1, 1) := by decide +kernel
theorem dX7_areRights_2 : decode cX7_areRights 2 = .ok (.bipush 7, 2) := by decide +kernel
theorem dX7_areRights_4 : decode cX7_areRights 4 = .ok (.invokestatic 38, 3) := by decide +kernel
theorem dX7_areRights_7 : decode cX7_areRights 7 = .ok (.ireturn, 1) := by decide +kernel
set_option maxRecDepth 20000 in
theorem ggX7_isStamp_X7_in : GoodIn wsX7_isStamp wsX7_in := goodIn_r _ [5] (by decide +kernel) (by decide +kernel)
set_option maxRecDepth 20000 in
theorem gX7_isStamp_X7_in : GoodIn wsX7_isStamp (va_wsS RX7 38 yX7_in wsX7_in) := goodIn_app (goodIn_of _ (by decide +kernel)) ggX7_isStamp_X7_in
theorem dX7_isStamp_0 : decode cX7_isStamp 0 = .ok (.iload_n 1, 1) := by decide +kernel
theorem dX7_isStamp_1 : decode cX7_isStamp 1 = .ok (.iconst 0, 1) := by decide +kernel
theorem dX7_isStamp_2 : decode cX7_isStamp 2 = .ok (.aload_n 0, 1) := by decide +kernel
theorem dX7_isStamp_3 : decode cX7_isStamp 3 = .ok (.getfield 7, 3) := by decide +kernel
theorem dX7_isStamp_6 : decode cX7_isStamp 6 = .ok (.bipush 76, 2) := by decide +kernel
theorem dX7_isStamp_8 : decode cX7_isStamp 8 = .ok (.iaload, 1) := by decide +kernel
theorem dX7_isStamp_9 : decode cX7_isStamp 9 = .ok (.iconst 1, 1) := by decide +kernel
theorem dX7_isStamp_10 : decode cX7_isStamp 10 = .ok (.isub, 1) := by decide +kernel
theorem dX7_isStamp_11 : decode cX7_isStamp 11 = .ok (.invokestatic 38, 3) := by decide +kernel
theorem dX7_isStamp_14 : decode cX7_isStamp 14 = .ok (.ireturn, 1) := by decide +kernel
set_option maxRecDepth 20000 in
theorem ggX7_isDoor_X7_isGuest : GoodIn wsX7_isDoor wsX7_isGuest := goodIn_r _ [4, 5, 6, 3, 7] (by decide +kernel) (by decide +kernel)
set_option maxRecDepth 20000 in
theorem gX7_isDoor_X7_isGuest : GoodIn wsX7_isDoor (va_wsS RX7 42 yX7_isGuest wsX7_isGuest) := goodIn_app (goodIn_of _ (by decide +kernel)) ggX7_isDoor_X7_isGuest
set_option maxRecDepth 20000 in
theorem ggX7_isDoor_X7_in : GoodIn wsX7_isDoor wsX7_in := goodIn_r _ [7] (by decide +kernel) (by decide +kernel)
set_option maxRecDepth 20000 in
theorem gX7_isDoor_X7_in : GoodIn wsX7_isDoor (va_wsS RX7 38 yX7_in wsX7_in) := goodIn_app (goodIn_of _ (by decide +kernel)) ggX7_isDoor_X7_in
theorem dX7_isDoor_0 : decode cX7_isDoor 0 = .ok (.iload_n 0, 1) := by decide +kernel
theorem dX7_isDoor_1 : decode cX7_isDoor 1 = .ok (.invokestatic 42, 3) := by decide +kernel
theorem dX7_isDoor_4 : decode cX7_isDoor 4 = .ok (.ifCond .eq 17, 3) := by decide +kernel
theorem dX7_isDoor_7 : decode cX7_isDoor 7 = .ok (.iload_n 1, 1) := by decide +kernel
theorem dX7_isDoor_8 : decode cX7_isDoor 8 = .ok (.iconst 0, 1) := by decide +kernel
theorem dX7_isDoor_9 : decode cX7_isDoor 9 = .ok (.bipush 9, 2) := by decide +kernel
theorem dX7_isDoor_11 : decode cX7_isDoor 11 = .ok (.invokestatic 38, 3) := by decide +kernel
theorem dX7_isDoor_14 : decode cX7_isDoor 14 = .ok (.ifCond .eq 7, 3) := by decide +kernel
theorem dX7_isDoor_17 : decode cX7_isDoor 17 = .ok (.iconst 1, 1) := by decide +kernel
theorem dX7_isDoor_18 : decode cX7_isDoor 18 = .ok (.goto 4, 3) := by decide +kernel
theorem dX7_isDoor_21 : decode cX7_isDoor 21 = .ok (.iconst 0, 1) := by decide +kernel
theorem dX7_isDoor_22 : decode cX7_isDoor 22 = .ok (.ireturn, 1) := by decide +kernel
theorem dX7_of_0 : decode cX7_of 0 = .ok (.aload_n 0, 1) := by decide +kernel
theorem dX7_of_1 : decode cX7_of 1 = .ok (.getfield 7, 3) := by decide +kernel
theorem dX7_of_4 : decode cX7_of 4 = .ok (.bipush 127, 2) := by decide +kernel
theorem dX7_of_6 : decode cX7_of 6 = .ok (.bipush 7, 2) := by decide +kernel
theorem dX7_of_8 : decode cX7_of 8 = .ok (.iload_n 1, 1) := by decide +kernel
theorem dX7_of_9 : decode cX7_of 9 = .ok (.imul, 1) := by decide +kernel
theorem dX7_of_10 : decode cX7_of 10 = .ok (.iadd, 1) := by decide +kernel
theorem dX7_of_11 : decode cX7_of 11 = .ok (.iload_n 2, 1) := by decide +kernel
theorem dX7_of_12 : decode cX7_of 12 = .ok (.iadd, 1) := by decide +kernel
theorem dX7_of_13 : decode cX7_of 13 = .ok (.iaload, 1) := by decide +kernel
theorem dX7_of_14 : decode cX7_of 14 = .ok (.ireturn, 1) := by decide +kernel
theorem dX7_leadsBy_0 : decode cX7_leadsBy 0 = .ok (.aload_n 0, 1) := by decide +kernel
theorem dX7_leadsBy_1 : decode cX7_leadsBy 1 = .ok (.getfield 7, 3) := by decide +kernel
theorem dX7_leadsBy_4 : decode cX7_leadsBy 4 = .ok (.bipush 16, 2) := by decide +kernel
theorem dX7_leadsBy_6 : decode cX7_leadsBy 6 = .ok (.bipush 10, 2) := by decide +kernel
theorem dX7_leadsBy_8 : decode cX7_leadsBy 8 = .ok (.iload_n 1, 1) := by decide +kernel
theorem dX7_leadsBy_9 : decode cX7_leadsBy 9 = .ok (.imul, 1) := by decide +kernel
theorem dX7_leadsBy_10 : decode cX7_leadsBy 10 = .ok (.iadd, 1) := by decide +kernel
theorem dX7_leadsBy_11 : decode cX7_leadsBy 11 = .ok (.iload_n 2, 1) := by decide +kernel
theorem dX7_leadsBy_12 : decode cX7_leadsBy 12 = .ok (.iadd, 1) := by decide +kernel
theorem dX7_leadsBy_13 : decode cX7_leadsBy 13 = .ok (.iaload, 1) := by decide +kernel
theorem dX7_leadsBy_14 : decode cX7_leadsBy 14 = .ok (.ireturn, 1) := by decide +kernel
theorem dX7_ofNote_0 : decode cX7_ofNote 0 = .ok (.aload_n 0, 1) := by decide +kernel
theorem dX7_ofNote_1 : decode cX7_ofNote 1 = .ok (.getfield 7, 3) := by decide +kernel
theorem dX7_ofNote_4 : decode cX7_ofNote 4 = .ok (.bipush 91, 2) := by decide +kernel
theorem dX7_ofNote_6 : decode cX7_ofNote 6 = .ok (.iconst 4, 1) := by decide +kernel
theorem dX7_ofNote_7 : decode cX7_ofNote 7 = .ok (.iload_n 1, 1) := by decide +kernel
theorem dX7_ofNote_8 : decode cX7_ofNote 8 = .ok (.imul, 1) := by decide +kernel
theorem dX7_ofNote_9 : decode cX7_ofNote 9 = .ok (.iadd, 1) := by decide +kernel
theorem dX7_ofNote_10 : decode cX7_ofNote 10 = .ok (.iload_n 2, 1) := by decide +kernel
theorem dX7_ofNote_11 : decode cX7_ofNote 11 = .ok (.iadd, 1) := by decide +kernel
theorem dX7_ofNote_12 : decode cX7_ofNote 12 = .ok (.iaload, 1) := by decide +kernel
theorem dX7_ofNote_13 : decode cX7_ofNote 13 = .ok (.ireturn, 1) := by decide +kernel
theorem dX7_keep_0 : decode cX7_keep 0 = .ok (.aload_n 0, 1) := by decide +kernel
theorem dX7_keep_1 : decode cX7_keep 1 = .ok (.getfield 46, 3) := by decide +kernel
theorem dX7_keep_4 : decode cX7_keep 4 = .ok (.bipush 6, 2) := by decide +kernel
theorem dX7_keep_6 : decode cX7_keep 6 = .ok (.if_icmp .ne 26, 3) := by decide +kernel
theorem dX7_keep_9 : decode cX7_keep 9 = .ok (.aload_n 0, 1) := by decide +kernel
theorem dX7_keep_10 : decode cX7_keep 10 = .ok (.aload_n 0, 1) := by decide +kernel
theorem dX7_keep_11 : decode cX7_keep 11 = .ok (.getfield 50, 3) := by decide +kernel
theorem dX7_keep_14 : decode cX7_keep 14 = .ok (.iconst 1, 1) := by decide +kernel
theorem dX7_keep_15 : decode cX7_keep 15 = .ok (.iadd, 1) := by decide +kernel
theorem dX7_keep_16 : decode cX7_keep 16 = .ok (.bipush 6, 2) := by decide +kernel
theorem dX7_keep_18 : decode cX7_keep 18 = .ok (.irem, 1) := by decide +kernel
theorem dX7_keep_19 : decode cX7_keep 19 = .ok (.putfield 50, 3) := by decide +kernel
theorem dX7_keep_22 : decode cX7_keep 22 = .ok (.aload_n 0, 1) := by decide +kernel
theorem dX7_keep_23 : decode cX7_keep 23 = .ok (.dup, 1) := by decide +kernel
theorem dX7_keep_24 : decode cX7_keep 24 = .ok (.getfield 46, 3) := by decide +kernel
theorem dX7_keep_27 : decode cX7_keep 27 = .ok (.iconst 1, 1) := by decide +kernel
theorem dX7_keep_28 : decode cX7_keep 28 = .ok (.isub, 1) := by decide +kernel
theorem dX7_keep_29 : decode cX7_keep 29 = .ok (.putfield 46, 3) := by decide +kernel
theorem dX7_keep_32 : decode cX7_keep 32 = .ok (.aload_n 0, 1) := by decide +kernel
theorem dX7_keep_33 : decode cX7_keep 33 = .ok (.getfield 50, 3) := by decide +kernel
theorem dX7_keep_36 : decode cX7_keep 36 = .ok (.aload_n 0, 1) := by decide +kernel
theorem dX7_keep_37 : decode cX7_keep 37 = .ok (.getfield 46, 3) := by decide +kernel
theorem dX7_keep_40 : decode cX7_keep 40 = .ok (.iadd, 1) := by decide +kernel
theorem dX7_keep_41 : decode cX7_keep 41 = .ok (.bipush 6, 2) := by decide +kernel
theorem dX7_keep_43 : decode cX7_keep 43 = .ok (.irem, 1) := by decide +kernel
theorem dX7_keep_44 : decode cX7_keep 44 = .ok (.istore_n 1, 1) := by decide +kernel
theorem dX7_keep_45 : decode cX7_keep 45 = .ok (.iconst 0, 1) := by decide +kernel
theorem dX7_keep_46 : decode cX7_keep 46 = .ok (.istore_n 2, 1) := by decide +kernel
theorem dX7_keep_47 : decode cX7_keep 47 = .ok (.iload_n 2, 1) := by decide +kernel
theorem dX7_keep_48 : decode cX7_keep 48 = .ok (.sipush 407, 3) := by decide +kernel
theorem dX7_keep_51 : decode cX7_keep 51 = .ok (.if_icmp .ge 27, 3) := by decide +kernel
theorem dX7_keep_54 : decode cX7_keep 54 = .ok (.aload_n 0, 1) := by decide +kernel
theorem dX7_keep_55 : decode cX7_keep 55 = .ok (.getfield 13, 3) := by decide +kernel
theorem dX7_keep_58 : decode cX7_keep 58 = .ok (.sipush 407, 3) := by decide +kernel
theorem dX7_keep_61 : decode cX7_keep 61 = .ok (.iload_n 1, 1) := by decide +kernel
theorem dX7_keep_62 : decode cX7_keep 62 = .ok (.imul, 1) := by decide +kernel
theorem dX7_keep_63 : decode cX7_keep 63 = .ok (.iload_n 2, 1) := by decide +kernel
theorem dX7_keep_64 : decode cX7_keep 64 = .ok (.iadd, 1) := by decide +kernel
theorem dX7_keep_65 : decode cX7_keep 65 = .ok (.aload_n 0, 1) := by decide +kernel
theorem dX7_keep_66 : decode cX7_keep 66 = .ok (.getfield 7, 3) := by decide +kernel
theorem dX7_keep_69 : decode cX7_keep 69 = .ok (.iload_n 2, 1) := by decide +kernel
theorem dX7_keep_70 : decode cX7_keep 70 = .ok (.iaload, 1) := by decide +kernel
theorem dX7_keep_71 : decode cX7_keep 71 = .ok (.iastore, 1) := by decide +kernel
theorem dX7_keep_72 : decode cX7_keep 72 = .ok (.iinc 2 1, 3) := by decide +kernel
theorem dX7_keep_75 : decode cX7_keep 75 = .ok (.goto (-28), 3) := by decide +kernel
theorem dX7_keep_78 : decode cX7_keep 78 = .ok (.aload_n 0, 1) := by decide +kernel
theorem dX7_keep_79 : decode cX7_keep 79 = .ok (.dup, 1) := by decide +kernel
theorem dX7_keep_80 : decode cX7_keep 80 = .ok (.getfield 46, 3) := by decide +kernel
theorem dX7_keep_83 : decode cX7_keep 83 = .ok (.iconst 1, 1) := by decide +kernel
theorem dX7_keep_84 : decode cX7_keep 84 = .ok (.iadd, 1) := by decide +kernel
theorem dX7_keep_85 : decode cX7_keep 85 = .ok (.putfield 46, 3) := by decide +kernel
theorem dX7_keep_88 : decode cX7_keep 88 = .ok (.return_, 1) := by decide +kernel
set_option maxRecDepth 20000 in
theorem ggX7_keepIf_X7_keep : GoodIn wsX7_keepIf wsX7_keep := goodIn_r _ [5, 6, 7, 8, 9, 10, 11, 12, 13, 14, 15, 16, 17, 18, 19, 20, 21, 22, 23, 24, 25] (by decide +kernel) (by decide +kernel)
set_option maxRecDepth 20000 in
theorem gX7_keepIf_X7_keep : GoodIn wsX7_keepIf (wsV RX7 53 RX7 yX7_keep wsX7_keep) := goodIn_app (goodIn_of _ (by decide +kernel)) ggX7_keepIf_X7_keep
theorem dX7_keepIf_0 : decode cX7_keepIf 0 = .ok (.iload_n 1, 1) := by decide +kernel
theorem dX7_keepIf_1 : decode cX7_keepIf 1 = .ok (.ifCond .eq 7, 3) := by decide +kernel
theorem dX7_keepIf_4 : decode cX7_keepIf 4 = .ok (.aload_n 0, 1) := by decide +kernel
theorem dX7_keepIf_5 : decode cX7_keepIf 5 = .ok (.invokevirtual 53, 3) := by decide +kernel
theorem dX7_keepIf_8 : decode cX7_keepIf 8 = .ok (.return_, 1) := by decide +kernel
set_option maxRecDepth 20000 in
theorem ggX7_isBased_X7_of : GoodIn wsX7_isBased wsX7_of := goodIn_r _ [6, 1, 7, 8, 9, 10, 11, 12, 13, 14, 15, 16, 17, 18, 19, 20, 21, 22] (by decide +kernel) (by decide +kernel)
set_option maxRecDepth 20000 in
theorem gX7_isBased_X7_of : GoodIn wsX7_isBased (wsV RX7 56 RX7 yX7_of wsX7_of) := goodIn_app (goodIn_of _ (by decide +kernel)) ggX7_isBased_X7_of
theorem dX7_isBased_0 : decode cX7_isBased 0 = .ok (.aload_n 0, 1) := by decide +kernel
theorem dX7_isBased_1 : decode cX7_isBased 1 = .ok (.iload_n 1, 1) := by decide +kernel
theorem dX7_isBased_2 : decode cX7_isBased 2 = .ok (.iconst 4, 1) := by decide +kernel
theorem dX7_isBased_3 : decode cX7_isBased 3 = .ok (.invokevirtual 56, 3) := by decide +kernel
theorem dX7_isBased_6 : decode cX7_isBased 6 = .ok (.istore_n 2, 1) := by decide +kernel
theorem dX7_isBased_7 : decode cX7_isBased 7 = .ok (.iload_n 2, 1) := by decide +kernel
theorem dX7_isBased_8 : decode cX7_isBased 8 = .ok (.ifCond .ge 31, 3) := by decide +kernel
theorem dX7_isBased_11 : decode cX7_isBased 11 = .ok (.aload_n 0, 1) := by decide +kernel
theorem dX7_isBased_12 : decode cX7_isBased 12 = .ok (.iload_n 1, 1) := by decide +kernel
theorem dX7_isBased_13 : decode cX7_isBased 13 = .ok (.iconst 1, 1) := by decide +kernel
theorem dX7_isBased_14 : decode cX7_isBased 14 = .ok (.invokevirtual 56, 3) := by decide +kernel
theorem dX7_isBased_17 : decode cX7_isBased 17 = .ok (.aload_n 0, 1) := by decide +kernel
theorem dX7_isBased_18 : decode cX7_isBased 18 = .ok (.getfield 7, 3) := by decide +kernel
theorem dX7_isBased_21 : decode cX7_isBased 21 = .ok (.iconst 4, 1) := by decide +kernel
theorem dX7_isBased_22 : decode cX7_isBased 22 = .ok (.aload_n 0, 1) := by decide +kernel
theorem dX7_isBased_23 : decode cX7_isBased 23 = .ok (.iload_n 1, 1) := by decide +kernel
theorem dX7_isBased_24 : decode cX7_isBased 24 = .ok (.iconst 0, 1) := by decide +kernel
theorem dX7_isBased_25 : decode cX7_isBased 25 = .ok (.invokevirtual 56, 3) := by decide +kernel
theorem dX7_isBased_28 : decode cX7_isBased 28 = .ok (.iadd, 1) := by decide +kernel
theorem dX7_isBased_29 : decode cX7_isBased 29 = .ok (.iaload, 1) := by decide +kernel
theorem dX7_isBased_30 : decode cX7_isBased 30 = .ok (.if_icmp .ne 7, 3) := by decide +kernel
theorem dX7_isBased_33 : decode cX7_isBased 33 = .ok (.iconst 1, 1) := by decide +kernel
theorem dX7_isBased_34 : decode cX7_isBased 34 = .ok (.goto 4, 3) := by decide +kernel
theorem dX7_isBased_37 : decode cX7_isBased 37 = .ok (.iconst 0, 1) := by decide +kernel
theorem dX7_isBased_38 : decode cX7_isBased 38 = .ok (.ireturn, 1) := by decide +kernel
theorem dX7_isBased_39 : decode cX7_isBased 39 = .ok (.aload_n 0, 1) := by decide +kernel
theorem dX7_isBased_40 : decode cX7_isBased 40 = .ok (.iload_n 1, 1) := by decide +kernel
theorem dX7_isBased_41 : decode cX7_isBased 41 = .ok (.iconst 3, 1) := by decide +kernel
theorem dX7_isBased_42 : decode cX7_isBased 42 = .ok (.invokevirtual 56, 3) := by decide +kernel
theorem dX7_isBased_45 : decode cX7_isBased 45 = .ok (.istore_n 3, 1) := by decide +kernel
theorem dX7_isBased_46 : decode cX7_isBased 46 = .ok (.aload_n 0, 1) := by decide +kernel
theorem dX7_isBased_47 : decode cX7_isBased 47 = .ok (.iload_n 2, 1) := by decide +kernel
theorem dX7_isBased_48 : decode cX7_isBased 48 = .ok (.iconst 0, 1) := by decide +kernel
theorem dX7_isBased_49 : decode cX7_isBased 49 = .ok (.invokevirtual 56, 3) := by decide +kernel
theorem dX7_isBased_52 : decode cX7_isBased 52 = .ok (.aload_n 0, 1) := by decide +kernel
theorem dX7_isBased_53 : decode cX7_isBased 53 = .ok (.iload_n 1, 1) := by decide +kernel
theorem dX7_isBased_54 : decode cX7_isBased 54 = .ok (.iconst 0, 1) := by decide +kernel
theorem dX7_isBased_55 : decode cX7_isBased 55 = .ok (.invokevirtual 56, 3) := by decide +kernel
theorem dX7_isBased_58 : decode cX7_isBased 58 = .ok (.if_icmp .ne 45, 3) := by decide +kernel
theorem dX7_isBased_61 : decode cX7_isBased 61 = .ok (.aload_n 0, 1) := by decide +kernel
theorem dX7_isBased_62 : decode cX7_isBased 62 = .ok (.iload_n 2, 1) := by decide +kernel
theorem dX7_isBased_63 : decode cX7_isBased 63 = .ok (.iconst 2, 1) := by decide +kernel
theorem dX7_isBased_64 : decode cX7_isBased 64 = .ok (.invokevirtual 56, 3) := by decide +kernel
theorem dX7_isBased_67 : decode cX7_isBased 67 = .ok (.aload_n 0, 1) := by decide +kernel
theorem dX7_isBased_68 : decode cX7_isBased 68 = .ok (.iload_n 1, 1) := by decide +kernel
theorem dX7_isBased_69 : decode cX7_isBased 69 = .ok (.iconst 1, 1) := by decide +kernel
theorem dX7_isBased_70 : decode cX7_isBased 70 = .ok (.invokevirtual 56, 3) := by decide +kernel
theorem dX7_isBased_73 : decode cX7_isBased 73 = .ok (.if_icmp .ne 30, 3) := by decide +kernel
theorem dX7_isBased_76 : decode cX7_isBased 76 = .ok (.aload_n 0, 1) := by decide +kernel
theorem dX7_isBased_77 : decode cX7_isBased 77 = .ok (.iload_n 2, 1) := by decide +kernel
theorem dX7_isBased_78 : decode cX7_isBased 78 = .ok (.iconst 3, 1) := by decide +kernel
theorem dX7_isBased_79 : decode cX7_isBased 79 = .ok (.invokevirtual 56, 3) := by decide +kernel
theorem dX7_isBased_82 : decode cX7_isBased 82 = .ok (.iconst 4, 1) := by decide +kernel
theorem dX7_isBased_83 : decode cX7_isBased 83 = .ok (.iand, 1) := by decide +kernel
theorem dX7_isBased_84 : decode cX7_isBased 84 = .ok (.ifCond .eq 19, 3) := by decide +kernel
theorem dX7_isBased_87 : decode cX7_isBased 87 = .ok (.aload_n 0, 1) := by decide +kernel
theorem dX7_isBased_88 : decode cX7_isBased 88 = .ok (.iload_n 2, 1) := by decide +kernel
theorem dX7_isBased_89 : decode cX7_isBased 89 = .ok (.iconst 3, 1) := by decide +kernel
theorem dX7_isBased_90 : decode cX7_isBased 90 = .ok (.invokevirtual 56, 3) := by decide +kernel
theorem dX7_isBased_93 : decode cX7_isBased 93 = .ok (.iload_n 3, 1) := by decide +kernel
theorem dX7_isBased_94 : decode cX7_isBased 94 = .ok (.iand, 1) := by decide +kernel
theorem dX7_isBased_95 : decode cX7_isBased 95 = .ok (.iload_n 3, 1) := by decide +kernel
theorem dX7_isBased_96 : decode cX7_isBased 96 = .ok (.if_icmp .ne 7, 3) := by decide +kernel
theorem dX7_isBased_99 : decode cX7_isBased 99 = .ok (.iconst 1, 1) := by decide +kernel
theorem dX7_isBased_100 : decode cX7_isBased 100 = .ok (.goto 4, 3) := by decide +kernel
theorem dX7_isBased_103 : decode cX7_isBased 103 = .ok (.iconst 0, 1) := by decide +kernel
theorem dX7_isBased_104 : decode cX7_isBased 104 = .ok (.ireturn, 1) := by decide +kernel
set_option maxRecDepth 20000 in
theorem ggX7_findGood_X7_of : GoodIn wsX7_findGood wsX7_of := goodIn_r _ [7, 1, 12, 13, 14, 15, 16, 17, 18, 19, 20, 21, 22, 23, 24, 25, 26, 27] (by decide +kernel) (by decide +kernel)
set_option maxRecDepth 20000 in
theorem gX7_findGood_X7_of : GoodIn wsX7_findGood (wsV RX7 56 RX7 yX7_of wsX7_of) := goodIn_app (goodIn_of _ (by decide +kernel)) ggX7_findGood_X7_of
set_option maxRecDepth 20000 in
theorem ggX7_findGood_X7_isBased : GoodIn wsX7_findGood wsX7_isBased := goodIn_r _ [11, 1, 3, 4, 5, 6, 7, 12, 13, 14, 15, 16, 17, 18, 19, 20, 21, 22, 23, 24, 25, 26, 27] (by decide +kernel) (by decide +kernel)
set_option maxRecDepth 20000 in
theorem gX7_findGood_X7_isBased : GoodIn wsX7_findGood (wsV RX7 60 RX7 yX7_isBased wsX7_isBased) := goodIn_app (goodIn_of _ (by decide +kernel)) ggX7_findGood_X7_isBased
theorem dX7_findGood_0 : decode cX7_findGood 0 = .ok (.iconst 0, 1) := by decide +kernel
theorem dX7_findGood_1 : decode cX7_findGood 1 = .ok (.istore_n 1, 1) := by decide +kernel
theorem dX7_findGood_2 : decode cX7_findGood 2 = .ok (.iload_n 1, 1) := by decide +kernel
theorem dX7_findGood_3 : decode cX7_findGood 3 = .ok (.aload_n 0, 1) := by decide +kernel
theorem dX7_findGood_4 : decode cX7_findGood 4 = .ok (.getfield 7, 3) := by decide +kernel
theorem dX7_findGood_7 : decode cX7_findGood 7 = .ok (.bipush 76, 2) := by decide +kernel
theorem dX7_findGood_9 : decode cX7_findGood 9 = .ok (.iaload, 1) := by decide +kernel
theorem dX7_findGood_10 : decode cX7_findGood 10 = .ok (.if_icmp .ge 67, 3) := by decide +kernel
theorem dX7_findGood_13 : decode cX7_findGood 13 = .ok (.aload_n 0, 1) := by decide +kernel
theorem dX7_findGood_14 : decode cX7_findGood 14 = .ok (.iload_n 1, 1) := by decide +kernel
theorem dX7_findGood_15 : decode cX7_findGood 15 = .ok (.iconst 4, 1) := by decide +kernel
theorem dX7_findGood_16 : decode cX7_findGood 16 = .ok (.invokevirtual 56, 3) := by decide +kernel
theorem dX7_findGood_19 : decode cX7_findGood 19 = .ok (.istore_n 2, 1) := by decide +kernel
theorem dX7_findGood_20 : decode cX7_findGood 20 = .ok (.aload_n 0, 1) := by decide +kernel
theorem dX7_findGood_21 : decode cX7_findGood 21 = .ok (.getfield 23, 3) := by decide +kernel
theorem dX7_findGood_24 : decode cX7_findGood 24 = .ok (.iload_n 1, 1) := by decide +kernel
theorem dX7_findGood_25 : decode cX7_findGood 25 = .ok (.aload_n 0, 1) := by decide +kernel
theorem dX7_findGood_26 : decode cX7_findGood 26 = .ok (.iload_n 1, 1) := by decide +kernel
theorem dX7_findGood_27 : decode cX7_findGood 27 = .ok (.iconst 5, 1) := by decide +kernel
theorem dX7_findGood_28 : decode cX7_findGood 28 = .ok (.invokevirtual 56, 3) := by decide +kernel
theorem dX7_findGood_31 : decode cX7_findGood 31 = .ok (.ifCond .ne 38, 3) := by decide +kernel
theorem dX7_findGood_34 : decode cX7_findGood 34 = .ok (.aload_n 0, 1) := by decide +kernel
theorem dX7_findGood_35 : decode cX7_findGood 35 = .ok (.iload_n 1, 1) := by decide +kernel
theorem dX7_findGood_36 : decode cX7_findGood 36 = .ok (.bipush 6, 2) := by decide +kernel
theorem dX7_findGood_38 : decode cX7_findGood 38 = .ok (.invokevirtual 56, 3) := by decide +kernel
theorem dX7_findGood_41 : decode cX7_findGood 41 = .ok (.ifCond .ne 28, 3) := by decide +kernel
theorem dX7_findGood_44 : decode cX7_findGood 44 = .ok (.aload_n 0, 1) := by decide +kernel
theorem dX7_findGood_45 : decode cX7_findGood 45 = .ok (.iload_n 1, 1) := by decide +kernel
theorem dX7_findGood_46 : decode cX7_findGood 46 = .ok (.invokevirtual 60, 3) := by decide +kernel
theorem dX7_findGood_49 : decode cX7_findGood 49 = .ok (.ifCond .eq 20, 3) := by decide +kernel
theorem dX7_findGood_52 : decode cX7_findGood 52 = .ok (.iload_n 2, 1) := by decide +kernel
theorem dX7_findGood_53 : decode cX7_findGood 53 = .ok (.ifCond .lt 12, 3) := by decide +kernel
theorem dX7_findGood_56 : decode cX7_findGood 56 = .ok (.aload_n 0, 1) := by decide +kernel
theorem dX7_findGood_57 : decode cX7_findGood 57 = .ok (.getfield 23, 3) := by decide +kernel
theorem dX7_findGood_60 : decode cX7_findGood 60 = .ok (.iload_n 2, 1) := by decide +kernel
theorem dX7_findGood_61 : decode cX7_findGood 61 = .ok (.baload, 1) := by decide +kernel
theorem dX7_findGood_62 : decode cX7_findGood 62 = .ok (.ifCond .eq 7, 3) := by decide +kernel
theorem dX7_findGood_65 : decode cX7_findGood 65 = .ok (.iconst 1, 1) := by decide +kernel
theorem dX7_findGood_66 : decode cX7_findGood 66 = .ok (.goto 4, 3) := by decide +kernel
theorem dX7_findGood_69 : decode cX7_findGood 69 = .ok (.iconst 0, 1) := by decide +kernel
theorem dX7_findGood_70 : decode cX7_findGood 70 = .ok (.bastore, 1) := by decide +kernel
theorem dX7_findGood_71 : decode cX7_findGood 71 = .ok (.iinc 1 1, 3) := by decide +kernel
theorem dX7_findGood_74 : decode cX7_findGood 74 = .ok (.goto (-72), 3) := by decide +kernel
theorem dX7_findGood_77 : decode cX7_findGood 77 = .ok (.return_, 1) := by decide +kernel
set_option maxRecDepth 20000 in
theorem ggX7_reasonAt_X7_of : GoodIn wsX7_reasonAt wsX7_of := goodIn_r _ [5, 6, 11, 12, 13, 14, 15, 16, 17, 18, 19, 20, 21, 22, 23, 24, 25, 26] (by decide +kernel) (by decide +kernel)
set_option maxRecDepth 20000 in
theorem gX7_reasonAt_X7_of : GoodIn wsX7_reasonAt (wsV RX7 56 RX7 yX7_of wsX7_of) := goodIn_app (goodIn_of _ (by decide +kernel)) ggX7_reasonAt_X7_of
set_option maxRecDepth 20000 in
theorem ggX7_reasonAt_X7_isBased : GoodIn wsX7_reasonAt wsX7_isBased := goodIn_r _ [10, 6, 1, 2, 3, 4, 5, 11, 12, 13, 14, 15, 16, 17, 18, 19, 20, 21, 22, 23, 24, 25, 26] (by decide +kernel) (by decide +kernel)
set_option maxRecDepth 20000 in
theorem gX7_reasonAt_X7_isBased : GoodIn wsX7_reasonAt (wsV RX7 60 RX7 yX7_isBased wsX7_isBased) := goodIn_app (goodIn_of _ (by decide +kernel)) ggX7_reasonAt_X7_isBased
theorem dX7_reasonAt_0 : decode cX7_reasonAt 0 = .ok (.iload_n 2, 1) := by decide +kernel
theorem dX7_reasonAt_1 : decode cX7_reasonAt 1 = .ok (.ifCond .eq 15, 3) := by decide +kernel
theorem dX7_reasonAt_4 : decode cX7_reasonAt 4 = .ok (.aload_n 0, 1) := by decide +kernel
theorem dX7_reasonAt_5 : decode cX7_reasonAt 5 = .ok (.iload_n 1, 1) := by decide +kernel
theorem dX7_reasonAt_6 : decode cX7_reasonAt 6 = .ok (.iconst 2, 1) := by decide +kernel
theorem dX7_reasonAt_7 : decode cX7_reasonAt 7 = .ok (.invokevirtual 56, 3) := by decide +kernel
theorem dX7_reasonAt_10 : decode cX7_reasonAt 10 = .ok (.iload_n 3, 1) := by decide +kernel
theorem dX7_reasonAt_11 : decode cX7_reasonAt 11 = .ok (.if_icmp .eq 5, 3) := by decide +kernel
theorem dX7_reasonAt_14 : decode cX7_reasonAt 14 = .ok (.iconst 2, 1) := by decide +kernel
theorem dX7_reasonAt_15 : decode cX7_reasonAt 15 = .ok (.ireturn, 1) := by decide +kernel
theorem dX7_reasonAt_16 : decode cX7_reasonAt 16 = .ok (.aload_n 0, 1) := by decide +kernel
theorem dX7_reasonAt_17 : decode cX7_reasonAt 17 = .ok (.iload_n 1, 1) := by decide +kernel
theorem dX7_reasonAt_18 : decode cX7_reasonAt 18 = .ok (.iconst 5, 1) := by decide +kernel
theorem dX7_reasonAt_19 : decode cX7_reasonAt 19 = .ok (.invokevirtual 56, 3) := by decide +kernel
theorem dX7_reasonAt_22 : decode cX7_reasonAt 22 = .ok (.iconst 1, 1) := by decide +kernel
theorem dX7_reasonAt_23 : decode cX7_reasonAt 23 = .ok (.if_icmp .ne 5, 3) := by decide +kernel
theorem dX7_reasonAt_26 : decode cX7_reasonAt 26 = .ok (.iconst 3, 1) := by decide +kernel
theorem dX7_reasonAt_27 : decode cX7_reasonAt 27 = .ok (.ireturn, 1) := by decide +kernel
theorem dX7_reasonAt_28 : decode cX7_reasonAt 28 = .ok (.aload_n 0, 1) := by decide +kernel
theorem dX7_reasonAt_29 : decode cX7_reasonAt 29 = .ok (.iload_n 1, 1) := by decide +kernel
theorem dX7_reasonAt_30 : decode cX7_reasonAt 30 = .ok (.bipush 6, 2) := by decide +kernel
theorem dX7_reasonAt_32 : decode cX7_reasonAt 32 = .ok (.invokevirtual 56, 3) := by decide +kernel
theorem dX7_reasonAt_35 : decode cX7_reasonAt 35 = .ok (.iconst 1, 1) := by decide +kernel
theorem dX7_reasonAt_36 : decode cX7_reasonAt 36 = .ok (.if_icmp .ne 5, 3) := by decide +kernel
theorem dX7_reasonAt_39 : decode cX7_reasonAt 39 = .ok (.iconst 4, 1) := by decide +kernel
theorem dX7_reasonAt_40 : decode cX7_reasonAt 40 = .ok (.ireturn, 1) := by decide +kernel
theorem dX7_reasonAt_41 : decode cX7_reasonAt 41 = .ok (.iload_n 2, 1) := by decide +kernel
theorem dX7_reasonAt_42 : decode cX7_reasonAt 42 = .ok (.ifCond .eq 17, 3) := by decide +kernel
theorem dX7_reasonAt_45 : decode cX7_reasonAt 45 = .ok (.aload_n 0, 1) := by decide +kernel
theorem dX7_reasonAt_46 : decode cX7_reasonAt 46 = .ok (.iload_n 1, 1) := by decide +kernel
theorem dX7_reasonAt_47 : decode cX7_reasonAt 47 = .ok (.iconst 3, 1) := by decide +kernel
theorem dX7_reasonAt_48 : decode cX7_reasonAt 48 = .ok (.invokevirtual 56, 3) := by decide +kernel
theorem dX7_reasonAt_51 : decode cX7_reasonAt 51 = .ok (.iload 4, 2) := by decide +kernel
theorem dX7_reasonAt_53 : decode cX7_reasonAt 53 = .ok (.iand, 1) := by decide +kernel
theorem dX7_reasonAt_54 : decode cX7_reasonAt 54 = .ok (.ifCond .ne 5, 3) := by decide +kernel
theorem dX7_reasonAt_57 : decode cX7_reasonAt 57 = .ok (.iconst 5, 1) := by decide +kernel
theorem dX7_reasonAt_58 : decode cX7_reasonAt 58 = .ok (.ireturn, 1) := by decide +kernel
theorem dX7_reasonAt_59 : decode cX7_reasonAt 59 = .ok (.aload_n 0, 1) := by decide +kernel
theorem dX7_reasonAt_60 : decode cX7_reasonAt 60 = .ok (.iload_n 1, 1) := by decide +kernel
theorem dX7_reasonAt_61 : decode cX7_reasonAt 61 = .ok (.invokevirtual 60, 3) := by decide +kernel
theorem dX7_reasonAt_64 : decode cX7_reasonAt 64 = .ok (.ifCond .eq 7, 3) := by decide +kernel
theorem dX7_reasonAt_67 : decode cX7_reasonAt 67 = .ok (.iconst 0, 1) := by decide +kernel
theorem dX7_reasonAt_68 : decode cX7_reasonAt 68 = .ok (.goto 5, 3) := by decide +kernel
theorem dX7_reasonAt_71 : decode cX7_reasonAt 71 = .ok (.bipush 6, 2) := by decide +kernel
theorem dX7_reasonAt_73 : decode cX7_reasonAt 73 = .ok (.ireturn, 1) := by decide +kernel
set_option maxRecDepth 20000 in
theorem ggX7_reasonOf_X7_leadsBy : GoodIn wsX7_reasonOf wsX7_leadsBy := goodIn_r _ [6, 7, 20, 21, 22, 23, 24, 25, 26, 27, 28, 29, 30, 31, 32, 33, 34, 35] (by decide +kernel) (by decide +kernel)
set_option maxRecDepth 20000 in
theorem gX7_reasonOf_X7_leadsBy : GoodIn wsX7_reasonOf (wsV RX7 63 RX7 yX7_leadsBy wsX7_leadsBy) := goodIn_app (goodIn_of _ (by decide +kernel)) ggX7_reasonOf_X7_leadsBy
set_option maxRecDepth 20000 in
theorem ggX7_reasonOf_X7_reasonAt : GoodIn wsX7_reasonOf wsX7_reasonAt := goodIn_r _ [11, 12, 13, 14, 5, 15, 7, 16, 17, 18, 19, 20, 21, 22, 23, 24, 25, 26, 27, 28, 29, 30, 31, 32, 33, 34, 35] (by decide +kernel) (by decide +kernel)
set_option maxRecDepth 20000 in
theorem gX7_reasonOf_X7_reasonAt : GoodIn wsX7_reasonOf (wsV RX7 69 RX7 yX7_reasonAt wsX7_reasonAt) := goodIn_app (goodIn_of _ (by decide +kernel)) ggX7_reasonOf_X7_reasonAt
set_option maxRecDepth 20000 in
theorem ggX7_reasonOf_X7_of : GoodIn wsX7_reasonOf wsX7_of := goodIn_r _ [15, 7, 20, 21, 22, 23, 24, 25, 26, 27, 28, 29, 30, 31, 32, 33, 34, 35] (by decide +kernel) (by decide +kernel)
set_option maxRecDepth 20000 in
theorem gX7_reasonOf_X7_of : GoodIn wsX7_reasonOf (wsV RX7 56 RX7 yX7_of wsX7_of) := goodIn_app (goodIn_of _ (by decide +kernel)) ggX7_reasonOf_X7_of
theorem dX7_reasonOf_0 : decode cX7_reasonOf 0 = .ok (.aload_n 0, 1) := by decide +kernel
theorem dX7_reasonOf_1 : decode cX7_reasonOf 1 = .ok (.iload_n 1, 1) := by decide +kernel
theorem dX7_reasonOf_2 : decode cX7_reasonOf 2 = .ok (.iload_n 2, 1) := by decide +kernel
theorem dX7_reasonOf_3 : decode cX7_reasonOf 3 = .ok (.invokevirtual 63, 3) := by decide +kernel
theorem dX7_reasonOf_6 : decode cX7_reasonOf 6 = .ok (.istore 4, 2) := by decide +kernel
theorem dX7_reasonOf_8 : decode cX7_reasonOf 8 = .ok (.iload 4, 2) := by decide +kernel
theorem dX7_reasonOf_10 : decode cX7_reasonOf 10 = .ok (.istore 5, 2) := by decide +kernel
theorem dX7_reasonOf_12 : decode cX7_reasonOf 12 = .ok (.iload 4, 2) := by decide +kernel
theorem dX7_reasonOf_14 : decode cX7_reasonOf 14 = .ok (.ifCond .ge 7, 3) := by decide +kernel
theorem dX7_reasonOf_17 : decode cX7_reasonOf 17 = .ok (.iconst 1, 1) := by decide +kernel
theorem dX7_reasonOf_18 : decode cX7_reasonOf 18 = .ok (.goto 4, 3) := by decide +kernel
theorem dX7_reasonOf_21 : decode cX7_reasonOf 21 = .ok (.iconst 0, 1) := by decide +kernel
theorem dX7_reasonOf_22 : decode cX7_reasonOf 22 = .ok (.istore 6, 2) := by decide +kernel
theorem dX7_reasonOf_24 : decode cX7_reasonOf 24 = .ok (.aload_n 0, 1) := by decide +kernel
theorem dX7_reasonOf_25 : decode cX7_reasonOf 25 = .ok (.iconst 0, 1) := by decide +kernel
theorem dX7_reasonOf_26 : decode cX7_reasonOf 26 = .ok (.putfield 66, 3) := by decide +kernel
theorem dX7_reasonOf_29 : decode cX7_reasonOf 29 = .ok (.iload 5, 2) := by decide +kernel
theorem dX7_reasonOf_31 : decode cX7_reasonOf 31 = .ok (.ifCond .lt 52, 3) := by decide +kernel
theorem dX7_reasonOf_34 : decode cX7_reasonOf 34 = .ok (.iload 6, 2) := by decide +kernel
theorem dX7_reasonOf_36 : decode cX7_reasonOf 36 = .ok (.ifCond .ne 47, 3) := by decide +kernel
theorem dX7_reasonOf_39 : decode cX7_reasonOf 39 = .ok (.aload_n 0, 1) := by decide +kernel
theorem dX7_reasonOf_40 : decode cX7_reasonOf 40 = .ok (.dup, 1) := by decide +kernel
theorem dX7_reasonOf_41 : decode cX7_reasonOf 41 = .ok (.getfield 66, 3) := by decide +kernel
theorem dX7_reasonOf_44 : decode cX7_reasonOf 44 = .ok (.iconst 1, 1) := by decide +kernel
theorem dX7_reasonOf_45 : decode cX7_reasonOf 45 = .ok (.iadd, 1) := by decide +kernel
theorem dX7_reasonOf_46 : decode cX7_reasonOf 46 = .ok (.putfield 66, 3) := by decide +kernel
theorem dX7_reasonOf_49 : decode cX7_reasonOf 49 = .ok (.aload_n 0, 1) := by decide +kernel
theorem dX7_reasonOf_50 : decode cX7_reasonOf 50 = .ok (.iload 5, 2) := by decide +kernel
theorem dX7_reasonOf_52 : decode cX7_reasonOf 52 = .ok (.iload 5, 2) := by decide +kernel
theorem dX7_reasonOf_54 : decode cX7_reasonOf 54 = .ok (.iload 4, 2) := by decide +kernel
theorem dX7_reasonOf_56 : decode cX7_reasonOf 56 = .ok (.if_icmp .ne 7, 3) := by decide +kernel
theorem dX7_reasonOf_59 : decode cX7_reasonOf 59 = .ok (.iconst 1, 1) := by decide +kernel
theorem dX7_reasonOf_60 : decode cX7_reasonOf 60 = .ok (.goto 4, 3) := by decide +kernel
theorem dX7_reasonOf_63 : decode cX7_reasonOf 63 = .ok (.iconst 0, 1) := by decide +kernel
theorem dX7_reasonOf_64 : decode cX7_reasonOf 64 = .ok (.iload_n 1, 1) := by decide +kernel
theorem dX7_reasonOf_65 : decode cX7_reasonOf 65 = .ok (.iload_n 3, 1) := by decide +kernel
theorem dX7_reasonOf_66 : decode cX7_reasonOf 66 = .ok (.invokevirtual 69, 3) := by decide +kernel
theorem dX7_reasonOf_69 : decode cX7_reasonOf 69 = .ok (.istore 6, 2) := by decide +kernel
theorem dX7_reasonOf_71 : decode cX7_reasonOf 71 = .ok (.aload_n 0, 1) := by decide +kernel
theorem dX7_reasonOf_72 : decode cX7_reasonOf 72 = .ok (.iload 5, 2) := by decide +kernel
theorem dX7_reasonOf_74 : decode cX7_reasonOf 74 = .ok (.iconst 4, 1) := by decide +kernel
theorem dX7_reasonOf_75 : decode cX7_reasonOf 75 = .ok (.invokevirtual 56, 3) := by decide +kernel
theorem dX7_reasonOf_78 : decode cX7_reasonOf 78 = .ok (.istore 5, 2) := by decide +kernel
theorem dX7_reasonOf_80 : decode cX7_reasonOf 80 = .ok (.goto (-51), 3) := by decide +kernel
theorem dX7_reasonOf_83 : decode cX7_reasonOf 83 = .ok (.iload 6, 2) := by decide +kernel
theorem dX7_reasonOf_85 : decode cX7_reasonOf 85 = .ok (.ireturn, 1) := by decide +kernel
theorem dX7_takeNote_0 : decode cX7_takeNote 0 = .ok (.aload_n 0, 1) := by decide +kernel
theorem dX7_takeNote_1 : decode cX7_takeNote 1 = .ok (.getfield 7, 3) := by decide +kernel
theorem dX7_takeNote_4 : decode cX7_takeNote 4 = .ok (.bipush 90, 2) := by decide +kernel
theorem dX7_takeNote_6 : decode cX7_takeNote 6 = .ok (.dup2, 1) := by decide +kernel
theorem dX7_takeNote_7 : decode cX7_takeNote 7 = .ok (.iaload, 1) := by decide +kernel
theorem dX7_takeNote_8 : decode cX7_takeNote 8 = .ok (.iconst 1, 1) := by decide +kernel
theorem dX7_takeNote_9 : decode cX7_takeNote 9 = .ok (.isub, 1) := by decide +kernel
theorem dX7_takeNote_10 : decode cX7_takeNote 10 = .ok (.iastore, 1) := by decide +kernel
theorem dX7_takeNote_11 : decode cX7_takeNote 11 = .ok (.bipush 91, 2) := by decide +kernel
theorem dX7_takeNote_13 : decode cX7_takeNote 13 = .ok (.iconst 4, 1) := by decide +kernel
theorem dX7_takeNote_14 : decode cX7_takeNote 14 = .ok (.iload_n 1, 1) := by decide +kernel
theorem dX7_takeNote_15 : decode cX7_takeNote 15 = .ok (.imul, 1) := by decide +kernel
theorem dX7_takeNote_16 : decode cX7_takeNote 16 = .ok (.iadd, 1) := by decide +kernel
theorem dX7_takeNote_17 : decode cX7_takeNote 17 = .ok (.istore_n 2, 1) := by decide +kernel
theorem dX7_takeNote_18 : decode cX7_takeNote 18 = .ok (.iload_n 2, 1) := by decide +kernel
theorem dX7_takeNote_19 : decode cX7_takeNote 19 = .ok (.bipush 91, 2) := by decide +kernel
theorem dX7_takeNote_21 : decode cX7_takeNote 21 = .ok (.iconst 4, 1) := by decide +kernel
theorem dX7_takeNote_22 : decode cX7_takeNote 22 = .ok (.aload_n 0, 1) := by decide +kernel
theorem dX7_takeNote_23 : decode cX7_takeNote 23 = .ok (.getfield 7, 3) := by decide +kernel
theorem dX7_takeNote_26 : decode cX7_takeNote 26 = .ok (.bipush 90, 2) := by decide +kernel
theorem dX7_takeNote_28 : decode cX7_takeNote 28 = .ok (.iaload, 1) := by decide +kernel
theorem dX7_takeNote_29 : decode cX7_takeNote 29 = .ok (.imul, 1) := by decide +kernel
theorem dX7_takeNote_30 : decode cX7_takeNote 30 = .ok (.iadd, 1) := by decide +kernel
theorem dX7_takeNote_31 : decode cX7_takeNote 31 = .ok (.if_icmp .ge 23, 3) := by decide +kernel
theorem dX7_takeNote_34 : decode cX7_takeNote 34 = .ok (.aload_n 0, 1) := by decide +kernel
theorem dX7_takeNote_35 : decode cX7_takeNote 35 = .ok (.getfield 7, 3) := by decide +kernel
theorem dX7_takeNote_38 : decode cX7_takeNote 38 = .ok (.iload_n 2, 1) := by decide +kernel
theorem dX7_takeNote_39 : decode cX7_takeNote 39 = .ok (.aload_n 0, 1) := by decide +kernel
theorem dX7_takeNote_40 : decode cX7_takeNote 40 = .ok (.getfield 7, 3) := by decide +kernel
theorem dX7_takeNote_43 : decode cX7_takeNote 43 = .ok (.iload_n 2, 1) := by decide +kernel
theorem dX7_takeNote_44 : decode cX7_takeNote 44 = .ok (.iconst 4, 1) := by decide +kernel
theorem dX7_takeNote_45 : decode cX7_takeNote 45 = .ok (.iadd, 1) := by decide +kernel
theorem dX7_takeNote_46 : decode cX7_takeNote 46 = .ok (.iaload, 1) := by decide +kernel
theorem dX7_takeNote_47 : decode cX7_takeNote 47 = .ok (.iastore, 1) := by decide +kernel
theorem dX7_takeNote_48 : decode cX7_takeNote 48 = .ok (.iinc 2 1, 3) := by decide +kernel
theorem dX7_takeNote_51 : decode cX7_takeNote 51 = .ok (.goto (-33), 3) := by decide +kernel
theorem dX7_takeNote_54 : decode cX7_takeNote 54 = .ok (.return_, 1) := by decide +kernel
theorem dX7_putNote_0 : decode cX7_putNote 0 = .ok (.bipush 91, 2) := by decide +kernel
theorem dX7_putNote_2 : decode cX7_putNote 2 = .ok (.iconst 4, 1) := by decide +kernel
theorem dX7_putNote_3 : decode cX7_putNote 3 = .ok (.aload_n 0, 1) := by decide +kernel
theorem dX7_putNote_4 : decode cX7_putNote 4 = .ok (.getfield 7, 3) := by decide +kernel
theorem dX7_putNote_7 : decode cX7_putNote 7 = .ok (.bipush 90, 2) := by decide +kernel
theorem dX7_putNote_9 : decode cX7_putNote 9 = .ok (.iaload, 1) := by decide +kernel
theorem dX7_putNote_10 : decode cX7_putNote 10 = .ok (.imul, 1) := by decide +kernel
theorem dX7_putNote_11 : decode cX7_putNote 11 = .ok (.iadd, 1) := by decide +kernel
theorem dX7_putNote_12 : decode cX7_putNote 12 = .ok (.istore 5, 2) := by decide +kernel
theorem dX7_putNote_14 : decode cX7_putNote 14 = .ok (.aload_n 0, 1) := by decide +kernel
theorem dX7_putNote_15 : decode cX7_putNote 15 = .ok (.getfield 7, 3) := by decide +kernel
theorem dX7_putNote_18 : decode cX7_putNote 18 = .ok (.iload 5, 2) := by decide +kernel
theorem dX7_putNote_20 : decode cX7_putNote 20 = .ok (.iload_n 1, 1) := by decide +kernel
theorem dX7_putNote_21 : decode cX7_putNote 21 = .ok (.iastore, 1) := by decide +kernel
theorem dX7_putNote_22 : decode cX7_putNote 22 = .ok (.aload_n 0, 1) := by decide +kernel
theorem dX7_putNote_23 : decode cX7_putNote 23 = .ok (.getfield 7, 3) := by decide +kernel
theorem dX7_putNote_26 : decode cX7_putNote 26 = .ok (.iload 5, 2) := by decide +kernel
theorem dX7_putNote_28 : decode cX7_putNote 28 = .ok (.iconst 1, 1) := by decide +kernel
theorem dX7_putNote_29 : decode cX7_putNote 29 = .ok (.iadd, 1) := by decide +kernel
theorem dX7_putNote_30 : decode cX7_putNote 30 = .ok (.iload_n 2, 1) := by decide +kernel
theorem dX7_putNote_31 : decode cX7_putNote 31 = .ok (.iastore, 1) := by decide +kernel
theorem dX7_putNote_32 : decode cX7_putNote 32 = .ok (.aload_n 0, 1) := by decide +kernel
theorem dX7_putNote_33 : decode cX7_putNote 33 = .ok (.getfield 7, 3) := by decide +kernel
theorem dX7_putNote_36 : decode cX7_putNote 36 = .ok (.iload 5, 2) := by decide +kernel
theorem dX7_putNote_38 : decode cX7_putNote 38 = .ok (.iconst 2, 1) := by decide +kernel
theorem dX7_putNote_39 : decode cX7_putNote 39 = .ok (.iadd, 1) := by decide +kernel
theorem dX7_putNote_40 : decode cX7_putNote 40 = .ok (.iload_n 3, 1) := by decide +kernel
theorem dX7_putNote_41 : decode cX7_putNote 41 = .ok (.iastore, 1) := by decide +kernel
theorem dX7_putNote_42 : decode cX7_putNote 42 = .ok (.aload_n 0, 1) := by decide +kernel
theorem dX7_putNote_43 : decode cX7_putNote 43 = .ok (.getfield 7, 3) := by decide +kernel
theorem dX7_putNote_46 : decode cX7_putNote 46 = .ok (.iload 5, 2) := by decide +kernel
theorem dX7_putNote_48 : decode cX7_putNote 48 = .ok (.iconst 3, 1) := by decide +kernel
theorem dX7_putNote_49 : decode cX7_putNote 49 = .ok (.iadd, 1) := by decide +kernel
theorem dX7_putNote_50 : decode cX7_putNote 50 = .ok (.iload 4, 2) := by decide +kernel
theorem dX7_putNote_52 : decode cX7_putNote 52 = .ok (.iastore, 1) := by decide +kernel
theorem dX7_putNote_53 : decode cX7_putNote 53 = .ok (.aload_n 0, 1) := by decide +kernel
theorem dX7_putNote_54 : decode cX7_putNote 54 = .ok (.getfield 7, 3) := by decide +kernel
theorem dX7_putNote_57 : decode cX7_putNote 57 = .ok (.bipush 90, 2) := by decide +kernel
theorem dX7_putNote_59 : decode cX7_putNote 59 = .ok (.dup2, 1) := by decide +kernel
theorem dX7_putNote_60 : decode cX7_putNote 60 = .ok (.iaload, 1) := by decide +kernel
theorem dX7_putNote_61 : decode cX7_putNote 61 = .ok (.iconst 1, 1) := by decide +kernel
theorem dX7_putNote_62 : decode cX7_putNote 62 = .ok (.iadd, 1) := by decide +kernel
theorem dX7_putNote_63 : decode cX7_putNote 63 = .ok (.iastore, 1) := by decide +kernel
theorem dX7_putNote_64 : decode cX7_putNote 64 = .ok (.return_, 1) := by decide +kernel
set_option maxRecDepth 20000 in
theorem ggX7_findNote_X7_ofNote : GoodIn wsX7_findNote wsX7_ofNote := goodIn_r _ [6, 1, 7, 8, 9, 10, 11, 12, 13, 14, 15, 16, 17, 18, 19, 20, 21, 22] (by decide +kernel) (by decide +kernel)
set_option maxRecDepth 20000 in
theorem gX7_findNote_X7_ofNote : GoodIn wsX7_findNote (wsV RX7 73 RX7 yX7_ofNote wsX7_ofNote) := goodIn_app (goodIn_of _ (by decide +kernel)) ggX7_findNote_X7_ofNote
theorem dX7_findNote_0 : decode cX7_findNote 0 = .ok (.iconst 0, 1) := by decide +kernel
theorem dX7_findNote_1 : decode cX7_findNote 1 = .ok (.istore 4, 2) := by decide +kernel
theorem dX7_findNote_3 : decode cX7_findNote 3 = .ok (.iload 4, 2) := by decide +kernel
theorem dX7_findNote_5 : decode cX7_findNote 5 = .ok (.aload_n 0, 1) := by decide +kernel
theorem dX7_findNote_6 : decode cX7_findNote 6 = .ok (.getfield 7, 3) := by decide +kernel
theorem dX7_findNote_9 : decode cX7_findNote 9 = .ok (.bipush 90, 2) := by decide +kernel
theorem dX7_findNote_11 : decode cX7_findNote 11 = .ok (.iaload, 1) := by decide +kernel
theorem dX7_findNote_12 : decode cX7_findNote 12 = .ok (.if_icmp .ge 45, 3) := by decide +kernel
theorem dX7_findNote_15 : decode cX7_findNote 15 = .ok (.aload_n 0, 1) := by decide +kernel
theorem dX7_findNote_16 : decode cX7_findNote 16 = .ok (.iload 4, 2) := by decide +kernel
theorem dX7_findNote_18 : decode cX7_findNote 18 = .ok (.iconst 0, 1) := by decide +kernel
theorem dX7_findNote_19 : decode cX7_findNote 19 = .ok (.invokevirtual 73, 3) := by decide +kernel
theorem dX7_findNote_22 : decode cX7_findNote 22 = .ok (.iload_n 1, 1) := by decide +kernel
theorem dX7_findNote_23 : decode cX7_findNote 23 = .ok (.if_icmp .ne 28, 3) := by decide +kernel
theorem dX7_findNote_26 : decode cX7_findNote 26 = .ok (.aload_n 0, 1) := by decide +kernel
theorem dX7_findNote_27 : decode cX7_findNote 27 = .ok (.iload 4, 2) := by decide +kernel
theorem dX7_findNote_29 : decode cX7_findNote 29 = .ok (.iconst 1, 1) := by decide +kernel
theorem dX7_findNote_30 : decode cX7_findNote 30 = .ok (.invokevirtual 73, 3) := by decide +kernel
theorem dX7_findNote_33 : decode cX7_findNote 33 = .ok (.iload_n 2, 1) := by decide +kernel
theorem dX7_findNote_34 : decode cX7_findNote 34 = .ok (.if_icmp .ne 17, 3) := by decide +kernel
theorem dX7_findNote_37 : decode cX7_findNote 37 = .ok (.aload_n 0, 1) := by decide +kernel
theorem dX7_findNote_38 : decode cX7_findNote 38 = .ok (.iload 4, 2) := by decide +kernel
theorem dX7_findNote_40 : decode cX7_findNote 40 = .ok (.iconst 2, 1) := by decide +kernel
theorem dX7_findNote_41 : decode cX7_findNote 41 = .ok (.invokevirtual 73, 3) := by decide +kernel
theorem dX7_findNote_44 : decode cX7_findNote 44 = .ok (.iload_n 3, 1) := by decide +kernel
theorem dX7_findNote_45 : decode cX7_findNote 45 = .ok (.if_icmp .ne 6, 3) := by decide +kernel
theorem dX7_findNote_48 : decode cX7_findNote 48 = .ok (.iload 4, 2) := by decide +kernel
theorem dX7_findNote_50 : decode cX7_findNote 50 = .ok (.ireturn, 1) := by decide +kernel
theorem dX7_findNote_51 : decode cX7_findNote 51 = .ok (.iinc 4 1, 3) := by decide +kernel
theorem dX7_findNote_54 : decode cX7_findNote 54 = .ok (.goto (-51), 3) := by decide +kernel
theorem dX7_findNote_57 : decode cX7_findNote 57 = .ok (.bipush (-6), 2) := by decide +kernel
theorem dX7_findNote_59 : decode cX7_findNote 59 = .ok (.ireturn, 1) := by decide +kernel
set_option maxRecDepth 20000 in
theorem ggX7_dropOver_X7_takeNote : GoodIn wsX7_dropOver wsX7_takeNote := goodIn_r _ [6, 1, 7, 8, 9, 10, 11, 12, 13, 14, 15, 16, 17, 18, 19, 20, 21, 22] (by decide +kernel) (by decide +kernel)
set_option maxRecDepth 20000 in
theorem gX7_dropOver_X7_takeNote : GoodIn wsX7_dropOver (wsV RX7 76 RX7 yX7_takeNote wsX7_takeNote) := goodIn_app (goodIn_of _ (by decide +kernel)) ggX7_dropOver_X7_takeNote
theorem dX7_dropOver_0 : decode cX7_dropOver 0 = .ok (.aload_n 0, 1) := by decide +kernel
theorem dX7_dropOver_1 : decode cX7_dropOver 1 = .ok (.getfield 7, 3) := by decide +kernel
theorem dX7_dropOver_4 : decode cX7_dropOver 4 = .ok (.bipush 90, 2) := by decide +kernel
theorem dX7_dropOver_6 : decode cX7_dropOver 6 = .ok (.iaload, 1) := by decide +kernel
theorem dX7_dropOver_7 : decode cX7_dropOver 7 = .ok (.aload_n 0, 1) := by decide +kernel
theorem dX7_dropOver_8 : decode cX7_dropOver 8 = .ok (.getfield 7, 3) := by decide +kernel
theorem dX7_dropOver_11 : decode cX7_dropOver 11 = .ok (.iconst 0, 1) := by decide +kernel
theorem dX7_dropOver_12 : decode cX7_dropOver 12 = .ok (.iaload, 1) := by decide +kernel
theorem dX7_dropOver_13 : decode cX7_dropOver 13 = .ok (.if_icmp .le 22, 3) := by decide +kernel
theorem dX7_dropOver_16 : decode cX7_dropOver 16 = .ok (.aload_n 0, 1) := by decide +kernel
theorem dX7_dropOver_17 : decode cX7_dropOver 17 = .ok (.iconst 0, 1) := by decide +kernel
theorem dX7_dropOver_18 : decode cX7_dropOver 18 = .ok (.invokevirtual 76, 3) := by decide +kernel
theorem dX7_dropOver_21 : decode cX7_dropOver 21 = .ok (.aload_n 0, 1) := by decide +kernel
theorem dX7_dropOver_22 : decode cX7_dropOver 22 = .ok (.getfield 7, 3) := by decide +kernel
theorem dX7_dropOver_25 : decode cX7_dropOver 25 = .ok (.bipush 82, 2) := by decide +kernel
theorem dX7_dropOver_27 : decode cX7_dropOver 27 = .ok (.dup2, 1) := by decide +kernel
theorem dX7_dropOver_28 : decode cX7_dropOver 28 = .ok (.iaload, 1) := by decide +kernel
theorem dX7_dropOver_29 : decode cX7_dropOver 29 = .ok (.iconst 1, 1) := by decide +kernel
theorem dX7_dropOver_30 : decode cX7_dropOver 30 = .ok (.iadd, 1) := by decide +kernel
theorem dX7_dropOver_31 : decode cX7_dropOver 31 = .ok (.iastore, 1) := by decide +kernel
theorem dX7_dropOver_32 : decode cX7_dropOver 32 = .ok (.goto (-32), 3) := by decide +kernel
theorem dX7_dropOver_35 : decode cX7_dropOver 35 = .ok (.return_, 1) := by decide +kernel
theorem dX7_wipeAll_0 : decode cX7_wipeAll 0 = .ok (.aload_n 0, 1) := by decide +kernel
theorem dX7_wipeAll_1 : decode cX7_wipeAll 1 = .ok (.getfield 7, 3) := by decide +kernel
theorem dX7_wipeAll_4 : decode cX7_wipeAll 4 = .ok (.bipush 90, 2) := by decide +kernel
theorem dX7_wipeAll_6 : decode cX7_wipeAll 6 = .ok (.iaload, 1) := by decide +kernel
theorem dX7_wipeAll_7 : decode cX7_wipeAll 7 = .ok (.istore_n 1, 1) := by decide +kernel
theorem dX7_wipeAll_8 : decode cX7_wipeAll 8 = .ok (.aload_n 0, 1) := by decide +kernel
theorem dX7_wipeAll_9 : decode cX7_wipeAll 9 = .ok (.getfield 7, 3) := by decide +kernel
theorem dX7_wipeAll_12 : decode cX7_wipeAll 12 = .ok (.bipush 90, 2) := by decide +kernel
theorem dX7_wipeAll_14 : decode cX7_wipeAll 14 = .ok (.iconst 0, 1) := by decide +kernel
theorem dX7_wipeAll_15 : decode cX7_wipeAll 15 = .ok (.iastore, 1) := by decide +kernel
theorem dX7_wipeAll_16 : decode cX7_wipeAll 16 = .ok (.aload_n 0, 1) := by decide +kernel
theorem dX7_wipeAll_17 : decode cX7_wipeAll 17 = .ok (.getfield 7, 3) := by decide +kernel
theorem dX7_wipeAll_20 : decode cX7_wipeAll 20 = .ok (.bipush 81, 2) := by decide +kernel
theorem dX7_wipeAll_22 : decode cX7_wipeAll 22 = .ok (.dup2, 1) := by decide +kernel
theorem dX7_wipeAll_23 : decode cX7_wipeAll 23 = .ok (.iaload, 1) := by decide +kernel
theorem dX7_wipeAll_24 : decode cX7_wipeAll 24 = .ok (.iload_n 1, 1) := by decide +kernel
theorem dX7_wipeAll_25 : decode cX7_wipeAll 25 = .ok (.iadd, 1) := by decide +kernel
theorem dX7_wipeAll_26 : decode cX7_wipeAll 26 = .ok (.iastore, 1) := by decide +kernel
theorem dX7_wipeAll_27 : decode cX7_wipeAll 27 = .ok (.iload_n 1, 1) := by decide +kernel
theorem dX7_wipeAll_28 : decode cX7_wipeAll 28 = .ok (.ireturn, 1) := by decide +kernel
