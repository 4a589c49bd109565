set_option maxRecDepth 20000 in
theorem ggX2_guestsWith_X6_isPage : GoodIn wsX2_guestsWith wsX6_isPage := goodIn_r _ [9] (by decide +kernel) (by decide +kernel)
set_option maxRecDepth 20000 in
theorem gX2_guestsWith_X6_isPage_n88 : GoodIn wsX2_guestsWith (wsX6_isPage) := ggX2_guestsWith_X6_isPage
set_option maxRecDepth 20000 in
theorem ggX2_guestsWith_X6_isGuest : GoodIn wsX2_guestsWith wsX6_isGuest := goodIn_r _ [11] (by decide +kernel) (by decide +kernel)
set_option maxRecDepth 20000 in
theorem gX2_guestsWith_X6_isGuest_n92 : GoodIn wsX2_guestsWith (wsX6_isGuest) := ggX2_guestsWith_X6_isGuest
set_option maxRecDepth 20000 in
theorem ggX2_guestsWith_X6_isIn : GoodIn wsX2_guestsWith wsX6_isIn := goodIn_r _ [13] (by decide +kernel) (by decide +kernel)
set_option maxRecDepth 20000 in
theorem gX2_guestsWith_X6_isIn_n117 : GoodIn wsX2_guestsWith (wsX6_isIn) := ggX2_guestsWith_X6_isIn
theorem dX2_guestsWith_0 : decode cX2_guestsWith 0 = .ok (.iload_n 1, 1) := by decide +kernel
theorem dX2_guestsWith_1 : decode cX2_guestsWith 1 = .ok (.invokestatic 88, 3) := by decide +kernel
theorem dX2_guestsWith_4 : decode cX2_guestsWith 4 = .ok (.ifCond .eq 26, 3) := by decide +kernel
theorem dX2_guestsWith_7 : decode cX2_guestsWith 7 = .ok (.aload_n 0, 1) := by decide +kernel
theorem dX2_guestsWith_8 : decode cX2_guestsWith 8 = .ok (.getfield 9, 3) := by decide +kernel
theorem dX2_guestsWith_11 : decode cX2_guestsWith 11 = .ok (.iload_n 1, 1) := by decide +kernel
theorem dX2_guestsWith_12 : decode cX2_guestsWith 12 = .ok (.iaload, 1) := by decide +kernel
theorem dX2_guestsWith_13 : decode cX2_guestsWith 13 = .ok (.invokestatic 92, 3) := by decide +kernel
theorem dX2_guestsWith_16 : decode cX2_guestsWith 16 = .ok (.ifCond .eq 14, 3) := by decide +kernel
theorem dX2_guestsWith_19 : decode cX2_guestsWith 19 = .ok (.iconst 1, 1) := by decide +kernel
theorem dX2_guestsWith_20 : decode cX2_guestsWith 20 = .ok (.aload_n 0, 1) := by decide +kernel
theorem dX2_guestsWith_21 : decode cX2_guestsWith 21 = .ok (.getfield 9, 3) := by decide +kernel
theorem dX2_guestsWith_24 : decode cX2_guestsWith 24 = .ok (.iload_n 1, 1) := by decide +kernel
theorem dX2_guestsWith_25 : decode cX2_guestsWith 25 = .ok (.iaload, 1) := by decide +kernel
theorem dX2_guestsWith_26 : decode cX2_guestsWith 26 = .ok (.ishl, 1) := by decide +kernel
theorem dX2_guestsWith_27 : decode cX2_guestsWith 27 = .ok (.goto 4, 3) := by decide +kernel
theorem dX2_guestsWith_30 : decode cX2_guestsWith 30 = .ok (.iconst 0, 1) := by decide +kernel
theorem dX2_guestsWith_31 : decode cX2_guestsWith 31 = .ok (.istore 5, 2) := by decide +kernel
theorem dX2_guestsWith_33 : decode cX2_guestsWith 33 = .ok (.iconst 0, 1) := by decide +kernel
theorem dX2_guestsWith_34 : decode cX2_guestsWith 34 = .ok (.istore 6, 2) := by decide +kernel
theorem dX2_guestsWith_36 : decode cX2_guestsWith 36 = .ok (.iload 6, 2) := by decide +kernel
theorem dX2_guestsWith_38 : decode cX2_guestsWith 38 = .ok (.aload_n 0, 1) := by decide +kernel
theorem dX2_guestsWith_39 : decode cX2_guestsWith 39 = .ok (.getfield 35, 3) := by decide +kernel
theorem dX2_guestsWith_42 : decode cX2_guestsWith 42 = .ok (.getfield 216, 3) := by decide +kernel
theorem dX2_guestsWith_45 : decode cX2_guestsWith 45 = .ok (.if_icmp .ge 64, 3) := by decide +kernel
theorem dX2_guestsWith_48 : decode cX2_guestsWith 48 = .ok (.lload_n 3, 1) := by decide +kernel
theorem dX2_guestsWith_49 : decode cX2_guestsWith 49 = .ok (.iload 6, 2) := by decide +kernel
theorem dX2_guestsWith_51 : decode cX2_guestsWith 51 = .ok (.invokestatic 117, 3) := by decide +kernel
theorem dX2_guestsWith_54 : decode cX2_guestsWith 54 = .ok (.ifCond .eq 49, 3) := by decide +kernel
theorem dX2_guestsWith_57 : decode cX2_guestsWith 57 = .ok (.aload_n 0, 1) := by decide +kernel
theorem dX2_guestsWith_58 : decode cX2_guestsWith 58 = .ok (.getfield 35, 3) := by decide +kernel
theorem dX2_guestsWith_61 : decode cX2_guestsWith 61 = .ok (.getfield 127, 3) := by decide +kernel
theorem dX2_guestsWith_64 : decode cX2_guestsWith 64 = .ok (.iload 6, 2) := by decide +kernel
theorem dX2_guestsWith_66 : decode cX2_guestsWith 66 = .ok (.iaload, 1) := by decide +kernel
theorem dX2_guestsWith_67 : decode cX2_guestsWith 67 = .ok (.iload_n 1, 1) := by decide +kernel
theorem dX2_guestsWith_68 : decode cX2_guestsWith 68 = .ok (.if_icmp .ne 35, 3) := by decide +kernel
theorem dX2_guestsWith_71 : decode cX2_guestsWith 71 = .ok (.aload_n 0, 1) := by decide +kernel
theorem dX2_guestsWith_72 : decode cX2_guestsWith 72 = .ok (.getfield 35, 3) := by decide +kernel
theorem dX2_guestsWith_75 : decode cX2_guestsWith 75 = .ok (.getfield 121, 3) := by decide +kernel
theorem dX2_guestsWith_78 : decode cX2_guestsWith 78 = .ok (.iload 6, 2) := by decide +kernel
theorem dX2_guestsWith_80 : decode cX2_guestsWith 80 = .ok (.iaload, 1) := by decide +kernel
theorem dX2_guestsWith_81 : decode cX2_guestsWith 81 = .ok (.iload_n 2, 1) := by decide +kernel
theorem dX2_guestsWith_82 : decode cX2_guestsWith 82 = .ok (.iand, 1) := by decide +kernel
theorem dX2_guestsWith_83 : decode cX2_guestsWith 83 = .ok (.ifCond .eq 20, 3) := by decide +kernel
theorem dX2_guestsWith_86 : decode cX2_guestsWith 86 = .ok (.iload 5, 2) := by decide +kernel
theorem dX2_guestsWith_88 : decode cX2_guestsWith 88 = .ok (.iconst 1, 1) := by decide +kernel
theorem dX2_guestsWith_89 : decode cX2_guestsWith 89 = .ok (.aload_n 0, 1) := by decide +kernel
theorem dX2_guestsWith_90 : decode cX2_guestsWith 90 = .ok (.getfield 35, 3) := by decide +kernel
theorem dX2_guestsWith_93 : decode cX2_guestsWith 93 = .ok (.getfield 124, 3) := by decide +kernel
theorem dX2_guestsWith_96 : decode cX2_guestsWith 96 = .ok (.iload 6, 2) := by decide +kernel
theorem dX2_guestsWith_98 : decode cX2_guestsWith 98 = .ok (.iaload, 1) := by decide +kernel
theorem dX2_guestsWith_99 : decode cX2_guestsWith 99 = .ok (.ishl, 1) := by decide +kernel
theorem dX2_guestsWith_100 : decode cX2_guestsWith 100 = .ok (.ior, 1) := by decide +kernel
theorem dX2_guestsWith_101 : decode cX2_guestsWith 101 = .ok (.istore 5, 2) := by decide +kernel
theorem dX2_guestsWith_103 : decode cX2_guestsWith 103 = .ok (.iinc 6 1, 3) := by decide +kernel
theorem dX2_guestsWith_106 : decode cX2_guestsWith 106 = .ok (.goto (-70), 3) := by decide +kernel
theorem dX2_guestsWith_109 : decode cX2_guestsWith 109 = .ok (.iload 5, 2) := by decide +kernel
theorem dX2_guestsWith_111 : decode cX2_guestsWith 111 = .ok (.ireturn, 1) := by decide +kernel
set_option maxRecDepth 20000 in
theorem ggX2_hiddenWithout_X2_guestsWith : GoodIn wsX2_hiddenWithout wsX2_guestsWith := goodIn_r _ [7, 8, 1, 9, 2, 10, 11, 12, 13, 14, 15, 16, 17, 18, 37, 38, 39, 40, 41, 42, 43, 44, 45, 46, 47, 48, 49, 50, 51, 52, 53, 54] (by decide +kernel) (by decide +kernel)
set_option maxRecDepth 20000 in
theorem gX2_hiddenWithout_X2_guestsWith : GoodIn wsX2_hiddenWithout (wsV RX2 231 RX2 yX2_guestsWith wsX2_guestsWith) := goodIn_app (goodIn_of _ (by decide +kernel)) ggX2_hiddenWithout_X2_guestsWith
set_option maxRecDepth 20000 in
theorem ggX2_hiddenWithout_X2_goodStamps : GoodIn wsX2_hiddenWithout wsX2_goodStamps := goodIn_r _ [22, 1, 9, 23, 24, 25, 17, 13, 18, 26, 27, 28, 6, 29, 2, 30, 8, 10, 11, 31, 32, 33, 34, 35, 36, 12, 14, 37, 38, 39, 40, 41, 42, 43, 44, 45, 46, 47, 48, 49, 50, 51, 52, 53, 54] (by decide +kernel) (by decide +kernel)
set_option maxRecDepth 20000 in
theorem gX2_hiddenWithout_X2_goodStamps : GoodIn wsX2_hiddenWithout (wsV RX2 95 RX2 yX2_goodStamps wsX2_goodStamps) := goodIn_app (goodIn_of _ (by decide +kernel)) ggX2_hiddenWithout_X2_goodStamps
theorem dX2_hiddenWithout_0 : decode cX2_hiddenWithout 0 = .ok (.aload_n 0, 1) := by decide +kernel
theorem dX2_hiddenWithout_1 : decode cX2_hiddenWithout 1 = .ok (.getfield 35, 3) := by decide +kernel
theorem dX2_hiddenWithout_4 : decode cX2_hiddenWithout 4 = .ok (.getfield 127, 3) := by decide +kernel
theorem dX2_hiddenWithout_7 : decode cX2_hiddenWithout 7 = .ok (.iload_n 1, 1) := by decide +kernel
theorem dX2_hiddenWithout_8 : decode cX2_hiddenWithout 8 = .ok (.iaload, 1) := by decide +kernel
theorem dX2_hiddenWithout_9 : decode cX2_hiddenWithout 9 = .ok (.istore 4, 2) := by decide +kernel
theorem dX2_hiddenWithout_11 : decode cX2_hiddenWithout 11 = .ok (.aload_n 0, 1) := by decide +kernel
theorem dX2_hiddenWithout_12 : decode cX2_hiddenWithout 12 = .ok (.iload 4, 2) := by decide +kernel
theorem dX2_hiddenWithout_14 : decode cX2_hiddenWithout 14 = .ok (.iconst 1, 1) := by decide +kernel
theorem dX2_hiddenWithout_15 : decode cX2_hiddenWithout 15 = .ok (.lload_n 2, 1) := by decide +kernel
theorem dX2_hiddenWithout_16 : decode cX2_hiddenWithout 16 = .ok (.invokevirtual 231, 3) := by decide +kernel
theorem dX2_hiddenWithout_19 : decode cX2_hiddenWithout 19 = .ok (.aload_n 0, 1) := by decide +kernel
theorem dX2_hiddenWithout_20 : decode cX2_hiddenWithout 20 = .ok (.iload 4, 2) := by decide +kernel
theorem dX2_hiddenWithout_22 : decode cX2_hiddenWithout 22 = .ok (.iconst 1, 1) := by decide +kernel
theorem dX2_hiddenWithout_23 : decode cX2_hiddenWithout 23 = .ok (.aload_n 0, 1) := by decide +kernel
theorem dX2_hiddenWithout_24 : decode cX2_hiddenWithout 24 = .ok (.iload_n 1, 1) := by decide +kernel
theorem dX2_hiddenWithout_25 : decode cX2_hiddenWithout 25 = .ok (.invokevirtual 95, 3) := by decide +kernel
theorem dX2_hiddenWithout_28 : decode cX2_hiddenWithout 28 = .ok (.invokevirtual 231, 3) := by decide +kernel
theorem dX2_hiddenWithout_31 : decode cX2_hiddenWithout 31 = .ok (.iconst (-1), 1) := by decide +kernel
theorem dX2_hiddenWithout_32 : decode cX2_hiddenWithout 32 = .ok (.ixor, 1) := by decide +kernel
theorem dX2_hiddenWithout_33 : decode cX2_hiddenWithout 33 = .ok (.iand, 1) := by decide +kernel
theorem dX2_hiddenWithout_34 : decode cX2_hiddenWithout 34 = .ok (.ireturn, 1) := by decide +kernel
set_option maxRecDepth 20000 in
theorem ggX2_needlessFor_X2_goodStamps : GoodIn wsX2_needlessFor wsX2_goodStamps := goodIn_r _ [7, 1, 2, 8, 9, 10, 11, 12, 13, 14, 15, 16, 6, 17, 18, 19, 20, 21, 22, 23, 24, 25, 26, 27, 28, 29, 30, 46, 47, 48, 49, 50, 51, 52, 53, 54, 55, 56, 57, 58, 59, 60, 61, 62, 63] (by decide +kernel) (by decide +kernel)
set_option maxRecDepth 20000 in
theorem gX2_needlessFor_X2_goodStamps : GoodIn wsX2_needlessFor (wsV RX2 95 RX2 yX2_goodStamps wsX2_goodStamps) := goodIn_app (goodIn_of _ (by decide +kernel)) ggX2_needlessFor_X2_goodStamps
set_option maxRecDepth 20000 in
theorem ggX2_needlessFor_X4_ofOnePage : GoodIn wsX2_needlessFor wsX4_ofOnePage := goodIn_r _ [34, 28, 35, 56, 57, 58, 59, 60, 61, 62, 63] (by decide +kernel) (by decide +kernel)
set_option maxRecDepth 20000 in
theorem gX2_needlessFor_X4_ofOnePage : GoodIn wsX2_needlessFor (wsV RX2 235 RX4 yX4_ofOnePage wsX4_ofOnePage) := goodIn_app (goodIn_of _ (by decide +kernel)) ggX2_needlessFor_X4_ofOnePage
set_option maxRecDepth 20000 in
theorem ggX2_needlessFor_X6_isIn : GoodIn wsX2_needlessFor wsX6_isIn := goodIn_r _ [13] (by decide +kernel) (by decide +kernel)
set_option maxRecDepth 20000 in
theorem gX2_needlessFor_X6_isIn_n117 : GoodIn wsX2_needlessFor (wsX6_isIn) := ggX2_needlessFor_X6_isIn
set_option maxRecDepth 20000 in
theorem ggX2_needlessFor_X2_hiddenWithout : GoodIn wsX2_needlessFor wsX2_hiddenWithout := goodIn_r _ [39, 1, 18, 40, 41, 42, 6, 43, 20, 2, 21, 22, 29, 12, 30, 44, 45, 11, 13, 3, 4, 5, 7, 8, 9, 10, 14, 15, 16, 17, 19, 23, 24, 25, 26, 27, 28, 46, 47, 48, 49, 50, 51, 52, 53, 54, 55, 56, 57, 58, 59, 60, 61, 62, 63] (by decide +kernel) (by decide +kernel)
set_option maxRecDepth 20000 in
theorem gX2_needlessFor_X2_hiddenWithout : GoodIn wsX2_needlessFor (wsV RX2 238 RX2 yX2_hiddenWithout wsX2_hiddenWithout) := goodIn_app (goodIn_of _ (by decide +kernel)) ggX2_needlessFor_X2_hiddenWithout
theorem dX2_needlessFor_0 : decode cX2_needlessFor 0 = .ok (.aload_n 0, 1) := by decide +kernel
theorem dX2_needlessFor_1 : decode cX2_needlessFor 1 = .ok (.bipush (-6), 2) := by decide +kernel
theorem dX2_needlessFor_3 : decode cX2_needlessFor 3 = .ok (.invokevirtual 95, 3) := by decide +kernel
theorem dX2_needlessFor_6 : decode cX2_needlessFor 6 = .ok (.lstore_n 2, 1) := by decide +kernel
theorem dX2_needlessFor_7 : decode cX2_needlessFor 7 = .ok (.lload_n 2, 1) := by decide +kernel
theorem dX2_needlessFor_8 : decode cX2_needlessFor 8 = .ok (.aload_n 0, 1) := by decide +kernel
theorem dX2_needlessFor_9 : decode cX2_needlessFor 9 = .ok (.getfield 35, 3) := by decide +kernel
theorem dX2_needlessFor_12 : decode cX2_needlessFor 12 = .ok (.iload_n 1, 1) := by decide +kernel
theorem dX2_needlessFor_13 : decode cX2_needlessFor 13 = .ok (.invokevirtual 235, 3) := by decide +kernel
theorem dX2_needlessFor_16 : decode cX2_needlessFor 16 = .ok (.land, 1) := by decide +kernel
theorem dX2_needlessFor_17 : decode cX2_needlessFor 17 = .ok (.lstore 4, 2) := by decide +kernel
theorem dX2_needlessFor_19 : decode cX2_needlessFor 19 = .ok (.lconst 0, 1) := by decide +kernel
theorem dX2_needlessFor_20 : decode cX2_needlessFor 20 = .ok (.lstore 6, 2) := by decide +kernel
theorem dX2_needlessFor_22 : decode cX2_needlessFor 22 = .ok (.iconst 0, 1) := by decide +kernel
theorem dX2_needlessFor_23 : decode cX2_needlessFor 23 = .ok (.istore 8, 2) := by decide +kernel
theorem dX2_needlessFor_25 : decode cX2_needlessFor 25 = .ok (.iload 8, 2) := by decide +kernel
theorem dX2_needlessFor_27 : decode cX2_needlessFor 27 = .ok (.aload_n 0, 1) := by decide +kernel
theorem dX2_needlessFor_28 : decode cX2_needlessFor 28 = .ok (.getfield 35, 3) := by decide +kernel
theorem dX2_needlessFor_31 : decode cX2_needlessFor 31 = .ok (.getfield 216, 3) := by decide +kernel
theorem dX2_needlessFor_34 : decode cX2_needlessFor 34 = .ok (.if_icmp .ge 38, 3) := by decide +kernel
theorem dX2_needlessFor_37 : decode cX2_needlessFor 37 = .ok (.lload 4, 2) := by decide +kernel
theorem dX2_needlessFor_39 : decode cX2_needlessFor 39 = .ok (.iload 8, 2) := by decide +kernel
theorem dX2_needlessFor_41 : decode cX2_needlessFor 41 = .ok (.invokestatic 117, 3) := by decide +kernel
theorem dX2_needlessFor_44 : decode cX2_needlessFor 44 = .ok (.ifCond .eq 22, 3) := by decide +kernel
theorem dX2_needlessFor_47 : decode cX2_needlessFor 47 = .ok (.aload_n 0, 1) := by decide +kernel
theorem dX2_needlessFor_48 : decode cX2_needlessFor 48 = .ok (.iload 8, 2) := by decide +kernel
theorem dX2_needlessFor_50 : decode cX2_needlessFor 50 = .ok (.lload_n 2, 1) := by decide +kernel
theorem dX2_needlessFor_51 : decode cX2_needlessFor 51 = .ok (.invokevirtual 238, 3) := by decide +kernel
theorem dX2_needlessFor_54 : decode cX2_needlessFor 54 = .ok (.ifCond .ne 12, 3) := by decide +kernel
theorem dX2_needlessFor_57 : decode cX2_needlessFor 57 = .ok (.lload 6, 2) := by decide +kernel
theorem dX2_needlessFor_59 : decode cX2_needlessFor 59 = .ok (.lconst 1, 1) := by decide +kernel
theorem dX2_needlessFor_60 : decode cX2_needlessFor 60 = .ok (.iload 8, 2) := by decide +kernel
theorem dX2_needlessFor_62 : decode cX2_needlessFor 62 = .ok (.lshl, 1) := by decide +kernel
theorem dX2_needlessFor_63 : decode cX2_needlessFor 63 = .ok (.lor, 1) := by decide +kernel
theorem dX2_needlessFor_64 : decode cX2_needlessFor 64 = .ok (.lstore 6, 2) := by decide +kernel
theorem dX2_needlessFor_66 : decode cX2_needlessFor 66 = .ok (.iinc 8 1, 3) := by decide +kernel
theorem dX2_needlessFor_69 : decode cX2_needlessFor 69 = .ok (.goto (-44), 3) := by decide +kernel
theorem dX2_needlessFor_72 : decode cX2_needlessFor 72 = .ok (.lload 6, 2) := by decide +kernel
theorem dX2_needlessFor_74 : decode cX2_needlessFor 74 = .ok (.lreturn, 1) := by decide +kernel
set_option maxRecDepth 20000 in
theorem ggX2_longestChain_X2_goodStamps : GoodIn wsX2_longestChain wsX2_goodStamps := goodIn_r _ [7, 1, 2, 8, 9, 10, 11, 12, 13, 14, 15, 16, 6, 17, 18, 19, 20, 21, 22, 23, 24, 25, 26, 27, 28, 29, 30, 37, 38, 39, 40, 41, 42, 43, 44, 45, 46, 47, 48, 49, 50, 51, 52, 53, 54] (by decide +kernel) (by decide +kernel)
set_option maxRecDepth 20000 in
theorem gX2_longestChain_X2_goodStamps : GoodIn wsX2_longestChain (wsV RX2 95 RX2 yX2_goodStamps wsX2_goodStamps) := goodIn_app (goodIn_of _ (by decide +kernel)) ggX2_longestChain_X2_goodStamps
set_option maxRecDepth 20000 in
theorem ggX2_longestChain_X6_isIn : GoodIn wsX2_longestChain wsX6_isIn := goodIn_r _ [13] (by decide +kernel) (by decide +kernel)
set_option maxRecDepth 20000 in
theorem gX2_longestChain_X6_isIn_n117 : GoodIn wsX2_longestChain (wsX6_isIn) := ggX2_longestChain_X6_isIn
set_option maxRecDepth 20000 in
theorem ggX2_longestChain_X4_chainLength : GoodIn wsX2_longestChain wsX4_chainLength := goodIn_r _ [34, 35, 36, 24, 25, 26, 27, 28, 47, 48, 49, 50, 51, 52, 53, 54] (by decide +kernel) (by decide +kernel)
set_option maxRecDepth 20000 in
theorem gX2_longestChain_X4_chainLength : GoodIn wsX2_longestChain (wsV RX2 241 RX4 yX4_chainLength wsX4_chainLength) := goodIn_app (goodIn_of _ (by decide +kernel)) ggX2_longestChain_X4_chainLength
theorem dX2_longestChain_0 : decode cX2_longestChain 0 = .ok (.aload_n 0, 1) := by decide +kernel
theorem dX2_longestChain_1 : decode cX2_longestChain 1 = .ok (.bipush (-6), 2) := by decide +kernel
theorem dX2_longestChain_3 : decode cX2_longestChain 3 = .ok (.invokevirtual 95, 3) := by decide +kernel
theorem dX2_longestChain_6 : decode cX2_longestChain 6 = .ok (.lstore_n 1, 1) := by decide +kernel
theorem dX2_longestChain_7 : decode cX2_longestChain 7 = .ok (.bipush (-6), 2) := by decide +kernel
theorem dX2_longestChain_9 : decode cX2_longestChain 9 = .ok (.istore_n 3, 1) := by decide +kernel
theorem dX2_longestChain_10 : decode cX2_longestChain 10 = .ok (.iconst 0, 1) := by decide +kernel
theorem dX2_longestChain_11 : decode cX2_longestChain 11 = .ok (.istore 4, 2) := by decide +kernel
theorem dX2_longestChain_13 : decode cX2_longestChain 13 = .ok (.iconst 0, 1) := by decide +kernel
theorem dX2_longestChain_14 : decode cX2_longestChain 14 = .ok (.istore 5, 2) := by decide +kernel
theorem dX2_longestChain_16 : decode cX2_longestChain 16 = .ok (.iload 5, 2) := by decide +kernel
theorem dX2_longestChain_18 : decode cX2_longestChain 18 = .ok (.aload_n 0, 1) := by decide +kernel
theorem dX2_longestChain_19 : decode cX2_longestChain 19 = .ok (.getfield 35, 3) := by decide +kernel
theorem dX2_longestChain_22 : decode cX2_longestChain 22 = .ok (.getfield 216, 3) := by decide +kernel
theorem dX2_longestChain_25 : decode cX2_longestChain 25 = .ok (.if_icmp .ge 46, 3) := by decide +kernel
theorem dX2_longestChain_28 : decode cX2_longestChain 28 = .ok (.lload_n 1, 1) := by decide +kernel
theorem dX2_longestChain_29 : decode cX2_longestChain 29 = .ok (.iload 5, 2) := by decide +kernel
theorem dX2_longestChain_31 : decode cX2_longestChain 31 = .ok (.invokestatic 117, 3) := by decide +kernel
theorem dX2_longestChain_34 : decode cX2_longestChain 34 = .ok (.ifCond .eq 31, 3) := by decide +kernel
theorem dX2_longestChain_37 : decode cX2_longestChain 37 = .ok (.aload_n 0, 1) := by decide +kernel
theorem dX2_longestChain_38 : decode cX2_longestChain 38 = .ok (.getfield 35, 3) := by decide +kernel
theorem dX2_longestChain_41 : decode cX2_longestChain 41 = .ok (.iload 5, 2) := by decide +kernel
theorem dX2_longestChain_43 : decode cX2_longestChain 43 = .ok (.invokevirtual 241, 3) := by decide +kernel
theorem dX2_longestChain_46 : decode cX2_longestChain 46 = .ok (.iload 4, 2) := by decide +kernel
theorem dX2_longestChain_48 : decode cX2_longestChain 48 = .ok (.if_icmp .le 17, 3) := by decide +kernel
theorem dX2_longestChain_51 : decode cX2_longestChain 51 = .ok (.iload 5, 2) := by decide +kernel
theorem dX2_longestChain_53 : decode cX2_longestChain 53 = .ok (.istore_n 3, 1) := by decide +kernel
theorem dX2_longestChain_54 : decode cX2_longestChain 54 = .ok (.aload_n 0, 1) := by decide +kernel
theorem dX2_longestChain_55 : decode cX2_longestChain 55 = .ok (.getfield 35, 3) := by decide +kernel
theorem dX2_longestChain_58 : decode cX2_longestChain 58 = .ok (.iload 5, 2) := by decide +kernel
theorem dX2_longestChain_60 : decode cX2_longestChain 60 = .ok (.invokevirtual 241, 3) := by decide +kernel
theorem dX2_longestChain_63 : decode cX2_longestChain 63 = .ok (.istore 4, 2) := by decide +kernel
theorem dX2_longestChain_65 : decode cX2_longestChain 65 = .ok (.iinc 5 1, 3) := by decide +kernel
theorem dX2_longestChain_68 : decode cX2_longestChain 68 = .ok (.goto (-52), 3) := by decide +kernel
theorem dX2_longestChain_71 : decode cX2_longestChain 71 = .ok (.iload_n 3, 1) := by decide +kernel
theorem dX2_longestChain_72 : decode cX2_longestChain 72 = .ok (.ireturn, 1) := by decide +kernel
set_option maxRecDepth 20000 in
theorem ggX2_wipeStale_X0_allNotes : GoodIn wsX2_wipeStale wsX0_allNotes := goodIn_r _ [8, 9, 81, 82, 83, 84, 85, 86, 87] (by decide +kernel) (by decide +kernel)
set_option maxRecDepth 20000 in
theorem gX2_wipeStale_X0_allNotes : GoodIn wsX2_wipeStale (wsV RX2 174 RX0 yX0_allNotes wsX0_allNotes) := goodIn_app (goodIn_of _ (by decide +kernel)) ggX2_wipeStale_X0_allNotes
set_option maxRecDepth 20000 in
theorem ggX2_wipeStale_X0_wipeThese : GoodIn wsX2_wipeStale wsX0_wipeThese := goodIn_r _ [13, 14, 15, 16, 17, 7, 18, 9, 19, 20, 21, 22, 23, 24, 25, 81, 82, 83, 84, 85, 86, 87] (by decide +kernel) (by decide +kernel)
set_option maxRecDepth 20000 in
theorem gX2_wipeStale_X0_wipeThese : GoodIn wsX2_wipeStale (wsV RX2 142 RX0 yX0_wipeThese wsX0_wipeThese) := goodIn_app (goodIn_of _ (by decide +kernel)) ggX2_wipeStale_X0_wipeThese
set_option maxRecDepth 20000 in
theorem ggX2_wipeStale_X0_notesOfPage : GoodIn wsX2_wipeStale wsX0_notesOfPage := goodIn_r _ [29, 9, 22, 81, 82, 83, 84, 85, 86, 87] (by decide +kernel) (by decide +kernel)
set_option maxRecDepth 20000 in
theorem gX2_wipeStale_X0_notesOfPage : GoodIn wsX2_wipeStale (wsV RX2 244 RX0 yX0_notesOfPage wsX0_notesOfPage) := goodIn_app (goodIn_of _ (by decide +kernel)) ggX2_wipeStale_X0_notesOfPage
set_option maxRecDepth 20000 in
theorem ggX2_wipeStale_X2_goodStamps : GoodIn wsX2_wipeStale wsX2_goodStamps := goodIn_r _ [34, 35, 36, 37, 38, 39, 23, 24, 25, 40, 41, 42, 33, 43, 44, 45, 46, 47, 48, 49, 50, 51, 52, 53, 54, 55, 56, 71, 72, 73, 74, 75, 76, 77, 78, 79, 80, 88, 89, 90, 91, 92, 93, 94, 95] (by decide +kernel) (by decide +kernel)
set_option maxRecDepth 20000 in
theorem gX2_wipeStale_X2_goodStamps : GoodIn wsX2_wipeStale (wsV RX2 95 RX2 yX2_goodStamps wsX2_goodStamps) := goodIn_app (goodIn_of _ (by decide +kernel)) ggX2_wipeStale_X2_goodStamps
set_option maxRecDepth 20000 in
theorem ggX2_wipeStale_X2_notesLedBy : GoodIn wsX2_wipeStale wsX2_notesLedBy := goodIn_r _ [60, 2, 61, 62, 63, 35, 64, 65, 66, 33, 67, 68, 69, 24, 70, 49, 50, 51, 52, 53, 54, 23, 25, 71, 72, 73, 74, 75, 76, 77, 78, 79, 80, 81, 82, 83, 84, 85, 86, 87, 88, 89, 90, 91, 92, 93, 94, 95] (by decide +kernel) (by decide +kernel)
set_option maxRecDepth 20000 in
theorem gX2_wipeStale_X2_notesLedBy : GoodIn wsX2_wipeStale (wsV RX2 249 RX2 yX2_notesLedBy wsX2_notesLedBy) := goodIn_app (goodIn_of _ (by decide +kernel)) ggX2_wipeStale_X2_notesLedBy
theorem dX2_wipeStale_0 : decode cX2_wipeStale 0 = .ok (.aload_n 0, 1) := by decide +kernel
theorem dX2_wipeStale_1 : decode cX2_wipeStale 1 = .ok (.getfield 26, 3) := by decide +kernel
theorem dX2_wipeStale_4 : decode cX2_wipeStale 4 = .ok (.iconst 2, 1) := by decide +kernel
theorem dX2_wipeStale_5 : decode cX2_wipeStale 5 = .ok (.iaload, 1) := by decide +kernel
theorem dX2_wipeStale_6 : decode cX2_wipeStale 6 = .ok (.lookupswitch 57 #[(0, 26), (1, 41)], 26) := by decide +kernel
theorem dX2_wipeStale_32 : decode cX2_wipeStale 32 = .ok (.aload_n 0, 1) := by decide +kernel
theorem dX2_wipeStale_33 : decode cX2_wipeStale 33 = .ok (.getfield 42, 3) := by decide +kernel
theorem dX2_wipeStale_36 : decode cX2_wipeStale 36 = .ok (.aload_n 0, 1) := by decide +kernel
theorem dX2_wipeStale_37 : decode cX2_wipeStale 37 = .ok (.getfield 42, 3) := by decide +kernel
theorem dX2_wipeStale_40 : decode cX2_wipeStale 40 = .ok (.invokevirtual 174, 3) := by decide +kernel
theorem dX2_wipeStale_43 : decode cX2_wipeStale 43 = .ok (.invokevirtual 142, 3) := by decide +kernel
theorem dX2_wipeStale_46 : decode cX2_wipeStale 46 = .ok (.ireturn, 1) := by decide +kernel
theorem dX2_wipeStale_47 : decode cX2_wipeStale 47 = .ok (.aload_n 0, 1) := by decide +kernel
theorem dX2_wipeStale_48 : decode cX2_wipeStale 48 = .ok (.getfield 42, 3) := by decide +kernel
theorem dX2_wipeStale_51 : decode cX2_wipeStale 51 = .ok (.aload_n 0, 1) := by decide +kernel
theorem dX2_wipeStale_52 : decode cX2_wipeStale 52 = .ok (.getfield 42, 3) := by decide +kernel
theorem dX2_wipeStale_55 : decode cX2_wipeStale 55 = .ok (.iload_n 1, 1) := by decide +kernel
theorem dX2_wipeStale_56 : decode cX2_wipeStale 56 = .ok (.invokevirtual 244, 3) := by decide +kernel
theorem dX2_wipeStale_59 : decode cX2_wipeStale 59 = .ok (.invokevirtual 142, 3) := by decide +kernel
theorem dX2_wipeStale_62 : decode cX2_wipeStale 62 = .ok (.ireturn, 1) := by decide +kernel
theorem dX2_wipeStale_63 : decode cX2_wipeStale 63 = .ok (.aload_n 0, 1) := by decide +kernel
theorem dX2_wipeStale_64 : decode cX2_wipeStale 64 = .ok (.getfield 42, 3) := by decide +kernel
theorem dX2_wipeStale_67 : decode cX2_wipeStale 67 = .ok (.aload_n 0, 1) := by decide +kernel
theorem dX2_wipeStale_68 : decode cX2_wipeStale 68 = .ok (.lload_n 2, 1) := by decide +kernel
theorem dX2_wipeStale_69 : decode cX2_wipeStale 69 = .ok (.aload_n 0, 1) := by decide +kernel
theorem dX2_wipeStale_70 : decode cX2_wipeStale 70 = .ok (.bipush (-6), 2) := by decide +kernel
theorem dX2_wipeStale_72 : decode cX2_wipeStale 72 = .ok (.invokevirtual 95, 3) := by decide +kernel
theorem dX2_wipeStale_75 : decode cX2_wipeStale 75 = .ok (.ldc2_w 247, 3) := by decide +kernel
theorem dX2_wipeStale_78 : decode cX2_wipeStale 78 = .ok (.lxor, 1) := by decide +kernel
theorem dX2_wipeStale_79 : decode cX2_wipeStale 79 = .ok (.land, 1) := by decide +kernel
theorem dX2_wipeStale_80 : decode cX2_wipeStale 80 = .ok (.invokevirtual 249, 3) := by decide +kernel
theorem dX2_wipeStale_83 : decode cX2_wipeStale 83 = .ok (.invokevirtual 142, 3) := by decide +kernel
theorem dX2_wipeStale_86 : decode cX2_wipeStale 86 = .ok (.ireturn, 1) := by decide +kernel
set_option maxRecDepth 20000 in
theorem ggX2_notesLedBy_X2_ledBy : GoodIn wsX2_notesLedBy wsX2_ledBy := goodIn_r _ [10, 11, 12, 13, 14, 23, 24, 25, 26, 27, 28, 29, 30, 31, 32] (by decide +kernel) (by decide +kernel)
set_option maxRecDepth 20000 in
theorem gX2_notesLedBy_X2_ledBy : GoodIn wsX2_notesLedBy (wsV RX2 181 RX2 yX2_ledBy wsX2_ledBy) := goodIn_app (goodIn_of _ (by decide +kernel)) ggX2_notesLedBy_X2_ledBy
set_option maxRecDepth 20000 in
theorem ggX2_notesLedBy_X4_has : GoodIn wsX2_notesLedBy wsX4_has := goodIn_r _ [19, 20, 40, 41, 42, 43, 44, 45, 46, 47] (by decide +kernel) (by decide +kernel)
set_option maxRecDepth 20000 in
theorem gX2_notesLedBy_X4_has : GoodIn wsX2_notesLedBy (wsV RX2 114 RX4 yX4_has wsX4_has) := goodIn_app (goodIn_of _ (by decide +kernel)) ggX2_notesLedBy_X4_has
set_option maxRecDepth 20000 in
theorem ggX2_notesLedBy_X6_isIn : GoodIn wsX2_notesLedBy wsX6_isIn := goodIn_r _ [22] (by decide +kernel) (by decide +kernel)
set_option maxRecDepth 20000 in
theorem gX2_notesLedBy_X6_isIn_n117 : GoodIn wsX2_notesLedBy (wsX6_isIn) := ggX2_notesLedBy_X6_isIn
theorem dX2_notesLedBy_0 : decode cX2_notesLedBy 0 = .ok (.iconst 0, 1) := by decide +kernel
theorem dX2_notesLedBy_1 : decode cX2_notesLedBy 1 = .ok (.istore_n 3, 1) := by decide +kernel
theorem dX2_notesLedBy_2 : decode cX2_notesLedBy 2 = .ok (.iconst 0, 1) := by decide +kernel
theorem dX2_notesLedBy_3 : decode cX2_notesLedBy 3 = .ok (.istore 4, 2) := by decide +kernel
theorem dX2_notesLedBy_5 : decode cX2_notesLedBy 5 = .ok (.iload 4, 2) := by decide +kernel
theorem dX2_notesLedBy_7 : decode cX2_notesLedBy 7 = .ok (.aload_n 0, 1) := by decide +kernel
theorem dX2_notesLedBy_8 : decode cX2_notesLedBy 8 = .ok (.getfield 42, 3) := by decide +kernel
theorem dX2_notesLedBy_11 : decode cX2_notesLedBy 11 = .ok (.getfield 253, 3) := by decide +kernel
theorem dX2_notesLedBy_14 : decode cX2_notesLedBy 14 = .ok (.if_icmp .ge 63, 3) := by decide +kernel
theorem dX2_notesLedBy_17 : decode cX2_notesLedBy 17 = .ok (.aload_n 0, 1) := by decide +kernel
theorem dX2_notesLedBy_18 : decode cX2_notesLedBy 18 = .ok (.aload_n 0, 1) := by decide +kernel
theorem dX2_notesLedBy_19 : decode cX2_notesLedBy 19 = .ok (.getfield 42, 3) := by decide +kernel
theorem dX2_notesLedBy_22 : decode cX2_notesLedBy 22 = .ok (.getfield 256, 3) := by decide +kernel
theorem dX2_notesLedBy_25 : decode cX2_notesLedBy 25 = .ok (.iload 4, 2) := by decide +kernel
theorem dX2_notesLedBy_27 : decode cX2_notesLedBy 27 = .ok (.iaload, 1) := by decide +kernel
theorem dX2_notesLedBy_28 : decode cX2_notesLedBy 28 = .ok (.aload_n 0, 1) := by decide +kernel
theorem dX2_notesLedBy_29 : decode cX2_notesLedBy 29 = .ok (.getfield 42, 3) := by decide +kernel
theorem dX2_notesLedBy_32 : decode cX2_notesLedBy 32 = .ok (.getfield 259, 3) := by decide +kernel
theorem dX2_notesLedBy_35 : decode cX2_notesLedBy 35 = .ok (.iload 4, 2) := by decide +kernel
theorem dX2_notesLedBy_37 : decode cX2_notesLedBy 37 = .ok (.iaload, 1) := by decide +kernel
theorem dX2_notesLedBy_38 : decode cX2_notesLedBy 38 = .ok (.invokevirtual 181, 3) := by decide +kernel
theorem dX2_notesLedBy_41 : decode cX2_notesLedBy 41 = .ok (.istore 5, 2) := by decide +kernel
theorem dX2_notesLedBy_43 : decode cX2_notesLedBy 43 = .ok (.aload_n 0, 1) := by decide +kernel
theorem dX2_notesLedBy_44 : decode cX2_notesLedBy 44 = .ok (.getfield 35, 3) := by decide +kernel
theorem dX2_notesLedBy_47 : decode cX2_notesLedBy 47 = .ok (.iload 5, 2) := by decide +kernel
theorem dX2_notesLedBy_49 : decode cX2_notesLedBy 49 = .ok (.invokevirtual 114, 3) := by decide +kernel
theorem dX2_notesLedBy_52 : decode cX2_notesLedBy 52 = .ok (.ifCond .eq 19, 3) := by decide +kernel
theorem dX2_notesLedBy_55 : decode cX2_notesLedBy 55 = .ok (.lload_n 1, 1) := by decide +kernel
theorem dX2_notesLedBy_56 : decode cX2_notesLedBy 56 = .ok (.iload 5, 2) := by decide +kernel
theorem dX2_notesLedBy_58 : decode cX2_notesLedBy 58 = .ok (.invokestatic 117, 3) := by decide +kernel
theorem dX2_notesLedBy_61 : decode cX2_notesLedBy 61 = .ok (.ifCond .eq 10, 3) := by decide +kernel
theorem dX2_notesLedBy_64 : decode cX2_notesLedBy 64 = .ok (.iload_n 3, 1) := by decide +kernel
theorem dX2_notesLedBy_65 : decode cX2_notesLedBy 65 = .ok (.iconst 1, 1) := by decide +kernel
theorem dX2_notesLedBy_66 : decode cX2_notesLedBy 66 = .ok (.iload 4, 2) := by decide +kernel
theorem dX2_notesLedBy_68 : decode cX2_notesLedBy 68 = .ok (.ishl, 1) := by decide +kernel
theorem dX2_notesLedBy_69 : decode cX2_notesLedBy 69 = .ok (.ior, 1) := by decide +kernel
theorem dX2_notesLedBy_70 : decode cX2_notesLedBy 70 = .ok (.istore_n 3, 1) := by decide +kernel
theorem dX2_notesLedBy_71 : decode cX2_notesLedBy 71 = .ok (.iinc 4 1, 3) := by decide +kernel
theorem dX2_notesLedBy_74 : decode cX2_notesLedBy 74 = .ok (.goto (-69), 3) := by decide +kernel
theorem dX2_notesLedBy_77 : decode cX2_notesLedBy 77 = .ok (.iload_n 3, 1) := by decide +kernel
theorem dX2_notesLedBy_78 : decode cX2_notesLedBy 78 = .ok (.ireturn, 1) := by decide +kernel
theorem dX3_init_0 : decode cX3_init 0 = .ok (.aload_n 0, 1) := by decide +kernel
theorem dX3_init_1 : decode cX3_init 1 = .ok (.invokespecial 3, 3) := by decide +kernel
theorem dX3_init_4 : decode cX3_init 4 = .ok (.aload_n 0, 1) := by decide +kernel
theorem dX3_init_5 : decode cX3_init 5 = .ok (.bipush 80, 2) := by decide +kernel
theorem dX3_init_7 : decode cX3_init 7 = .ok (.newarray .char, 2) := by decide +kernel
theorem dX3_init_9 : decode cX3_init 9 = .ok (.putfield 9, 3) := by decide +kernel
theorem dX3_init_12 : decode cX3_init 12 = .ok (.aload_n 0, 1) := by decide +kernel
theorem dX3_init_13 : decode cX3_init 13 = .ok (.iconst 4, 1) := by decide +kernel
theorem dX3_init_14 : decode cX3_init 14 = .ok (.newarray .int, 2) := by decide +kernel
theorem dX3_init_16 : decode cX3_init 16 = .ok (.putfield 15, 3) := by decide +kernel
theorem dX3_init_19 : decode cX3_init 19 = .ok (.return_, 1) := by decide +kernel
set_option maxRecDepth 20000 in
theorem ggX3_append_X3_countSigns : GoodIn wsX3_append wsX3_countSigns := goodIn_r _ [6, 7, 8, 5, 9, 10] (by decide +kernel) (by decide +kernel)
set_option maxRecDepth 20000 in
theorem gX3_append_X3_countSigns : GoodIn wsX3_append (va_wsS RX3 19 yX3_countSigns wsX3_countSigns) := goodIn_app (goodIn_of _ (by decide +kernel)) ggX3_append_X3_countSigns
set_option maxRecDepth 20000 in
theorem ggX3_append_X3_signAt : GoodIn wsX3_append wsX3_signAt := goodIn_r _ [9, 10] (by decide +kernel) (by decide +kernel)
set_option maxRecDepth 20000 in
theorem gX3_append_X3_signAt : GoodIn wsX3_append (va_wsS RX3 27 yX3_signAt wsX3_signAt) := goodIn_app (goodIn_of _ (by decide +kernel)) ggX3_append_X3_signAt
theorem dX3_append_0 : decode cX3_append 0 = .ok (.lload_n 1, 1) := by decide +kernel
theorem dX3_append_1 : decode cX3_append 1 = .ok (.invokestatic 19, 3) := by decide +kernel
theorem dX3_append_4 : decode cX3_append 4 = .ok (.istore_n 3, 1) := by decide +kernel
theorem dX3_append_5 : decode cX3_append 5 = .ok (.iload_n 3, 1) := by decide +kernel
theorem dX3_append_6 : decode cX3_append 6 = .ok (.ifCond .ne 6, 3) := by decide +kernel
theorem dX3_append_9 : decode cX3_append 9 = .ok (.bipush (-2), 2) := by decide +kernel
theorem dX3_append_11 : decode cX3_append 11 = .ok (.ireturn, 1) := by decide +kernel
theorem dX3_append_12 : decode cX3_append 12 = .ok (.aload_n 0, 1) := by decide +kernel
theorem dX3_append_13 : decode cX3_append 13 = .ok (.getfield 23, 3) := by decide +kernel
theorem dX3_append_16 : decode cX3_append 16 = .ok (.iload_n 3, 1) := by decide +kernel
theorem dX3_append_17 : decode cX3_append 17 = .ok (.iadd, 1) := by decide +kernel
theorem dX3_append_18 : decode cX3_append 18 = .ok (.bipush 80, 2) := by decide +kernel
theorem dX3_append_20 : decode cX3_append 20 = .ok (.if_icmp .le 6, 3) := by decide +kernel
theorem dX3_append_23 : decode cX3_append 23 = .ok (.bipush (-4), 2) := by decide +kernel
theorem dX3_append_25 : decode cX3_append 25 = .ok (.ireturn, 1) := by decide +kernel
theorem dX3_append_26 : decode cX3_append 26 = .ok (.iload_n 3, 1) := by decide +kernel
theorem dX3_append_27 : decode cX3_append 27 = .ok (.iconst 1, 1) := by decide +kernel
theorem dX3_append_28 : decode cX3_append 28 = .ok (.isub, 1) := by decide +kernel
theorem dX3_append_29 : decode cX3_append 29 = .ok (.istore 4, 2) := by decide +kernel
theorem dX3_append_31 : decode cX3_append 31 = .ok (.iload 4, 2) := by decide +kernel
theorem dX3_append_33 : decode cX3_append 33 = .ok (.ifCond .lt 35, 3) := by decide +kernel
theorem dX3_append_36 : decode cX3_append 36 = .ok (.aload_n 0, 1) := by decide +kernel
theorem dX3_append_37 : decode cX3_append 37 = .ok (.getfield 9, 3) := by decide +kernel
theorem dX3_append_40 : decode cX3_append 40 = .ok (.aload_n 0, 1) := by decide +kernel
theorem dX3_append_41 : decode cX3_append 41 = .ok (.getfield 23, 3) := by decide +kernel
theorem dX3_append_44 : decode cX3_append 44 = .ok (.lload_n 1, 1) := by decide +kernel
theorem dX3_append_45 : decode cX3_append 45 = .ok (.iload 4, 2) := by decide +kernel
theorem dX3_append_47 : decode cX3_append 47 = .ok (.invokestatic 27, 3) := by decide +kernel
theorem dX3_append_50 : decode cX3_append 50 = .ok (.i2c, 1) := by decide +kernel
theorem dX3_append_51 : decode cX3_append 51 = .ok (.castore, 1) := by decide +kernel
theorem dX3_append_52 : decode cX3_append 52 = .ok (.aload_n 0, 1) := by decide +kernel
theorem dX3_append_53 : decode cX3_append 53 = .ok (.dup, 1) := by decide +kernel
theorem dX3_append_54 : decode cX3_append 54 = .ok (.getfield 23, 3) := by decide +kernel
theorem dX3_append_57 : decode cX3_append 57 = .ok (.iconst 1, 1) := by decide +kernel
theorem dX3_append_58 : decode cX3_append 58 = .ok (.iadd, 1) := by decide +kernel
theorem dX3_append_59 : decode cX3_append 59 = .ok (.putfield 23, 3) := by decide +kernel
theorem dX3_append_62 : decode cX3_append 62 = .ok (.iinc 4 (-1), 3) := by decide +kernel
theorem dX3_append_65 : decode cX3_append 65 = .ok (.goto (-34), 3) := by decide +kernel
theorem dX3_append_68 : decode cX3_append 68 = .ok (.aload_n 0, 1) := by decide +kernel
theorem dX3_append_69 : decode cX3_append 69 = .ok (.getfield 23, 3) := by decide +kernel
theorem dX3_append_72 : decode cX3_append 72 = .ok (.ireturn, 1) := by decide +kernel
set_option maxRecDepth 20000 in
theorem ggX3_countSigns_X3_signAt : GoodIn wsX3_countSigns wsX3_signAt := goodIn_r _ [4, 5] (by decide +kernel) (by decide +kernel)
set_option maxRecDepth 20000 in
theorem gX3_countSigns_X3_signAt : GoodIn wsX3_countSigns (va_wsS RX3 27 yX3_signAt wsX3_signAt) := goodIn_app (goodIn_of _ (by decide +kernel)) ggX3_countSigns_X3_signAt
theorem dX3_countSigns_0 : decode cX3_countSigns 0 = .ok (.iconst 0, 1) := by decide +kernel
theorem dX3_countSigns_1 : decode cX3_countSigns 1 = .ok (.istore_n 2, 1) := by decide +kernel
theorem dX3_countSigns_2 : decode cX3_countSigns 2 = .ok (.iload_n 2, 1) := by decide +kernel
theorem dX3_countSigns_3 : decode cX3_countSigns 3 = .ok (.bipush 8, 2) := by decide +kernel
theorem dX3_countSigns_5 : decode cX3_countSigns 5 = .ok (.if_icmp .ge 40, 3) := by decide +kernel
theorem dX3_countSigns_8 : decode cX3_countSigns 8 = .ok (.lload_n 0, 1) := by decide +kernel
theorem dX3_countSigns_9 : decode cX3_countSigns 9 = .ok (.bipush 8, 2) := by decide +kernel
theorem dX3_countSigns_11 : decode cX3_countSigns 11 = .ok (.iload_n 2, 1) := by decide +kernel
theorem dX3_countSigns_12 : decode cX3_countSigns 12 = .ok (.imul, 1) := by decide +kernel
theorem dX3_countSigns_13 : decode cX3_countSigns 13 = .ok (.lushr, 1) := by decide +kernel
theorem dX3_countSigns_14 : decode cX3_countSigns 14 = .ok (.lconst 0, 1) := by decide +kernel
theorem dX3_countSigns_15 : decode cX3_countSigns 15 = .ok (.lcmp, 1) := by decide +kernel
theorem dX3_countSigns_16 : decode cX3_countSigns 16 = .ok (.ifCond .eq 29, 3) := by decide +kernel
theorem dX3_countSigns_19 : decode cX3_countSigns 19 = .ok (.lload_n 0, 1) := by decide +kernel
theorem dX3_countSigns_20 : decode cX3_countSigns 20 = .ok (.iload_n 2, 1) := by decide +kernel
theorem dX3_countSigns_21 : decode cX3_countSigns 21 = .ok (.invokestatic 27, 3) := by decide +kernel
theorem dX3_countSigns_24 : decode cX3_countSigns 24 = .ok (.istore_n 3, 1) := by decide +kernel
theorem dX3_countSigns_25 : decode cX3_countSigns 25 = .ok (.iload_n 3, 1) := by decide +kernel
theorem dX3_countSigns_26 : decode cX3_countSigns 26 = .ok (.bipush 33, 2) := by decide +kernel
theorem dX3_countSigns_28 : decode cX3_countSigns 28 = .ok (.if_icmp .lt 9, 3) := by decide +kernel
theorem dX3_countSigns_31 : decode cX3_countSigns 31 = .ok (.iload_n 3, 1) := by decide +kernel
theorem dX3_countSigns_32 : decode cX3_countSigns 32 = .ok (.bipush 126, 2) := by decide +kernel
theorem dX3_countSigns_34 : decode cX3_countSigns 34 = .ok (.if_icmp .le 5, 3) := by decide +kernel
theorem dX3_countSigns_37 : decode cX3_countSigns 37 = .ok (.iconst 0, 1) := by decide +kernel
theorem dX3_countSigns_38 : decode cX3_countSigns 38 = .ok (.ireturn, 1) := by decide +kernel
theorem dX3_countSigns_39 : decode cX3_countSigns 39 = .ok (.iinc 2 1, 3) := by decide +kernel
theorem dX3_countSigns_42 : decode cX3_countSigns 42 = .ok (.goto (-40), 3) := by decide +kernel
theorem dX3_countSigns_45 : decode cX3_countSigns 45 = .ok (.iload_n 2, 1) := by decide +kernel
theorem dX3_countSigns_46 : decode cX3_countSigns 46 = .ok (.ireturn, 1) := by decide +kernel
theorem dX3_signAt_0 : decode cX3_signAt 0 = .ok (.lload_n 0, 1) := by decide +kernel
theorem dX3_signAt_1 : decode cX3_signAt 1 = .ok (.bipush 8, 2) := by decide +kernel
theorem dX3_signAt_3 : decode cX3_signAt 3 = .ok (.iload_n 2, 1) := by decide +kernel
theorem dX3_signAt_4 : decode cX3_signAt 4 = .ok (.imul, 1) := by decide +kernel
theorem dX3_signAt_5 : decode cX3_signAt 5 = .ok (.lushr, 1) := by decide +kernel
theorem dX3_signAt_6 : decode cX3_signAt 6 = .ok (.ldc2_w 31, 3) := by decide +kernel
theorem dX3_signAt_9 : decode cX3_signAt 9 = .ok (.land, 1) := by decide +kernel
theorem dX3_signAt_10 : decode cX3_signAt 10 = .ok (.l2i, 1) := by decide +kernel
theorem dX3_signAt_11 : decode cX3_signAt 11 = .ok (.ireturn, 1) := by decide +kernel
theorem dX3_clear_0 : decode cX3_clear 0 = .ok (.aload_n 0, 1) := by decide +kernel
theorem dX3_clear_1 : decode cX3_clear 1 = .ok (.getfield 23, 3) := by decide +kernel
theorem dX3_clear_4 : decode cX3_clear 4 = .ok (.istore_n 1, 1) := by decide +kernel
theorem dX3_clear_5 : decode cX3_clear 5 = .ok (.aload_n 0, 1) := by decide +kernel
theorem dX3_clear_6 : decode cX3_clear 6 = .ok (.iconst 0, 1) := by decide +kernel
theorem dX3_clear_7 : decode cX3_clear 7 = .ok (.putfield 23, 3) := by decide +kernel
theorem dX3_clear_10 : decode cX3_clear 10 = .ok (.iload_n 1, 1) := by decide +kernel
theorem dX3_clear_11 : decode cX3_clear 11 = .ok (.ireturn, 1) := by decide +kernel
set_option maxRecDepth 20000 in
theorem ggX3_findFault_X3_startReading : GoodIn wsX3_findFault wsX3_startReading := goodIn_r _ [8, 1, 100, 101, 102, 103, 104, 105] (by decide +kernel) (by decide +kernel)
set_option maxRecDepth 20000 in
theorem gX3_findFault_X3_startReading : GoodIn wsX3_findFault (wsV RX3 33 RX3 yX3_startReading wsX3_startReading) := goodIn_app (goodIn_of _ (by decide +kernel)) ggX3_findFault_X3_startReading
set_option maxRecDepth 20000 in
theorem ggX3_findFault_X3_readOrder : GoodIn wsX3_findFault wsX3_readOrder := goodIn_r _ [12, 1, 2, 3, 13, 14, 15, 16, 7, 17, 18, 19, 20, 21, 22, 23, 24, 25, 26, 27, 28, 29, 30, 31, 32, 33, 34, 35, 36, 37, 38, 39, 40, 41, 42, 43, 44, 45, 46, 47, 48, 49, 50, 51, 52, 53, 54, 55, 56, 57, 58, 59, 60, 61, 62, 63, 64, 65, 66, 67, 68, 69, 70, 71, 72, 73, 74, 75, 76, 77, 78, 79, 80, 81, 82, 83, 84, 85, 86, 87, 88, 89, 90, 91, 92, 93, 94, 95, 96, 97, 98, 99, 100, 101, 102, 103, 104, 105] (by decide +kernel) (by decide +kernel)
set_option maxRecDepth 20000 in
theorem gX3_findFault_X3_readOrder : GoodIn wsX3_findFault (wsV RX3 36 RX3 yX3_readOrder wsX3_readOrder) := goodIn_app (goodIn_of _ (by decide +kernel)) ggX3_findFault_X3_readOrder
set_option maxRecDepth 20000 in
theorem ggX3_findFault_X3_skipSign : GoodIn wsX3_findFault wsX3_skipSign := goodIn_r _ [27, 1, 100, 101, 102, 103, 104, 105] (by decide +kernel) (by decide +kernel)
set_option maxRecDepth 20000 in
theorem gX3_findFault_X3_skipSign : GoodIn wsX3_findFault (wsV RX3 43 RX3 yX3_skipSign wsX3_skipSign) := goodIn_app (goodIn_of _ (by decide +kernel)) ggX3_findFault_X3_skipSign
theorem dX3_findFault_0 : decode cX3_findFault 0 = .ok (.aload_n 0, 1) := by decide +kernel
theorem dX3_findFault_1 : decode cX3_findFault 1 = .ok (.invokevirtual 33, 3) := by decide +kernel
theorem dX3_findFault_4 : decode cX3_findFault 4 = .ok (.iconst 0, 1) := by decide +kernel
theorem dX3_findFault_5 : decode cX3_findFault 5 = .ok (.istore_n 1, 1) := by decide +kernel
theorem dX3_findFault_6 : decode cX3_findFault 6 = .ok (.iload_n 1, 1) := by decide +kernel
theorem dX3_findFault_7 : decode cX3_findFault 7 = .ok (.bipush 80, 2) := by decide +kernel
theorem dX3_findFault_9 : decode cX3_findFault 9 = .ok (.if_icmp .ge 53, 3) := by decide +kernel
theorem dX3_findFault_12 : decode cX3_findFault 12 = .ok (.aload_n 0, 1) := by decide +kernel
theorem dX3_findFault_13 : decode cX3_findFault 13 = .ok (.invokevirtual 36, 3) := by decide +kernel
theorem dX3_findFault_16 : decode cX3_findFault 16 = .ok (.ifCond .eq 46, 3) := by decide +kernel
theorem dX3_findFault_19 : decode cX3_findFault 19 = .ok (.aload_n 0, 1) := by decide +kernel
theorem dX3_findFault_20 : decode cX3_findFault 20 = .ok (.getfield 40, 3) := by decide +kernel
theorem dX3_findFault_23 : decode cX3_findFault 23 = .ok (.aload_n 0, 1) := by decide +kernel
theorem dX3_findFault_24 : decode cX3_findFault 24 = .ok (.getfield 23, 3) := by decide +kernel
theorem dX3_findFault_27 : decode cX3_findFault 27 = .ok (.if_icmp .lt 6, 3) := by decide +kernel
theorem dX3_findFault_30 : decode cX3_findFault 30 = .ok (.bipush (-6), 2) := by decide +kernel
theorem dX3_findFault_32 : decode cX3_findFault 32 = .ok (.ireturn, 1) := by decide +kernel
theorem dX3_findFault_33 : decode cX3_findFault 33 = .ok (.aload_n 0, 1) := by decide +kernel
theorem dX3_findFault_34 : decode cX3_findFault 34 = .ok (.getfield 9, 3) := by decide +kernel
theorem dX3_findFault_37 : decode cX3_findFault 37 = .ok (.aload_n 0, 1) := by decide +kernel
theorem dX3_findFault_38 : decode cX3_findFault 38 = .ok (.getfield 40, 3) := by decide +kernel
theorem dX3_findFault_41 : decode cX3_findFault 41 = .ok (.caload, 1) := by decide +kernel
theorem dX3_findFault_42 : decode cX3_findFault 42 = .ok (.bipush 59, 2) := by decide +kernel
theorem dX3_findFault_44 : decode cX3_findFault 44 = .ok (.if_icmp .eq 8, 3) := by decide +kernel
theorem dX3_findFault_47 : decode cX3_findFault 47 = .ok (.aload_n 0, 1) := by decide +kernel
theorem dX3_findFault_48 : decode cX3_findFault 48 = .ok (.getfield 40, 3) := by decide +kernel
theorem dX3_findFault_51 : decode cX3_findFault 51 = .ok (.ireturn, 1) := by decide +kernel
theorem dX3_findFault_52 : decode cX3_findFault 52 = .ok (.aload_n 0, 1) := by decide +kernel
theorem dX3_findFault_53 : decode cX3_findFault 53 = .ok (.invokevirtual 43, 3) := by decide +kernel
theorem dX3_findFault_56 : decode cX3_findFault 56 = .ok (.iinc 1 1, 3) := by decide +kernel
theorem dX3_findFault_59 : decode cX3_findFault 59 = .ok (.goto (-53), 3) := by decide +kernel
theorem dX3_findFault_62 : decode cX3_findFault 62 = .ok (.aload_n 0, 1) := by decide +kernel
theorem dX3_findFault_63 : decode cX3_findFault 63 = .ok (.getfield 40, 3) := by decide +kernel
theorem dX3_findFault_66 : decode cX3_findFault 66 = .ok (.ireturn, 1) := by decide +kernel
theorem dX3_startReading_0 : decode cX3_startReading 0 = .ok (.aload_n 0, 1) := by decide +kernel
theorem dX3_startReading_1 : decode cX3_startReading 1 = .ok (.iconst 0, 1) := by decide +kernel
theorem dX3_startReading_2 : decode cX3_startReading 2 = .ok (.putfield 40, 3) := by decide +kernel
theorem dX3_startReading_5 : decode cX3_startReading 5 = .ok (.return_, 1) := by decide +kernel
theorem dX3_skipSign_0 : decode cX3_skipSign 0 = .ok (.aload_n 0, 1) := by decide +kernel
theorem dX3_skipSign_1 : decode cX3_skipSign 1 = .ok (.dup, 1) := by decide +kernel
theorem dX3_skipSign_2 : decode cX3_skipSign 2 = .ok (.getfield 40, 3) := by decide +kernel
theorem dX3_skipSign_5 : decode cX3_skipSign 5 = .ok (.iconst 1, 1) := by decide +kernel
theorem dX3_skipSign_6 : decode cX3_skipSign 6 = .ok (.iadd, 1) := by decide +kernel
theorem dX3_skipSign_7 : decode cX3_skipSign 7 = .ok (.putfield 40, 3) := by decide +kernel
theorem dX3_skipSign_10 : decode cX3_skipSign 10 = .ok (.return_, 1) := by decide +kernel
set_option maxRecDepth 20000 in
theorem ggX3_readOrder_X3_shapeOf : GoodIn wsX3_readOrder wsX3_shapeOf := goodIn_r _ [9] (by decide +kernel) (by decide +kernel)
set_option maxRecDepth 20000 in
theorem gX3_readOrder_X3_shapeOf : GoodIn wsX3_readOrder (va_wsS RX3 50 yX3_shapeOf wsX3_shapeOf) := goodIn_app (goodIn_of _ (by decide +kernel)) ggX3_readOrder_X3_shapeOf
set_option maxRecDepth 20000 in
theorem ggX3_readOrder_J0_isEmpty_aae02 : GoodIn wsX3_readOrder wsJ0_isEmpty_aae02 := goodIn_r _ [14, 15] (by decide +kernel) (by decide +kernel)
set_option maxRecDepth 20000 in
theorem gX3_readOrder_J0_isEmpty_aae02 : GoodIn wsX3_readOrder (wsV RX3 54 RJ0 yJ0_isEmpty_aae02 wsJ0_isEmpty_aae02) := goodIn_app (goodIn_of _ (by decide +kernel)) ggX3_readOrder_J0_isEmpty_aae02
set_option maxRecDepth 20000 in
theorem ggX3_readOrder_X3_skipSign : GoodIn wsX3_readOrder wsX3_skipSign := goodIn_r _ [19, 1, 92, 93, 94, 95, 96, 97] (by decide +kernel) (by decide +kernel)
set_option maxRecDepth 20000 in
theorem gX3_readOrder_X3_skipSign : GoodIn wsX3_readOrder (wsV RX3 43 RX3 yX3_skipSign wsX3_skipSign) := goodIn_app (goodIn_of _ (by decide +kernel)) ggX3_readOrder_X3_skipSign
set_option maxRecDepth 20000 in
theorem ggX3_readOrder_J0_length_8abf5 : GoodIn wsX3_readOrder wsJ0_length_8abf5 := goodIn_r _ [23, 15, 24, 25, 26, 13, 27, 28, 29] (by decide +kernel) (by decide +kernel)
set_option maxRecDepth 20000 in
theorem gX3_readOrder_J0_length_8abf5 : GoodIn wsX3_readOrder (wsV RX3 62 RJ0 yJ0_length_8abf5 wsJ0_length_8abf5) := goodIn_app (goodIn_of _ (by decide +kernel)) ggX3_readOrder_J0_length_8abf5
set_option maxRecDepth 20000 in
theorem ggX3_readOrder_J0_charAt_5068e : GoodIn wsX3_readOrder wsJ0_charAt_5068e := goodIn_r _ [33, 15, 34, 35, 36, 13, 37, 28, 29, 38, 39, 40, 41, 42, 43, 44, 45, 46, 47, 48, 49, 50, 51, 52, 53, 54, 55, 56, 57, 58, 59, 60, 61, 62, 63, 64, 65, 66] (by decide +kernel) (by decide +kernel)
set_option maxRecDepth 20000 in
theorem gX3_readOrder_J0_charAt_5068e : GoodIn wsX3_readOrder (wsV RX3 65 RJ0 yJ0_charAt_5068e wsJ0_charAt_5068e) := goodIn_app (goodIn_of _ (by decide +kernel)) ggX3_readOrder_J0_charAt_5068e
set_option maxRecDepth 20000 in
theorem ggX3_readOrder_X3_readPart : GoodIn wsX3_readOrder wsX3_readPart := goodIn_r _ [70, 3, 1, 71, 72, 73, 8, 74, 2, 16, 17, 18, 19, 75, 76, 77, 78, 5, 79, 80, 81, 82, 83, 84, 85, 86, 87, 88, 89, 90, 91, 92, 93, 94, 95, 96, 97] (by decide +kernel) (by decide +kernel)
set_option maxRecDepth 20000 in
theorem gX3_readOrder_X3_readPart : GoodIn wsX3_readOrder (wsV RX3 69 RX3 yX3_readPart wsX3_readPart) := goodIn_app (goodIn_of _ (by decide +kernel)) ggX3_readOrder_X3_readPart
theorem dX3_readOrder_0 : decode cX3_readOrder 0 = .ok (.aload_n 0, 1) := by decide +kernel
theorem dX3_readOrder_1 : decode cX3_readOrder 1 = .ok (.getfield 40, 3) := by decide +kernel
theorem dX3_readOrder_4 : decode cX3_readOrder 4 = .ok (.aload_n 0, 1) := by decide +kernel
theorem dX3_readOrder_5 : decode cX3_readOrder 5 = .ok (.getfield 23, 3) := by decide +kernel
theorem dX3_readOrder_8 : decode cX3_readOrder 8 = .ok (.if_icmp .lt 5, 3) := by decide +kernel
theorem dX3_readOrder_11 : decode cX3_readOrder 11 = .ok (.iconst 0, 1) := by decide +kernel
theorem dX3_readOrder_12 : decode cX3_readOrder 12 = .ok (.ireturn, 1) := by decide +kernel
theorem dX3_readOrder_13 : decode cX3_readOrder 13 = .ok (.aload_n 0, 1) := by decide +kernel
theorem dX3_readOrder_14 : decode cX3_readOrder 14 = .ok (.aload_n 0, 1) := by decide +kernel
theorem dX3_readOrder_15 : decode cX3_readOrder 15 = .ok (.getfield 9, 3) := by decide +kernel
theorem dX3_readOrder_18 : decode cX3_readOrder 18 = .ok (.aload_n 0, 1) := by decide +kernel
theorem dX3_readOrder_19 : decode cX3_readOrder 19 = .ok (.getfield 40, 3) := by decide +kernel
theorem dX3_readOrder_22 : decode cX3_readOrder 22 = .ok (.caload, 1) := by decide +kernel
theorem dX3_readOrder_23 : decode cX3_readOrder 23 = .ok (.putfield 46, 3) := by decide +kernel
theorem dX3_readOrder_26 : decode cX3_readOrder 26 = .ok (.aload_n 0, 1) := by decide +kernel
theorem dX3_readOrder_27 : decode cX3_readOrder 27 = .ok (.getfield 46, 3) := by decide +kernel
theorem dX3_readOrder_30 : decode cX3_readOrder 30 = .ok (.invokestatic 50, 3) := by decide +kernel
theorem dX3_readOrder_33 : decode cX3_readOrder 33 = .ok (.astore_n 1, 1) := by decide +kernel
theorem dX3_readOrder_34 : decode cX3_readOrder 34 = .ok (.aload_n 1, 1) := by decide +kernel
theorem dX3_readOrder_35 : decode cX3_readOrder 35 = .ok (.invokevirtual 54, 3) := by decide +kernel
theorem dX3_readOrder_38 : decode cX3_readOrder 38 = .ok (.ifCond .eq 5, 3) := by decide +kernel
theorem dX3_readOrder_41 : decode cX3_readOrder 41 = .ok (.iconst 0, 1) := by decide +kernel
theorem dX3_readOrder_42 : decode cX3_readOrder 42 = .ok (.ireturn, 1) := by decide +kernel
theorem dX3_readOrder_43 : decode cX3_readOrder 43 = .ok (.aload_n 0, 1) := by decide +kernel
theorem dX3_readOrder_44 : decode cX3_readOrder 44 = .ok (.invokevirtual 43, 3) := by decide +kernel
theorem dX3_readOrder_47 : decode cX3_readOrder 47 = .ok (.aload_n 0, 1) := by decide +kernel
theorem dX3_readOrder_48 : decode cX3_readOrder 48 = .ok (.iconst 0, 1) := by decide +kernel
theorem dX3_readOrder_49 : decode cX3_readOrder 49 = .ok (.putfield 59, 3) := by decide +kernel
theorem dX3_readOrder_52 : decode cX3_readOrder 52 = .ok (.iconst 0, 1) := by decide +kernel
theorem dX3_readOrder_53 : decode cX3_readOrder 53 = .ok (.istore_n 2, 1) := by decide +kernel
theorem dX3_readOrder_54 : decode cX3_readOrder 54 = .ok (.iload_n 2, 1) := by decide +kernel
theorem dX3_readOrder_55 : decode cX3_readOrder 55 = .ok (.aload_n 1, 1) := by decide +kernel
theorem dX3_readOrder_56 : decode cX3_readOrder 56 = .ok (.invokevirtual 62, 3) := by decide +kernel
theorem dX3_readOrder_59 : decode cX3_readOrder 59 = .ok (.if_icmp .ge 34, 3) := by decide +kernel
theorem dX3_readOrder_62 : decode cX3_readOrder 62 = .ok (.aload_n 0, 1) := by decide +kernel
theorem dX3_readOrder_63 : decode cX3_readOrder 63 = .ok (.getfield 40, 3) := by decide +kernel
theorem dX3_readOrder_66 : decode cX3_readOrder 66 = .ok (.aload_n 0, 1) := by decide +kernel
theorem dX3_readOrder_67 : decode cX3_readOrder 67 = .ok (.getfield 23, 3) := by decide +kernel
theorem dX3_readOrder_70 : decode cX3_readOrder 70 = .ok (.if_icmp .ge 15, 3) := by decide +kernel
theorem dX3_readOrder_73 : decode cX3_readOrder 73 = .ok (.aload_n 0, 1) := by decide +kernel
theorem dX3_readOrder_74 : decode cX3_readOrder 74 = .ok (.aload_n 1, 1) := by decide +kernel
theorem dX3_readOrder_75 : decode cX3_readOrder 75 = .ok (.iload_n 2, 1) := by decide +kernel
theorem dX3_readOrder_76 : decode cX3_readOrder 76 = .ok (.invokevirtual 65, 3) := by decide +kernel
theorem dX3_readOrder_79 : decode cX3_readOrder 79 = .ok (.invokevirtual 69, 3) := by decide +kernel
theorem dX3_readOrder_82 : decode cX3_readOrder 82 = .ok (.ifCond .ne 5, 3) := by decide +kernel
theorem dX3_readOrder_85 : decode cX3_readOrder 85 = .ok (.iconst 0, 1) := by decide +kernel
theorem dX3_readOrder_86 : decode cX3_readOrder 86 = .ok (.ireturn, 1) := by decide +kernel
theorem dX3_readOrder_87 : decode cX3_readOrder 87 = .ok (.iinc 2 1, 3) := by decide +kernel
theorem dX3_readOrder_90 : decode cX3_readOrder 90 = .ok (.goto (-36), 3) := by decide +kernel
theorem dX3_readOrder_93 : decode cX3_readOrder 93 = .ok (.iconst 1, 1) := by decide +kernel
theorem dX3_readOrder_94 : decode cX3_readOrder 94 = .ok (.ireturn, 1) := by decide +kernel
theorem dX3_shapeOf_0 : decode cX3_shapeOf 0 = .ok (.iload_n 0, 1) := by decide +kernel
theorem dX3_shapeOf_1 : decode cX3_shapeOf 1 = .ok (.lookupswitch 77 #[(63, 74), (100, 71), (111, 59), (112, 65), (115, 62), (116, 68)], 59) := by decide +kernel
theorem dX3_shapeOf_60 : decode cX3_shapeOf 60 = .ok (.ldc 73, 2) := by decide +kernel
theorem dX3_shapeOf_62 : decode cX3_shapeOf 62 = .ok (.areturn, 1) := by decide +kernel
theorem dX3_shapeOf_63 : decode cX3_shapeOf 63 = .ok (.ldc 75, 2) := by decide +kernel
theorem dX3_shapeOf_65 : decode cX3_shapeOf 65 = .ok (.areturn, 1) := by decide +kernel
theorem dX3_shapeOf_66 : decode cX3_shapeOf 66 = .ok (.ldc 77, 2) := by decide +kernel
theorem dX3_shapeOf_68 : decode cX3_shapeOf 68 = .ok (.areturn, 1) := by decide +kernel
theorem dX3_shapeOf_69 : decode cX3_shapeOf 69 = .ok (.ldc 79, 2) := by decide +kernel
theorem dX3_shapeOf_71 : decode cX3_shapeOf 71 = .ok (.areturn, 1) := by decide +kernel
theorem dX3_shapeOf_72 : decode cX3_shapeOf 72 = .ok (.ldc 81, 2) := by decide +kernel
theorem dX3_shapeOf_74 : decode cX3_shapeOf 74 = .ok (.areturn, 1) := by decide +kernel
theorem dX3_shapeOf_75 : decode cX3_shapeOf 75 = .ok (.ldc 83, 2) := by decide +kernel
theorem dX3_shapeOf_77 : decode cX3_shapeOf 77 = .ok (.areturn, 1) := by decide +kernel
theorem dX3_shapeOf_78 : decode cX3_shapeOf 78 = .ok (.ldc 85, 2) := by decide +kernel
theorem dX3_shapeOf_80 : decode cX3_shapeOf 80 = .ok (.areturn, 1) := by decide +kernel
set_option maxRecDepth 20000 in
theorem ggX3_readPart_X3_readNumber : GoodIn wsX3_readPart wsX3_readNumber := goodIn_r _ [7, 1, 2, 8, 9, 10, 11, 6, 12, 13, 14, 15, 16, 17, 18, 31, 32, 33, 34, 35, 36] (by decide +kernel) (by decide +kernel)
set_option maxRecDepth 20000 in
theorem gX3_readPart_X3_readNumber : GoodIn wsX3_readPart (wsV RX3 87 RX3 yX3_readNumber wsX3_readNumber) := goodIn_app (goodIn_of _ (by decide +kernel)) ggX3_readPart_X3_readNumber
set_option maxRecDepth 20000 in
theorem ggX3_readPart_X3_take : GoodIn wsX3_readPart wsX3_take := goodIn_r _ [16, 17, 18, 9, 10, 11, 6, 12, 2, 31, 32, 33, 34, 35, 36] (by decide +kernel) (by decide +kernel)
set_option maxRecDepth 20000 in
theorem gX3_readPart_X3_take : GoodIn wsX3_readPart (wsV RX3 90 RX3 yX3_take wsX3_take) := goodIn_app (goodIn_of _ (by decide +kernel)) ggX3_readPart_X3_take
set_option maxRecDepth 20000 in
theorem ggX3_readPart_X3_readDigit : GoodIn wsX3_readPart wsX3_readDigit := goodIn_r _ [22, 1, 2, 13, 14, 15, 6, 16, 17, 18, 9, 10, 11, 12, 31, 32, 33, 34, 35, 36] (by decide +kernel) (by decide +kernel)
set_option maxRecDepth 20000 in
theorem gX3_readPart_X3_readDigit : GoodIn wsX3_readPart (wsV RX3 94 RX3 yX3_readDigit wsX3_readDigit) := goodIn_app (goodIn_of _ (by decide +kernel)) ggX3_readPart_X3_readDigit
set_option maxRecDepth 20000 in
theorem ggX3_readPart_X3_readNeed : GoodIn wsX3_readPart wsX3_readNeed := goodIn_r _ [26, 1, 2, 13, 14, 15, 6, 16, 17, 18, 9, 10, 11, 12, 31, 32, 33, 34, 35, 36] (by decide +kernel) (by decide +kernel)
set_option maxRecDepth 20000 in
theorem gX3_readPart_X3_readNeed : GoodIn wsX3_readPart (wsV RX3 98 RX3 yX3_readNeed wsX3_readNeed) := goodIn_app (goodIn_of _ (by decide +kernel)) ggX3_readPart_X3_readNeed
set_option maxRecDepth 20000 in
theorem ggX3_readPart_X3_readItself : GoodIn wsX3_readPart wsX3_readItself := goodIn_r _ [30, 1, 2, 9, 10, 11, 6, 12, 31, 32, 33, 34, 35, 36] (by decide +kernel) (by decide +kernel)
set_option maxRecDepth 20000 in
theorem gX3_readPart_X3_readItself : GoodIn wsX3_readPart (wsV RX3 101 RX3 yX3_readItself wsX3_readItself) := goodIn_app (goodIn_of _ (by decide +kernel)) ggX3_readPart_X3_readItself
theorem dX3_readPart_0 : decode cX3_readPart 0 = .ok (.aload_n 0, 1) := by decide +kernel
theorem dX3_readPart_1 : decode cX3_readPart 1 = .ok (.getfield 9, 3) := by decide +kernel
theorem dX3_readPart_4 : decode cX3_readPart 4 = .ok (.aload_n 0, 1) := by decide +kernel
theorem dX3_readPart_5 : decode cX3_readPart 5 = .ok (.getfield 40, 3) := by decide +kernel
theorem dX3_readPart_8 : decode cX3_readPart 8 = .ok (.caload, 1) := by decide +kernel
theorem dX3_readPart_9 : decode cX3_readPart 9 = .ok (.istore_n 2, 1) := by decide +kernel
theorem dX3_readPart_10 : decode cX3_readPart 10 = .ok (.iload_n 1, 1) := by decide +kernel
theorem dX3_readPart_11 : decode cX3_readPart 11 = .ok (.lookupswitch 146 #[(71, 99), (78, 70), (97, 141), (100, 123), (102, 132), (103, 90), (110, 65)], 65) := by decide +kernel
theorem dX3_readPart_76 : decode cX3_readPart 76 = .ok (.aload_n 0, 1) := by decide +kernel
theorem dX3_readPart_77 : decode cX3_readPart 77 = .ok (.invokevirtual 87, 3) := by decide +kernel
theorem dX3_readPart_80 : decode cX3_readPart 80 = .ok (.ireturn, 1) := by decide +kernel
theorem dX3_readPart_81 : decode cX3_readPart 81 = .ok (.iload_n 2, 1) := by decide +kernel
theorem dX3_readPart_82 : decode cX3_readPart 82 = .ok (.bipush 45, 2) := by decide +kernel
theorem dX3_readPart_84 : decode cX3_readPart 84 = .ok (.if_icmp .ne 12, 3) := by decide +kernel
theorem dX3_readPart_87 : decode cX3_readPart 87 = .ok (.aload_n 0, 1) := by decide +kernel
theorem dX3_readPart_88 : decode cX3_readPart 88 = .ok (.bipush (-6), 2) := by decide +kernel
theorem dX3_readPart_90 : decode cX3_readPart 90 = .ok (.invokevirtual 90, 3) := by decide +kernel
theorem dX3_readPart_93 : decode cX3_readPart 93 = .ok (.goto 7, 3) := by decide +kernel
theorem dX3_readPart_96 : decode cX3_readPart 96 = .ok (.aload_n 0, 1) := by decide +kernel
theorem dX3_readPart_97 : decode cX3_readPart 97 = .ok (.invokevirtual 87, 3) := by decide +kernel
theorem dX3_readPart_100 : decode cX3_readPart 100 = .ok (.ireturn, 1) := by decide +kernel
theorem dX3_readPart_101 : decode cX3_readPart 101 = .ok (.aload_n 0, 1) := by decide +kernel
theorem dX3_readPart_102 : decode cX3_readPart 102 = .ok (.bipush 48, 2) := by decide +kernel
theorem dX3_readPart_104 : decode cX3_readPart 104 = .ok (.bipush 53, 2) := by decide +kernel
theorem dX3_readPart_106 : decode cX3_readPart 106 = .ok (.invokevirtual 94, 3) := by decide +kernel
theorem dX3_readPart_109 : decode cX3_readPart 109 = .ok (.ireturn, 1) := by decide +kernel
theorem dX3_readPart_110 : decode cX3_readPart 110 = .ok (.iload_n 2, 1) := by decide +kernel
theorem dX3_readPart_111 : decode cX3_readPart 111 = .ok (.bipush 45, 2) := by decide +kernel
theorem dX3_readPart_113 : decode cX3_readPart 113 = .ok (.if_icmp .ne 12, 3) := by decide +kernel
theorem dX3_readPart_116 : decode cX3_readPart 116 = .ok (.aload_n 0, 1) := by decide +kernel
theorem dX3_readPart_117 : decode cX3_readPart 117 = .ok (.bipush (-6), 2) := by decide +kernel
theorem dX3_readPart_119 : decode cX3_readPart 119 = .ok (.invokevirtual 90, 3) := by decide +kernel
theorem dX3_readPart_122 : decode cX3_readPart 122 = .ok (.goto 11, 3) := by decide +kernel
theorem dX3_readPart_125 : decode cX3_readPart 125 = .ok (.aload_n 0, 1) := by decide +kernel
theorem dX3_readPart_126 : decode cX3_readPart 126 = .ok (.bipush 48, 2) := by decide +kernel
theorem dX3_readPart_128 : decode cX3_readPart 128 = .ok (.bipush 53, 2) := by decide +kernel
theorem dX3_readPart_130 : decode cX3_readPart 130 = .ok (.invokevirtual 94, 3) := by decide +kernel
theorem dX3_readPart_133 : decode cX3_readPart 133 = .ok (.ireturn, 1) := by decide +kernel
theorem dX3_readPart_134 : decode cX3_readPart 134 = .ok (.aload_n 0, 1) := by decide +kernel
theorem dX3_readPart_135 : decode cX3_readPart 135 = .ok (.bipush 48, 2) := by decide +kernel
theorem dX3_readPart_137 : decode cX3_readPart 137 = .ok (.bipush 57, 2) := by decide +kernel
theorem dX3_readPart_139 : decode cX3_readPart 139 = .ok (.invokevirtual 94, 3) := by decide +kernel
theorem dX3_readPart_142 : decode cX3_readPart 142 = .ok (.ireturn, 1) := by decide +kernel
theorem dX3_readPart_143 : decode cX3_readPart 143 = .ok (.aload_n 0, 1) := by decide +kernel
theorem dX3_readPart_144 : decode cX3_readPart 144 = .ok (.bipush 49, 2) := by decide +kernel
theorem dX3_readPart_146 : decode cX3_readPart 146 = .ok (.bipush 55, 2) := by decide +kernel
theorem dX3_readPart_148 : decode cX3_readPart 148 = .ok (.invokevirtual 94, 3) := by decide +kernel
theorem dX3_readPart_151 : decode cX3_readPart 151 = .ok (.ireturn, 1) := by decide +kernel
theorem dX3_readPart_152 : decode cX3_readPart 152 = .ok (.aload_n 0, 1) := by decide +kernel
theorem dX3_readPart_153 : decode cX3_readPart 153 = .ok (.invokevirtual 98, 3) := by decide +kernel
theorem dX3_readPart_156 : decode cX3_readPart 156 = .ok (.ireturn, 1) := by decide +kernel
theorem dX3_readPart_157 : decode cX3_readPart 157 = .ok (.aload_n 0, 1) := by decide +kernel
theorem dX3_readPart_158 : decode cX3_readPart 158 = .ok (.iload_n 1, 1) := by decide +kernel
theorem dX3_readPart_159 : decode cX3_readPart 159 = .ok (.invokevirtual 101, 3) := by decide +kernel
theorem dX3_readPart_162 : decode cX3_readPart 162 = .ok (.ireturn, 1) := by decide +kernel
set_option maxRecDepth 20000 in
theorem ggX3_readItself_X3_skipSign : GoodIn wsX3_readItself wsX3_skipSign := goodIn_r _ [7, 2, 8, 9, 10, 11, 12, 13] (by decide +kernel) (by decide +kernel)
set_option maxRecDepth 20000 in
theorem gX3_readItself_X3_skipSign : GoodIn wsX3_readItself (wsV RX3 43 RX3 yX3_skipSign wsX3_skipSign) := goodIn_app (goodIn_of _ (by decide +kernel)) ggX3_readItself_X3_skipSign
theorem dX3_readItself_0 : decode cX3_readItself 0 = .ok (.aload_n 0, 1) := by decide +kernel
theorem dX3_readItself_1 : decode cX3_readItself 1 = .ok (.getfield 9, 3) := by decide +kernel
theorem dX3_readItself_4 : decode cX3_readItself 4 = .ok (.aload_n 0, 1) := by decide +kernel
theorem dX3_readItself_5 : decode cX3_readItself 5 = .ok (.getfield 40, 3) := by decide +kernel
theorem dX3_readItself_8 : decode cX3_readItself 8 = .ok (.caload, 1) := by decide +kernel
theorem dX3_readItself_9 : decode cX3_readItself 9 = .ok (.iload_n 1, 1) := by decide +kernel
theorem dX3_readItself_10 : decode cX3_readItself 10 = .ok (.if_icmp .eq 5, 3) := by decide +kernel
theorem dX3_readItself_13 : decode cX3_readItself 13 = .ok (.iconst 0, 1) := by decide +kernel
theorem dX3_readItself_14 : decode cX3_readItself 14 = .ok (.ireturn, 1) := by decide +kernel
theorem dX3_readItself_15 : decode cX3_readItself 15 = .ok (.aload_n 0, 1) := by decide +kernel
theorem dX3_readItself_16 : decode cX3_readItself 16 = .ok (.invokevirtual 43, 3) := by decide +kernel
theorem dX3_readItself_19 : decode cX3_readItself 19 = .ok (.iconst 1, 1) := by decide +kernel
theorem dX3_readItself_20 : decode cX3_readItself 20 = .ok (.ireturn, 1) := by decide +kernel
set_option maxRecDepth 20000 in
theorem ggX3_readNeed_X3_take : GoodIn wsX3_readNeed wsX3_take := goodIn_r _ [7, 8, 9, 10, 11, 12, 6, 13, 2, 14, 15, 16, 17, 18, 19] (by decide +kernel) (by decide +kernel)
set_option maxRecDepth 20000 in
theorem gX3_readNeed_X3_take : GoodIn wsX3_readNeed (wsV RX3 90 RX3 yX3_take wsX3_take) := goodIn_app (goodIn_of _ (by decide +kernel)) ggX3_readNeed_X3_take
theorem dX3_readNeed_0 : decode cX3_readNeed 0 = .ok (.aload_n 0, 1) := by decide +kernel
theorem dX3_readNeed_1 : decode cX3_readNeed 1 = .ok (.getfield 9, 3) := by decide +kernel
theorem dX3_readNeed_4 : decode cX3_readNeed 4 = .ok (.aload_n 0, 1) := by decide +kernel
theorem dX3_readNeed_5 : decode cX3_readNeed 5 = .ok (.getfield 40, 3) := by decide +kernel
theorem dX3_readNeed_8 : decode cX3_readNeed 8 = .ok (.caload, 1) := by decide +kernel
theorem dX3_readNeed_9 : decode cX3_readNeed 9 = .ok (.bipush 114, 2) := by decide +kernel
theorem dX3_readNeed_11 : decode cX3_readNeed 11 = .ok (.if_icmp .ne 9, 3) := by decide +kernel
theorem dX3_readNeed_14 : decode cX3_readNeed 14 = .ok (.aload_n 0, 1) := by decide +kernel
theorem dX3_readNeed_15 : decode cX3_readNeed 15 = .ok (.iconst 1, 1) := by decide +kernel
theorem dX3_readNeed_16 : decode cX3_readNeed 16 = .ok (.invokevirtual 90, 3) := by decide +kernel
theorem dX3_readNeed_19 : decode cX3_readNeed 19 = .ok (.ireturn, 1) := by decide +kernel
theorem dX3_readNeed_20 : decode cX3_readNeed 20 = .ok (.aload_n 0, 1) := by decide +kernel
theorem dX3_readNeed_21 : decode cX3_readNeed 21 = .ok (.getfield 9, 3) := by decide +kernel
theorem dX3_readNeed_24 : decode cX3_readNeed 24 = .ok (.aload_n 0, 1) := by decide +kernel
theorem dX3_readNeed_25 : decode cX3_readNeed 25 = .ok (.getfield 40, 3) := by decide +kernel
theorem dX3_readNeed_28 : decode cX3_readNeed 28 = .ok (.caload, 1) := by decide +kernel
theorem dX3_readNeed_29 : decode cX3_readNeed 29 = .ok (.bipush 119, 2) := by decide +kernel
theorem dX3_readNeed_31 : decode cX3_readNeed 31 = .ok (.if_icmp .ne 15, 3) := by decide +kernel
theorem dX3_readNeed_34 : decode cX3_readNeed 34 = .ok (.aload_n 0, 1) := by decide +kernel
theorem dX3_readNeed_35 : decode cX3_readNeed 35 = .ok (.iconst 2, 1) := by decide +kernel
theorem dX3_readNeed_36 : decode cX3_readNeed 36 = .ok (.invokevirtual 90, 3) := by decide +kernel
theorem dX3_readNeed_39 : decode cX3_readNeed 39 = .ok (.ifCond .eq 7, 3) := by decide +kernel
theorem dX3_readNeed_42 : decode cX3_readNeed 42 = .ok (.iconst 1, 1) := by decide +kernel
theorem dX3_readNeed_43 : decode cX3_readNeed 43 = .ok (.goto 4, 3) := by decide +kernel
theorem dX3_readNeed_46 : decode cX3_readNeed 46 = .ok (.iconst 0, 1) := by decide +kernel
theorem dX3_readNeed_47 : decode cX3_readNeed 47 = .ok (.ireturn, 1) := by decide +kernel
set_option maxRecDepth 20000 in
theorem ggX3_readDigit_X3_take : GoodIn wsX3_readDigit wsX3_take := goodIn_r _ [7, 8, 9, 10, 11, 12, 6, 13, 2, 14, 15, 16, 17, 18, 19] (by decide +kernel) (by decide +kernel)
set_option maxRecDepth 20000 in
theorem gX3_readDigit_X3_take : GoodIn wsX3_readDigit (wsV RX3 90 RX3 yX3_take wsX3_take) := goodIn_app (goodIn_of _ (by decide +kernel)) ggX3_readDigit_X3_take
theorem dX3_readDigit_0 : decode cX3_readDigit 0 = .ok (.aload_n 0, 1) := by decide +kernel
theorem dX3_readDigit_1 : decode cX3_readDigit 1 = .ok (.getfield 9, 3) := by decide +kernel
theorem dX3_readDigit_4 : decode cX3_readDigit 4 = .ok (.aload_n 0, 1) := by decide +kernel
theorem dX3_readDigit_5 : decode cX3_readDigit 5 = .ok (.getfield 40, 3) := by decide +kernel
theorem dX3_readDigit_8 : decode cX3_readDigit 8 = .ok (.caload, 1) := by decide +kernel
theorem dX3_readDigit_9 : decode cX3_readDigit 9 = .ok (.istore_n 3, 1) := by decide +kernel
theorem dX3_readDigit_10 : decode cX3_readDigit 10 = .ok (.iload_n 3, 1) := by decide +kernel
theorem dX3_readDigit_11 : decode cX3_readDigit 11 = .ok (.iload_n 1, 1) := by decide +kernel
theorem dX3_readDigit_12 : decode cX3_readDigit 12 = .ok (.if_icmp .lt 23, 3) := by decide +kernel
theorem dX3_readDigit_15 : decode cX3_readDigit 15 = .ok (.iload_n 3, 1) := by decide +kernel
theorem dX3_readDigit_16 : decode cX3_readDigit 16 = .ok (.iload_n 2, 1) := by decide +kernel
theorem dX3_readDigit_17 : decode cX3_readDigit 17 = .ok (.if_icmp .gt 18, 3) := by decide +kernel
theorem dX3_readDigit_20 : decode cX3_readDigit 20 = .ok (.aload_n 0, 1) := by decide +kernel
theorem dX3_readDigit_21 : decode cX3_readDigit 21 = .ok (.iload_n 3, 1) := by decide +kernel
theorem dX3_readDigit_22 : decode cX3_readDigit 22 = .ok (.bipush 48, 2) := by decide +kernel
theorem dX3_readDigit_24 : decode cX3_readDigit 24 = .ok (.isub, 1) := by decide +kernel
theorem dX3_readDigit_25 : decode cX3_readDigit 25 = .ok (.invokevirtual 90, 3) := by decide +kernel
theorem dX3_readDigit_28 : decode cX3_readDigit 28 = .ok (.ifCond .eq 7, 3) := by decide +kernel
theorem dX3_readDigit_31 : decode cX3_readDigit 31 = .ok (.iconst 1, 1) := by decide +kernel
theorem dX3_readDigit_32 : decode cX3_readDigit 32 = .ok (.goto 4, 3) := by decide +kernel
theorem dX3_readDigit_35 : decode cX3_readDigit 35 = .ok (.iconst 0, 1) := by decide +kernel
theorem dX3_readDigit_36 : decode cX3_readDigit 36 = .ok (.ireturn, 1) := by decide +kernel
set_option maxRecDepth 20000 in
theorem ggX3_readNumber_X3_skipSign : GoodIn wsX3_readNumber wsX3_skipSign := goodIn_r _ [8, 2, 15, 16, 17, 18, 19, 20] (by decide +kernel) (by decide +kernel)
set_option maxRecDepth 20000 in
theorem gX3_readNumber_X3_skipSign : GoodIn wsX3_readNumber (wsV RX3 43 RX3 yX3_skipSign wsX3_skipSign) := goodIn_app (goodIn_of _ (by decide +kernel)) ggX3_readNumber_X3_skipSign
set_option maxRecDepth 20000 in
theorem ggX3_readNumber_X3_take : GoodIn wsX3_readNumber wsX3_take := goodIn_r _ [12, 13, 14, 4, 5, 6, 7, 8, 2, 15, 16, 17, 18, 19, 20] (by decide +kernel) (by decide +kernel)
set_option maxRecDepth 20000 in
theorem gX3_readNumber_X3_take : GoodIn wsX3_readNumber (wsV RX3 90 RX3 yX3_take wsX3_take) := goodIn_app (goodIn_of _ (by decide +kernel)) ggX3_readNumber_X3_take
theorem dX3_readNumber_0 : decode cX3_readNumber 0 = .ok (.aload_n 0, 1) := by decide +kernel
theorem dX3_readNumber_1 : decode cX3_readNumber 1 = .ok (.getfield 9, 3) := by decide +kernel
theorem dX3_readNumber_4 : decode cX3_readNumber 4 = .ok (.aload_n 0, 1) := by decide +kernel
theorem dX3_readNumber_5 : decode cX3_readNumber 5 = .ok (.getfield 40, 3) := by decide +kernel
theorem dX3_readNumber_8 : decode cX3_readNumber 8 = .ok (.caload, 1) := by decide +kernel
theorem dX3_readNumber_9 : decode cX3_readNumber 9 = .ok (.istore_n 1, 1) := by decide +kernel
theorem dX3_readNumber_10 : decode cX3_readNumber 10 = .ok (.iload_n 1, 1) := by decide +kernel
theorem dX3_readNumber_11 : decode cX3_readNumber 11 = .ok (.bipush 48, 2) := by decide +kernel
theorem dX3_readNumber_13 : decode cX3_readNumber 13 = .ok (.if_icmp .lt 9, 3) := by decide +kernel
theorem dX3_readNumber_16 : decode cX3_readNumber 16 = .ok (.iload_n 1, 1) := by decide +kernel
theorem dX3_readNumber_17 : decode cX3_readNumber 17 = .ok (.bipush 57, 2) := by decide +kernel
theorem dX3_readNumber_19 : decode cX3_readNumber 19 = .ok (.if_icmp .le 5, 3) := by decide +kernel
theorem dX3_readNumber_22 : decode cX3_readNumber 22 = .ok (.iconst 0, 1) := by decide +kernel
theorem dX3_readNumber_23 : decode cX3_readNumber 23 = .ok (.ireturn, 1) := by decide +kernel
theorem dX3_readNumber_24 : decode cX3_readNumber 24 = .ok (.iload_n 1, 1) := by decide +kernel
theorem dX3_readNumber_25 : decode cX3_readNumber 25 = .ok (.bipush 48, 2) := by decide +kernel
theorem dX3_readNumber_27 : decode cX3_readNumber 27 = .ok (.isub, 1) := by decide +kernel
theorem dX3_readNumber_28 : decode cX3_readNumber 28 = .ok (.istore_n 2, 1) := by decide +kernel
theorem dX3_readNumber_29 : decode cX3_readNumber 29 = .ok (.iload_n 2, 1) := by decide +kernel
theorem dX3_readNumber_30 : decode cX3_readNumber 30 = .ok (.ifCond .le 70, 3) := by decide +kernel
theorem dX3_readNumber_33 : decode cX3_readNumber 33 = .ok (.aload_n 0, 1) := by decide +kernel
theorem dX3_readNumber_34 : decode cX3_readNumber 34 = .ok (.getfield 40, 3) := by decide +kernel
theorem dX3_readNumber_37 : decode cX3_readNumber 37 = .ok (.iconst 1, 1) := by decide +kernel
theorem dX3_readNumber_38 : decode cX3_readNumber 38 = .ok (.iadd, 1) := by decide +kernel
theorem dX3_readNumber_39 : decode cX3_readNumber 39 = .ok (.aload_n 0, 1) := by decide +kernel
theorem dX3_readNumber_40 : decode cX3_readNumber 40 = .ok (.getfield 23, 3) := by decide +kernel
theorem dX3_readNumber_43 : decode cX3_readNumber 43 = .ok (.if_icmp .ge 57, 3) := by decide +kernel
theorem dX3_readNumber_46 : decode cX3_readNumber 46 = .ok (.aload_n 0, 1) := by decide +kernel
theorem dX3_readNumber_47 : decode cX3_readNumber 47 = .ok (.getfield 9, 3) := by decide +kernel
theorem dX3_readNumber_50 : decode cX3_readNumber 50 = .ok (.aload_n 0, 1) := by decide +kernel
theorem dX3_readNumber_51 : decode cX3_readNumber 51 = .ok (.getfield 40, 3) := by decide +kernel
theorem dX3_readNumber_54 : decode cX3_readNumber 54 = .ok (.iconst 1, 1) := by decide +kernel
theorem dX3_readNumber_55 : decode cX3_readNumber 55 = .ok (.iadd, 1) := by decide +kernel
theorem dX3_readNumber_56 : decode cX3_readNumber 56 = .ok (.caload, 1) := by decide +kernel
theorem dX3_readNumber_57 : decode cX3_readNumber 57 = .ok (.bipush 48, 2) := by decide +kernel
theorem dX3_readNumber_59 : decode cX3_readNumber 59 = .ok (.if_icmp .lt 41, 3) := by decide +kernel
theorem dX3_readNumber_62 : decode cX3_readNumber 62 = .ok (.aload_n 0, 1) := by decide +kernel
theorem dX3_readNumber_63 : decode cX3_readNumber 63 = .ok (.getfield 9, 3) := by decide +kernel
theorem dX3_readNumber_66 : decode cX3_readNumber 66 = .ok (.aload_n 0, 1) := by decide +kernel
theorem dX3_readNumber_67 : decode cX3_readNumber 67 = .ok (.getfield 40, 3) := by decide +kernel
theorem dX3_readNumber_70 : decode cX3_readNumber 70 = .ok (.iconst 1, 1) := by decide +kernel
theorem dX3_readNumber_71 : decode cX3_readNumber 71 = .ok (.iadd, 1) := by decide +kernel
theorem dX3_readNumber_72 : decode cX3_readNumber 72 = .ok (.caload, 1) := by decide +kernel
theorem dX3_readNumber_73 : decode cX3_readNumber 73 = .ok (.bipush 57, 2) := by decide +kernel
theorem dX3_readNumber_75 : decode cX3_readNumber 75 = .ok (.if_icmp .gt 25, 3) := by decide +kernel
theorem dX3_readNumber_78 : decode cX3_readNumber 78 = .ok (.aload_n 0, 1) := by decide +kernel
theorem dX3_readNumber_79 : decode cX3_readNumber 79 = .ok (.invokevirtual 43, 3) := by decide +kernel
theorem dX3_readNumber_82 : decode cX3_readNumber 82 = .ok (.iload_n 2, 1) := by decide +kernel
theorem dX3_readNumber_83 : decode cX3_readNumber 83 = .ok (.bipush 10, 2) := by decide +kernel
theorem dX3_readNumber_85 : decode cX3_readNumber 85 = .ok (.imul, 1) := by decide +kernel
theorem dX3_readNumber_86 : decode cX3_readNumber 86 = .ok (.aload_n 0, 1) := by decide +kernel
theorem dX3_readNumber_87 : decode cX3_readNumber 87 = .ok (.getfield 9, 3) := by decide +kernel
theorem dX3_readNumber_90 : decode cX3_readNumber 90 = .ok (.aload_n 0, 1) := by decide +kernel
theorem dX3_readNumber_91 : decode cX3_readNumber 91 = .ok (.getfield 40, 3) := by decide +kernel
theorem dX3_readNumber_94 : decode cX3_readNumber 94 = .ok (.caload, 1) := by decide +kernel
theorem dX3_readNumber_95 : decode cX3_readNumber 95 = .ok (.bipush 48, 2) := by decide +kernel
theorem dX3_readNumber_97 : decode cX3_readNumber 97 = .ok (.isub, 1) := by decide +kernel
theorem dX3_readNumber_98 : decode cX3_readNumber 98 = .ok (.iadd, 1) := by decide +kernel
theorem dX3_readNumber_99 : decode cX3_readNumber 99 = .ok (.istore_n 2, 1) := by decide +kernel
theorem dX3_readNumber_100 : decode cX3_readNumber 100 = .ok (.aload_n 0, 1) := by decide +kernel
theorem dX3_readNumber_101 : decode cX3_readNumber 101 = .ok (.iload_n 2, 1) := by decide +kernel
theorem dX3_readNumber_102 : decode cX3_readNumber 102 = .ok (.invokevirtual 90, 3) := by decide +kernel
theorem dX3_readNumber_105 : decode cX3_readNumber 105 = .ok (.ireturn, 1) := by decide +kernel
set_option maxRecDepth 20000 in
theorem ggX3_take_X3_skipSign : GoodIn wsX3_take wsX3_skipSign := goodIn_r _ [7, 8, 9, 10, 11, 12, 13, 14] (by decide +kernel) (by decide +kernel)
set_option maxRecDepth 20000 in
theorem gX3_take_X3_skipSign : GoodIn wsX3_take (wsV RX3 43 RX3 yX3_skipSign wsX3_skipSign) := goodIn_app (goodIn_of _ (by decide +kernel)) ggX3_take_X3_skipSign
theorem dX3_take_0 : decode cX3_take 0 = .ok (.aload_n 0, 1) := by decide +kernel
theorem dX3_take_1 : decode cX3_take 1 = .ok (.getfield 59, 3) := by decide +kernel
theorem dX3_take_4 : decode cX3_take 4 = .ok (.aload_n 0, 1) := by decide +kernel
theorem dX3_take_5 : decode cX3_take 5 = .ok (.getfield 15, 3) := by decide +kernel
theorem dX3_take_8 : decode cX3_take 8 = .ok (.arraylength, 1) := by decide +kernel
theorem dX3_take_9 : decode cX3_take 9 = .ok (.if_icmp .ge 23, 3) := by decide +kernel
theorem dX3_take_12 : decode cX3_take 12 = .ok (.aload_n 0, 1) := by decide +kernel
theorem dX3_take_13 : decode cX3_take 13 = .ok (.getfield 15, 3) := by decide +kernel
theorem dX3_take_16 : decode cX3_take 16 = .ok (.aload_n 0, 1) := by decide +kernel
theorem dX3_take_17 : decode cX3_take 17 = .ok (.getfield 59, 3) := by decide +kernel
theorem dX3_take_20 : decode cX3_take 20 = .ok (.iload_n 1, 1) := by decide +kernel
theorem dX3_take_21 : decode cX3_take 21 = .ok (.iastore, 1) := by decide +kernel
theorem dX3_take_22 : decode cX3_take 22 = .ok (.aload_n 0, 1) := by decide +kernel
theorem dX3_take_23 : decode cX3_take 23 = .ok (.dup, 1) := by decide +kernel
theorem dX3_take_24 : decode cX3_take 24 = .ok (.getfield 59, 3) := by decide +kernel
theorem dX3_take_27 : decode cX3_take 27 = .ok (.iconst 1, 1) := by decide +kernel
theorem dX3_take_28 : decode cX3_take 28 = .ok (.iadd, 1) := by decide +kernel
theorem dX3_take_29 : decode cX3_take 29 = .ok (.putfield 59, 3) := by decide +kernel
theorem dX3_take_32 : decode cX3_take 32 = .ok (.aload_n 0, 1) := by decide +kernel
theorem dX3_take_33 : decode cX3_take 33 = .ok (.invokevirtual 43, 3) := by decide +kernel
theorem dX3_take_36 : decode cX3_take 36 = .ok (.iconst 1, 1) := by decide +kernel
theorem dX3_take_37 : decode cX3_take 37 = .ok (.ireturn, 1) := by decide +kernel
theorem dX4_init_0 : decode cX4_init 0 = .ok (.aload_n 0, 1) := by decide +kernel
theorem dX4_init_1 : decode cX4_init 1 = .ok (.invokespecial 3, 3) := by decide +kernel
theorem dX4_init_4 : decode cX4_init 4 = .ok (.aload_n 0, 1) := by decide +kernel
theorem dX4_init_5 : decode cX4_init 5 = .ok (.bipush 40, 2) := by decide +kernel
theorem dX4_init_7 : decode cX4_init 7 = .ok (.newarray .int, 2) := by decide +kernel
theorem dX4_init_9 : decode cX4_init 9 = .ok (.putfield 9, 3) := by decide +kernel
theorem dX4_init_12 : decode cX4_init 12 = .ok (.aload_n 0, 1) := by decide +kernel
theorem dX4_init_13 : decode cX4_init 13 = .ok (.bipush 40, 2) := by decide +kernel
theorem dX4_init_15 : decode cX4_init 15 = .ok (.newarray .int, 2) := by decide +kernel
theorem dX4_init_17 : decode cX4_init 17 = .ok (.putfield 15, 3) := by decide +kernel
theorem dX4_init_20 : decode cX4_init 20 = .ok (.aload_n 0, 1) := by decide +kernel
theorem dX4_init_21 : decode cX4_init 21 = .ok (.bipush 40, 2) := by decide +kernel
theorem dX4_init_23 : decode cX4_init 23 = .ok (.newarray .int, 2) := by decide +kernel
theorem dX4_init_25 : decode cX4_init 25 = .ok (.putfield 18, 3) := by decide +kernel
theorem dX4_init_28 : decode cX4_init 28 = .ok (.aload_n 0, 1) := by decide +kernel
theorem dX4_init_29 : decode cX4_init 29 = .ok (.bipush 40, 2) := by decide +kernel
theorem dX4_init_31 : decode cX4_init 31 = .ok (.newarray .int, 2) := by decide +kernel
theorem dX4_init_33 : decode cX4_init 33 = .ok (.putfield 21, 3) := by decide +kernel
theorem dX4_init_36 : decode cX4_init 36 = .ok (.aload_n 0, 1) := by decide +kernel
theorem dX4_init_37 : decode cX4_init 37 = .ok (.bipush 40, 2) := by decide +kernel
theorem dX4_init_39 : decode cX4_init 39 = .ok (.newarray .int, 2) := by decide +kernel
theorem dX4_init_41 : decode cX4_init 41 = .ok (.putfield 24, 3) := by decide +kernel
theorem dX4_init_44 : decode cX4_init 44 = .ok (.return_, 1) := by decide +kernel
theorem dX4_copyFrom_0 : decode cX4_copyFrom 0 = .ok (.aload_n 1, 1) := by decide +kernel
theorem dX4_copyFrom_1 : decode cX4_copyFrom 1 = .ok (.getfield 9, 3) := by decide +kernel
theorem dX4_copyFrom_4 : decode cX4_copyFrom 4 = .ok (.iconst 0, 1) := by decide +kernel
theorem dX4_copyFrom_5 : decode cX4_copyFrom 5 = .ok (.aload_n 0, 1) := by decide +kernel
theorem dX4_copyFrom_6 : decode cX4_copyFrom 6 = .ok (.getfield 9, 3) := by decide +kernel
theorem dX4_copyFrom_9 : decode cX4_copyFrom 9 = .ok (.iconst 0, 1) := by decide +kernel
theorem dX4_copyFrom_10 : decode cX4_copyFrom 10 = .ok (.bipush 40, 2) := by decide +kernel
theorem dX4_copyFrom_12 : decode cX4_copyFrom 12 = .ok (.invokestatic 27, 3) := by decide +kernel
theorem dX4_copyFrom_15 : decode cX4_copyFrom 15 = .ok (.aload_n 1, 1) := by decide +kernel
theorem dX4_copyFrom_16 : decode cX4_copyFrom 16 = .ok (.getfield 15, 3) := by decide +kernel
theorem dX4_copyFrom_19 : decode cX4_copyFrom 19 = .ok (.iconst 0, 1) := by decide +kernel
theorem dX4_copyFrom_20 : decode cX4_copyFrom 20 = .ok (.aload_n 0, 1) := by decide +kernel
theorem dX4_copyFrom_21 : decode cX4_copyFrom 21 = .ok (.getfield 15, 3) := by decide +kernel
theorem dX4_copyFrom_24 : decode cX4_copyFrom 24 = .ok (.iconst 0, 1) := by decide +kernel
theorem dX4_copyFrom_25 : decode cX4_copyFrom 25 = .ok (.bipush 40, 2) := by decide +kernel
theorem dX4_copyFrom_27 : decode cX4_copyFrom 27 = .ok (.invokestatic 27, 3) := by decide +kernel
theorem dX4_copyFrom_30 : decode cX4_copyFrom 30 = .ok (.aload_n 1, 1) := by decide +kernel
theorem dX4_copyFrom_31 : decode cX4_copyFrom 31 = .ok (.getfield 18, 3) := by decide +kernel
theorem dX4_copyFrom_34 : decode cX4_copyFrom 34 = .ok (.iconst 0, 1) := by decide +kernel
theorem dX4_copyFrom_35 : decode cX4_copyFrom 35 = .ok (.aload_n 0, 1) := by decide +kernel
theorem dX4_copyFrom_36 : decode cX4_copyFrom 36 = .ok (.getfield 18, 3) := by decide +kernel
theorem dX4_copyFrom_39 : decode cX4_copyFrom 39 = .ok (.iconst 0, 1) := by decide +kernel
theorem dX4_copyFrom_40 : decode cX4_copyFrom 40 = .ok (.bipush 40, 2) := by decide +kernel
theorem dX4_copyFrom_42 : decode cX4_copyFrom 42 = .ok (.invokestatic 27, 3) := by decide +kernel
theorem dX4_copyFrom_45 : decode cX4_copyFrom 45 = .ok (.aload_n 1, 1) := by decide +kernel
theorem dX4_copyFrom_46 : decode cX4_copyFrom 46 = .ok (.getfield 21, 3) := by decide +kernel
theorem dX4_copyFrom_49 : decode cX4_copyFrom 49 = .ok (.iconst 0, 1) := by decide +kernel
theorem dX4_copyFrom_50 : decode cX4_copyFrom 50 = .ok (.aload_n 0, 1) := by decide +kernel
theorem dX4_copyFrom_51 : decode cX4_copyFrom 51 = .ok (.getfield 21, 3) := by decide +kernel
theorem dX4_copyFrom_54 : decode cX4_copyFrom 54 = .ok (.iconst 0, 1) := by decide +kernel
theorem dX4_copyFrom_55 : decode cX4_copyFrom 55 = .ok (.bipush 40, 2) := by decide +kernel
theorem dX4_copyFrom_57 : decode cX4_copyFrom 57 = .ok (.invokestatic 27, 3) := by decide +kernel
theorem dX4_copyFrom_60 : decode cX4_copyFrom 60 = .ok (.aload_n 1, 1) := by decide +kernel
theorem dX4_copyFrom_61 : decode cX4_copyFrom 61 = .ok (.getfield 24, 3) := by decide +kernel
theorem dX4_copyFrom_64 : decode cX4_copyFrom 64 = .ok (.iconst 0, 1) := by decide +kernel
theorem dX4_copyFrom_65 : decode cX4_copyFrom 65 = .ok (.aload_n 0, 1) := by decide +kernel
theorem dX4_copyFrom_66 : decode cX4_copyFrom 66 = .ok (.getfield 24, 3) := by decide +kernel
theorem dX4_copyFrom_69 : decode cX4_copyFrom 69 = .ok (.iconst 0, 1) := by decide +kernel
theorem dX4_copyFrom_70 : decode cX4_copyFrom 70 = .ok (.bipush 40, 2) := by decide +kernel
theorem dX4_copyFrom_72 : decode cX4_copyFrom 72 = .ok (.invokestatic 27, 3) := by decide +kernel
theorem dX4_copyFrom_75 : decode cX4_copyFrom 75 = .ok (.aload_n 0, 1) := by decide +kernel
theorem dX4_copyFrom_76 : decode cX4_copyFrom 76 = .ok (.aload_n 1, 1) := by decide +kernel
theorem dX4_copyFrom_77 : decode cX4_copyFrom 77 = .ok (.getfield 33, 3) := by decide +kernel
theorem dX4_copyFrom_80 : decode cX4_copyFrom 80 = .ok (.putfield 33, 3) := by decide +kernel
theorem dX4_copyFrom_83 : decode cX4_copyFrom 83 = .ok (.aload_n 0, 1) := by decide +kernel
theorem dX4_copyFrom_84 : decode cX4_copyFrom 84 = .ok (.aload_n 1, 1) := by decide +kernel
theorem dX4_copyFrom_85 : decode cX4_copyFrom 85 = .ok (.getfield 37, 3) := by decide +kernel
theorem dX4_copyFrom_88 : decode cX4_copyFrom 88 = .ok (.putfield 37, 3) := by decide +kernel
theorem dX4_copyFrom_91 : decode cX4_copyFrom 91 = .ok (.aload_n 0, 1) := by decide +kernel
theorem dX4_copyFrom_92 : decode cX4_copyFrom 92 = .ok (.aload_n 1, 1) := by decide +kernel
theorem dX4_copyFrom_93 : decode cX4_copyFrom 93 = .ok (.getfield 40, 3) := by decide +kernel
theorem dX4_copyFrom_96 : decode cX4_copyFrom 96 = .ok (.putfield 40, 3) := by decide +kernel
theorem dX4_copyFrom_99 : decode cX4_copyFrom 99 = .ok (.return_, 1) := by decide +kernel
theorem dX4_has_0 : decode cX4_has 0 = .ok (.iload_n 1, 1) := by decide +kernel
theorem dX4_has_1 : decode cX4_has 1 = .ok (.ifCond .lt 15, 3) := by decide +kernel
theorem dX4_has_4 : decode cX4_has 4 = .ok (.iload_n 1, 1) := by decide +kernel
theorem dX4_has_5 : decode cX4_has 5 = .ok (.aload_n 0, 1) := by decide +kernel
theorem dX4_has_6 : decode cX4_has 6 = .ok (.getfield 40, 3) := by decide +kernel
theorem dX4_has_9 : decode cX4_has 9 = .ok (.if_icmp .ge 7, 3) := by decide +kernel
theorem dX4_has_12 : decode cX4_has 12 = .ok (.iconst 1, 1) := by decide +kernel
theorem dX4_has_13 : decode cX4_has 13 = .ok (.goto 4, 3) := by decide +kernel
theorem dX4_has_16 : decode cX4_has 16 = .ok (.iconst 0, 1) := by decide +kernel
theorem dX4_has_17 : decode cX4_has 17 = .ok (.ireturn, 1) := by decide +kernel
theorem dX4_areFull_0 : decode cX4_areFull 0 = .ok (.aload_n 0, 1) := by decide +kernel
theorem dX4_areFull_1 : decode cX4_areFull 1 = .ok (.getfield 40, 3) := by decide +kernel
theorem dX4_areFull_4 : decode cX4_areFull 4 = .ok (.bipush 40, 2) := by decide +kernel
theorem dX4_areFull_6 : decode cX4_areFull 6 = .ok (.if_icmp .lt 7, 3) := by decide +kernel
theorem dX4_areFull_9 : decode cX4_areFull 9 = .ok (.iconst 1, 1) := by decide +kernel
theorem dX4_areFull_10 : decode cX4_areFull 10 = .ok (.goto 4, 3) := by decide +kernel
theorem dX4_areFull_13 : decode cX4_areFull 13 = .ok (.iconst 0, 1) := by decide +kernel
theorem dX4_areFull_14 : decode cX4_areFull 14 = .ok (.ireturn, 1) := by decide +kernel
set_option maxRecDepth 20000 in
theorem ggX4_add_X4_areFull : GoodIn wsX4_add wsX4_areFull := goodIn_r _ [12, 1, 13, 14, 15, 16, 17, 18, 19, 20] (by decide +kernel) (by decide +kernel)
set_option maxRecDepth 20000 in
theorem gX4_add_X4_areFull : GoodIn wsX4_add (wsV RX4 44 RX4 yX4_areFull wsX4_areFull) := goodIn_app (goodIn_of _ (by decide +kernel)) ggX4_add_X4_areFull
theorem dX4_add_0 : decode cX4_add 0 = .ok (.aload_n 0, 1) := by decide +kernel
theorem dX4_add_1 : decode cX4_add 1 = .ok (.invokevirtual 44, 3) := by decide +kernel
theorem dX4_add_4 : decode cX4_add 4 = .ok (.ifCond .eq 6, 3) := by decide +kernel
theorem dX4_add_7 : decode cX4_add 7 = .ok (.bipush (-4), 2) := by decide +kernel
theorem dX4_add_9 : decode cX4_add 9 = .ok (.ireturn, 1) := by decide +kernel
theorem dX4_add_10 : decode cX4_add 10 = .ok (.aload_n 0, 1) := by decide +kernel
theorem dX4_add_11 : decode cX4_add 11 = .ok (.getfield 40, 3) := by decide +kernel
theorem dX4_add_14 : decode cX4_add 14 = .ok (.istore 7, 2) := by decide +kernel
theorem dX4_add_16 : decode cX4_add 16 = .ok (.aload_n 0, 1) := by decide +kernel
theorem dX4_add_17 : decode cX4_add 17 = .ok (.getfield 15, 3) := by decide +kernel
theorem dX4_add_20 : decode cX4_add 20 = .ok (.iload 7, 2) := by decide +kernel
theorem dX4_add_22 : decode cX4_add 22 = .ok (.iload_n 1, 1) := by decide +kernel
theorem dX4_add_23 : decode cX4_add 23 = .ok (.iastore, 1) := by decide +kernel
theorem dX4_add_24 : decode cX4_add 24 = .ok (.aload_n 0, 1) := by decide +kernel
theorem dX4_add_25 : decode cX4_add 25 = .ok (.getfield 18, 3) := by decide +kernel
theorem dX4_add_28 : decode cX4_add 28 = .ok (.iload 7, 2) := by decide +kernel
theorem dX4_add_30 : decode cX4_add 30 = .ok (.iload_n 2, 1) := by decide +kernel
theorem dX4_add_31 : decode cX4_add 31 = .ok (.iastore, 1) := by decide +kernel
theorem dX4_add_32 : decode cX4_add 32 = .ok (.aload_n 0, 1) := by decide +kernel
theorem dX4_add_33 : decode cX4_add 33 = .ok (.getfield 9, 3) := by decide +kernel
theorem dX4_add_36 : decode cX4_add 36 = .ok (.iload 7, 2) := by decide +kernel
theorem dX4_add_38 : decode cX4_add 38 = .ok (.iload_n 3, 1) := by decide +kernel
theorem dX4_add_39 : decode cX4_add 39 = .ok (.iastore, 1) := by decide +kernel
theorem dX4_add_40 : decode cX4_add 40 = .ok (.aload_n 0, 1) := by decide +kernel
theorem dX4_add_41 : decode cX4_add 41 = .ok (.getfield 21, 3) := by decide +kernel
theorem dX4_add_44 : decode cX4_add 44 = .ok (.iload 7, 2) := by decide +kernel
theorem dX4_add_46 : decode cX4_add 46 = .ok (.iload 4, 2) := by decide +kernel
theorem dX4_add_48 : decode cX4_add 48 = .ok (.iastore, 1) := by decide +kernel
theorem dX4_add_49 : decode cX4_add 49 = .ok (.aload_n 0, 1) := by decide +kernel
theorem dX4_add_50 : decode cX4_add 50 = .ok (.getfield 24, 3) := by decide +kernel
theorem dX4_add_53 : decode cX4_add 53 = .ok (.iload 7, 2) := by decide +kernel
theorem dX4_add_55 : decode cX4_add 55 = .ok (.iload 5, 2) := by decide +kernel
theorem dX4_add_57 : decode cX4_add 57 = .ok (.iastore, 1) := by decide +kernel
theorem dX4_add_58 : decode cX4_add 58 = .ok (.iload 6, 2) := by decide +kernel
theorem dX4_add_60 : decode cX4_add 60 = .ok (.ifCond .eq 16, 3) := by decide +kernel
theorem dX4_add_63 : decode cX4_add 63 = .ok (.aload_n 0, 1) := by decide +kernel
theorem dX4_add_64 : decode cX4_add 64 = .ok (.dup, 1) := by decide +kernel
theorem dX4_add_65 : decode cX4_add 65 = .ok (.getfield 33, 3) := by decide +kernel
theorem dX4_add_68 : decode cX4_add 68 = .ok (.lconst 1, 1) := by decide +kernel
theorem dX4_add_69 : decode cX4_add 69 = .ok (.iload 7, 2) := by decide +kernel
theorem dX4_add_71 : decode cX4_add 71 = .ok (.lshl, 1) := by decide +kernel
theorem dX4_add_72 : decode cX4_add 72 = .ok (.lor, 1) := by decide +kernel
theorem dX4_add_73 : decode cX4_add 73 = .ok (.putfield 33, 3) := by decide +kernel
theorem dX4_add_76 : decode cX4_add 76 = .ok (.aload_n 0, 1) := by decide +kernel
theorem dX4_add_77 : decode cX4_add 77 = .ok (.dup, 1) := by decide +kernel
theorem dX4_add_78 : decode cX4_add 78 = .ok (.getfield 40, 3) := by decide +kernel
theorem dX4_add_81 : decode cX4_add 81 = .ok (.iconst 1, 1) := by decide +kernel
theorem dX4_add_82 : decode cX4_add 82 = .ok (.iadd, 1) := by decide +kernel
theorem dX4_add_83 : decode cX4_add 83 = .ok (.putfield 40, 3) := by decide +kernel
theorem dX4_add_86 : decode cX4_add 86 = .ok (.iload 7, 2) := by decide +kernel
theorem dX4_add_88 : decode cX4_add 88 = .ok (.ireturn, 1) := by decide +kernel
set_option maxRecDepth 20000 in
theorem ggX4_chainLength_X4_has : GoodIn wsX4_chainLength wsX4_has := goodIn_r _ [6, 7, 8, 9, 10, 11, 12, 13, 14, 15] (by decide +kernel) (by decide +kernel)
set_option maxRecDepth 20000 in
theorem gX4_chainLength_X4_has : GoodIn wsX4_chainLength (wsV RX4 48 RX4 yX4_has wsX4_has) := goodIn_app (goodIn_of _ (by decide +kernel)) ggX4_chainLength_X4_has
theorem dX4_chainLength_0 : decode cX4_chainLength 0 = .ok (.iconst 0, 1) := by decide +kernel
theorem dX4_chainLength_1 : decode cX4_chainLength 1 = .ok (.istore_n 2, 1) := by decide +kernel
theorem dX4_chainLength_2 : decode cX4_chainLength 2 = .ok (.iload_n 1, 1) := by decide +kernel
theorem dX4_chainLength_3 : decode cX4_chainLength 3 = .ok (.istore_n 3, 1) := by decide +kernel
theorem dX4_chainLength_4 : decode cX4_chainLength 4 = .ok (.iload_n 2, 1) := by decide +kernel
theorem dX4_chainLength_5 : decode cX4_chainLength 5 = .ok (.bipush 40, 2) := by decide +kernel
theorem dX4_chainLength_7 : decode cX4_chainLength 7 = .ok (.if_icmp .ge 24, 3) := by decide +kernel
theorem dX4_chainLength_10 : decode cX4_chainLength 10 = .ok (.aload_n 0, 1) := by decide +kernel
theorem dX4_chainLength_11 : decode cX4_chainLength 11 = .ok (.iload_n 3, 1) := by decide +kernel
theorem dX4_chainLength_12 : decode cX4_chainLength 12 = .ok (.invokevirtual 48, 3) := by decide +kernel
theorem dX4_chainLength_15 : decode cX4_chainLength 15 = .ok (.ifCond .eq 16, 3) := by decide +kernel
theorem dX4_chainLength_18 : decode cX4_chainLength 18 = .ok (.iinc 2 1, 3) := by decide +kernel
theorem dX4_chainLength_21 : decode cX4_chainLength 21 = .ok (.aload_n 0, 1) := by decide +kernel
theorem dX4_chainLength_22 : decode cX4_chainLength 22 = .ok (.getfield 24, 3) := by decide +kernel
theorem dX4_chainLength_25 : decode cX4_chainLength 25 = .ok (.iload_n 3, 1) := by decide +kernel
theorem dX4_chainLength_26 : decode cX4_chainLength 26 = .ok (.iaload, 1) := by decide +kernel
theorem dX4_chainLength_27 : decode cX4_chainLength 27 = .ok (.istore_n 3, 1) := by decide +kernel
theorem dX4_chainLength_28 : decode cX4_chainLength 28 = .ok (.goto (-24), 3) := by decide +kernel
theorem dX4_chainLength_31 : decode cX4_chainLength 31 = .ok (.iload_n 2, 1) := by decide +kernel
theorem dX4_chainLength_32 : decode cX4_chainLength 32 = .ok (.ireturn, 1) := by decide +kernel
set_option maxRecDepth 20000 in
theorem ggX4_countBelow_X4_has : GoodIn wsX4_countBelow wsX4_has := goodIn_r _ [7, 1, 18, 19, 20, 21, 22, 23, 24, 25] (by decide +kernel) (by decide +kernel)
set_option maxRecDepth 20000 in
theorem gX4_countBelow_X4_has : GoodIn wsX4_countBelow (wsV RX4 48 RX4 yX4_has wsX4_has) := goodIn_app (goodIn_of _ (by decide +kernel)) ggX4_countBelow_X4_has
set_option maxRecDepth 20000 in
theorem ggX4_countBelow_X6_isIn : GoodIn wsX4_countBelow wsX6_isIn := goodIn_r _ [10] (by decide +kernel) (by decide +kernel)
set_option maxRecDepth 20000 in
theorem gX4_countBelow_X6_isIn_n52 : GoodIn wsX4_countBelow (wsX6_isIn) := ggX4_countBelow_X6_isIn
set_option maxRecDepth 20000 in
theorem ggX4_countBelow_J13_bitCount_95d88 : GoodIn wsX4_countBelow wsJ13_bitCount_95d88 := goodIn_r _ [14, 15, 16, 17] (by decide +kernel) (by decide +kernel)
set_option maxRecDepth 20000 in
theorem gX4_countBelow_J13_bitCount_95d88 : GoodIn wsX4_countBelow (va_wsS RX4 56 yJ13_bitCount_95d88 wsJ13_bitCount_95d88) := goodIn_app (goodIn_of _ (by decide +kernel)) ggX4_countBelow_J13_bitCount_95d88
theorem dX4_countBelow_0 : decode cX4_countBelow 0 = .ok (.lconst 1, 1) := by decide +kernel
theorem dX4_countBelow_1 : decode cX4_countBelow 1 = .ok (.iload_n 1, 1) := by decide +kernel
theorem dX4_countBelow_2 : decode cX4_countBelow 2 = .ok (.lshl, 1) := by decide +kernel
theorem dX4_countBelow_3 : decode cX4_countBelow 3 = .ok (.lstore_n 2, 1) := by decide +kernel
theorem dX4_countBelow_4 : decode cX4_countBelow 4 = .ok (.iload_n 1, 1) := by decide +kernel
theorem dX4_countBelow_5 : decode cX4_countBelow 5 = .ok (.iconst 1, 1) := by decide +kernel
theorem dX4_countBelow_6 : decode cX4_countBelow 6 = .ok (.iadd, 1) := by decide +kernel
theorem dX4_countBelow_7 : decode cX4_countBelow 7 = .ok (.istore 4, 2) := by decide +kernel
theorem dX4_countBelow_9 : decode cX4_countBelow 9 = .ok (.iload 4, 2) := by decide +kernel
theorem dX4_countBelow_11 : decode cX4_countBelow 11 = .ok (.aload_n 0, 1) := by decide +kernel
theorem dX4_countBelow_12 : decode cX4_countBelow 12 = .ok (.getfield 40, 3) := by decide +kernel
theorem dX4_countBelow_15 : decode cX4_countBelow 15 = .ok (.if_icmp .ge 44, 3) := by decide +kernel
theorem dX4_countBelow_18 : decode cX4_countBelow 18 = .ok (.aload_n 0, 1) := by decide +kernel
theorem dX4_countBelow_19 : decode cX4_countBelow 19 = .ok (.aload_n 0, 1) := by decide +kernel
theorem dX4_countBelow_20 : decode cX4_countBelow 20 = .ok (.getfield 24, 3) := by decide +kernel
theorem dX4_countBelow_23 : decode cX4_countBelow 23 = .ok (.iload 4, 2) := by decide +kernel
theorem dX4_countBelow_25 : decode cX4_countBelow 25 = .ok (.iaload, 1) := by decide +kernel
theorem dX4_countBelow_26 : decode cX4_countBelow 26 = .ok (.invokevirtual 48, 3) := by decide +kernel
theorem dX4_countBelow_29 : decode cX4_countBelow 29 = .ok (.ifCond .eq 24, 3) := by decide +kernel
theorem dX4_countBelow_32 : decode cX4_countBelow 32 = .ok (.lload_n 2, 1) := by decide +kernel
theorem dX4_countBelow_33 : decode cX4_countBelow 33 = .ok (.aload_n 0, 1) := by decide +kernel
theorem dX4_countBelow_34 : decode cX4_countBelow 34 = .ok (.getfield 24, 3) := by decide +kernel
theorem dX4_countBelow_37 : decode cX4_countBelow 37 = .ok (.iload 4, 2) := by decide +kernel
theorem dX4_countBelow_39 : decode cX4_countBelow 39 = .ok (.iaload, 1) := by decide +kernel
theorem dX4_countBelow_40 : decode cX4_countBelow 40 = .ok (.invokestatic 52, 3) := by decide +kernel
theorem dX4_countBelow_43 : decode cX4_countBelow 43 = .ok (.ifCond .eq 10, 3) := by decide +kernel
theorem dX4_countBelow_46 : decode cX4_countBelow 46 = .ok (.lload_n 2, 1) := by decide +kernel
theorem dX4_countBelow_47 : decode cX4_countBelow 47 = .ok (.lconst 1, 1) := by decide +kernel
theorem dX4_countBelow_48 : decode cX4_countBelow 48 = .ok (.iload 4, 2) := by decide +kernel
theorem dX4_countBelow_50 : decode cX4_countBelow 50 = .ok (.lshl, 1) := by decide +kernel
theorem dX4_countBelow_51 : decode cX4_countBelow 51 = .ok (.lor, 1) := by decide +kernel
theorem dX4_countBelow_52 : decode cX4_countBelow 52 = .ok (.lstore_n 2, 1) := by decide +kernel
theorem dX4_countBelow_53 : decode cX4_countBelow 53 = .ok (.iinc 4 1, 3) := by decide +kernel
theorem dX4_countBelow_56 : decode cX4_countBelow 56 = .ok (.goto (-47), 3) := by decide +kernel
theorem dX4_countBelow_59 : decode cX4_countBelow 59 = .ok (.lload_n 2, 1) := by decide +kernel
theorem dX4_countBelow_60 : decode cX4_countBelow 60 = .ok (.invokestatic 56, 3) := by decide +kernel
theorem dX4_countBelow_63 : decode cX4_countBelow 63 = .ok (.iconst 1, 1) := by decide +kernel
theorem dX4_countBelow_64 : decode cX4_countBelow 64 = .ok (.isub, 1) := by decide +kernel
theorem dX4_countBelow_65 : decode cX4_countBelow 65 = .ok (.ireturn, 1) := by decide +kernel
theorem dX4_ofOnePage_0 : decode cX4_ofOnePage 0 = .ok (.lconst 0, 1) := by decide +kernel
theorem dX4_ofOnePage_1 : decode cX4_ofOnePage 1 = .ok (.lstore_n 2, 1) := by decide +kernel
theorem dX4_ofOnePage_2 : decode cX4_ofOnePage 2 = .ok (.iconst 0, 1) := by decide +kernel
theorem dX4_ofOnePage_3 : decode cX4_ofOnePage 3 = .ok (.istore 4, 2) := by decide +kernel
theorem dX4_ofOnePage_5 : decode cX4_ofOnePage 5 = .ok (.iload 4, 2) := by decide +kernel
theorem dX4_ofOnePage_7 : decode cX4_ofOnePage 7 = .ok (.aload_n 0, 1) := by decide +kernel
theorem dX4_ofOnePage_8 : decode cX4_ofOnePage 8 = .ok (.getfield 40, 3) := by decide +kernel
theorem dX4_ofOnePage_11 : decode cX4_ofOnePage 11 = .ok (.if_icmp .ge 27, 3) := by decide +kernel
theorem dX4_ofOnePage_14 : decode cX4_ofOnePage 14 = .ok (.aload_n 0, 1) := by decide +kernel
theorem dX4_ofOnePage_15 : decode cX4_ofOnePage 15 = .ok (.getfield 9, 3) := by decide +kernel
theorem dX4_ofOnePage_18 : decode cX4_ofOnePage 18 = .ok (.iload 4, 2) := by decide +kernel
theorem dX4_ofOnePage_20 : decode cX4_ofOnePage 20 = .ok (.iaload, 1) := by decide +kernel
theorem dX4_ofOnePage_21 : decode cX4_ofOnePage 21 = .ok (.iload_n 1, 1) := by decide +kernel
theorem dX4_ofOnePage_22 : decode cX4_ofOnePage 22 = .ok (.if_icmp .ne 10, 3) := by decide +kernel
theorem dX4_ofOnePage_25 : decode cX4_ofOnePage 25 = .ok (.lload_n 2, 1) := by decide +kernel
theorem dX4_ofOnePage_26 : decode cX4_ofOnePage 26 = .ok (.lconst 1, 1) := by decide +kernel
theorem dX4_ofOnePage_27 : decode cX4_ofOnePage 27 = .ok (.iload 4, 2) := by decide +kernel
theorem dX4_ofOnePage_29 : decode cX4_ofOnePage 29 = .ok (.lshl, 1) := by decide +kernel
theorem dX4_ofOnePage_30 : decode cX4_ofOnePage 30 = .ok (.lor, 1) := by decide +kernel
theorem dX4_ofOnePage_31 : decode cX4_ofOnePage 31 = .ok (.lstore_n 2, 1) := by decide +kernel
theorem dX4_ofOnePage_32 : decode cX4_ofOnePage 32 = .ok (.iinc 4 1, 3) := by decide +kernel
theorem dX4_ofOnePage_35 : decode cX4_ofOnePage 35 = .ok (.goto (-30), 3) := by decide +kernel
theorem dX4_ofOnePage_38 : decode cX4_ofOnePage 38 = .ok (.lload_n 2, 1) := by decide +kernel
theorem dX4_ofOnePage_39 : decode cX4_ofOnePage 39 = .ok (.lreturn, 1) := by decide +kernel
theorem dX5_init_0 : decode cX5_init 0 = .ok (.aload_n 0, 1) := by decide +kernel
theorem dX5_init_1 : decode cX5_init 1 = .ok (.invokespecial 3, 3) := by decide +kernel
theorem dX5_init_4 : decode cX5_init 4 = .ok (.return_, 1) := by decide +kernel
set_option maxRecDepth 20000 in
theorem ggX5_go_X2_ledBy : GoodIn wsX5_go wsX2_ledBy := goodIn_r _ [9, 10, 11, 12, 13, 46, 47, 48, 49, 50, 51, 52, 53, 54, 55] (by decide +kernel) (by decide +kernel)
set_option maxRecDepth 20000 in
theorem gX5_go_X2_ledBy : GoodIn wsX5_go (wsV RX5 9 RX2 yX2_ledBy wsX2_ledBy) := goodIn_app (goodIn_of _ (by decide +kernel)) ggX5_go_X2_ledBy
set_option maxRecDepth 20000 in
theorem ggX5_go_X4_has : GoodIn wsX5_go wsX4_has := goodIn_r _ [18, 19, 56, 57, 58, 59, 60, 61, 62, 63] (by decide +kernel) (by decide +kernel)
set_option maxRecDepth 20000 in
theorem gX5_go_X4_has : GoodIn wsX5_go (wsV RX5 25 RX4 yX4_has wsX4_has) := goodIn_app (goodIn_of _ (by decide +kernel)) ggX5_go_X4_has
set_option maxRecDepth 20000 in
theorem ggX5_go_X5_reasonAt : GoodIn wsX5_go wsX5_reasonAt := goodIn_r _ [23, 2, 24, 25, 26, 27, 28, 12, 29, 30, 31, 32, 8, 33, 34, 35, 36, 37, 38, 39, 40, 41, 15, 16, 17, 18, 19, 42, 43, 46, 47, 48, 49, 50, 51, 52, 53, 54, 55, 56, 57, 58, 59, 60, 61, 62, 63] (by decide +kernel) (by decide +kernel)
set_option maxRecDepth 20000 in
theorem gX5_go_X5_reasonAt : GoodIn wsX5_go (va_wsS RX5 34 yX5_reasonAt wsX5_reasonAt) := goodIn_app (goodIn_of _ (by decide +kernel)) ggX5_go_X5_reasonAt
theorem dX5_go_0 : decode cX5_go 0 = .ok (.aload_n 1, 1) := by decide +kernel
theorem dX5_go_1 : decode cX5_go 1 = .ok (.iload_n 2, 1) := by decide +kernel
theorem dX5_go_2 : decode cX5_go 2 = .ok (.iload_n 3, 1) := by decide +kernel
theorem dX5_go_3 : decode cX5_go 3 = .ok (.invokevirtual 9, 3) := by decide +kernel
theorem dX5_go_6 : decode cX5_go 6 = .ok (.istore 5, 2) := by decide +kernel
theorem dX5_go_8 : decode cX5_go 8 = .ok (.iload 5, 2) := by decide +kernel
theorem dX5_go_10 : decode cX5_go 10 = .ok (.istore 6, 2) := by decide +kernel
theorem dX5_go_12 : decode cX5_go 12 = .ok (.aload_n 0, 1) := by decide +kernel
theorem dX5_go_13 : decode cX5_go 13 = .ok (.iconst 0, 1) := by decide +kernel
theorem dX5_go_14 : decode cX5_go 14 = .ok (.putfield 15, 3) := by decide +kernel
theorem dX5_go_17 : decode cX5_go 17 = .ok (.aload_n 0, 1) := by decide +kernel
theorem dX5_go_18 : decode cX5_go 18 = .ok (.aload_n 1, 1) := by decide +kernel
theorem dX5_go_19 : decode cX5_go 19 = .ok (.getfield 21, 3) := by decide +kernel
theorem dX5_go_22 : decode cX5_go 22 = .ok (.iload 5, 2) := by decide +kernel
theorem dX5_go_24 : decode cX5_go 24 = .ok (.invokevirtual 25, 3) := by decide +kernel
theorem dX5_go_27 : decode cX5_go 27 = .ok (.ifCond .eq 7, 3) := by decide +kernel
theorem dX5_go_30 : decode cX5_go 30 = .ok (.iconst 0, 1) := by decide +kernel
theorem dX5_go_31 : decode cX5_go 31 = .ok (.goto 4, 3) := by decide +kernel
theorem dX5_go_34 : decode cX5_go 34 = .ok (.iconst 1, 1) := by decide +kernel
theorem dX5_go_35 : decode cX5_go 35 = .ok (.putfield 31, 3) := by decide +kernel
theorem dX5_go_38 : decode cX5_go 38 = .ok (.aload_n 0, 1) := by decide +kernel
theorem dX5_go_39 : decode cX5_go 39 = .ok (.getfield 31, 3) := by decide +kernel
theorem dX5_go_42 : decode cX5_go 42 = .ok (.ifCond .ne 74, 3) := by decide +kernel
theorem dX5_go_45 : decode cX5_go 45 = .ok (.aload_n 0, 1) := by decide +kernel
theorem dX5_go_46 : decode cX5_go 46 = .ok (.getfield 15, 3) := by decide +kernel
theorem dX5_go_49 : decode cX5_go 49 = .ok (.bipush 40, 2) := by decide +kernel
theorem dX5_go_51 : decode cX5_go 51 = .ok (.if_icmp .ge 65, 3) := by decide +kernel
theorem dX5_go_54 : decode cX5_go 54 = .ok (.aload_n 1, 1) := by decide +kernel
theorem dX5_go_55 : decode cX5_go 55 = .ok (.getfield 21, 3) := by decide +kernel
theorem dX5_go_58 : decode cX5_go 58 = .ok (.iload 6, 2) := by decide +kernel
theorem dX5_go_60 : decode cX5_go 60 = .ok (.invokevirtual 25, 3) := by decide +kernel
theorem dX5_go_63 : decode cX5_go 63 = .ok (.ifCond .eq 53, 3) := by decide +kernel
theorem dX5_go_66 : decode cX5_go 66 = .ok (.aload_n 0, 1) := by decide +kernel
theorem dX5_go_67 : decode cX5_go 67 = .ok (.dup, 1) := by decide +kernel
theorem dX5_go_68 : decode cX5_go 68 = .ok (.getfield 15, 3) := by decide +kernel
theorem dX5_go_71 : decode cX5_go 71 = .ok (.iconst 1, 1) := by decide +kernel
theorem dX5_go_72 : decode cX5_go 72 = .ok (.iadd, 1) := by decide +kernel
theorem dX5_go_73 : decode cX5_go 73 = .ok (.putfield 15, 3) := by decide +kernel
theorem dX5_go_76 : decode cX5_go 76 = .ok (.aload_n 0, 1) := by decide +kernel
theorem dX5_go_77 : decode cX5_go 77 = .ok (.aload_n 1, 1) := by decide +kernel
theorem dX5_go_78 : decode cX5_go 78 = .ok (.iload 6, 2) := by decide +kernel
theorem dX5_go_80 : decode cX5_go 80 = .ok (.iload 6, 2) := by decide +kernel
theorem dX5_go_82 : decode cX5_go 82 = .ok (.iload 5, 2) := by decide +kernel
theorem dX5_go_84 : decode cX5_go 84 = .ok (.if_icmp .ne 7, 3) := by decide +kernel
theorem dX5_go_87 : decode cX5_go 87 = .ok (.iconst 1, 1) := by decide +kernel
theorem dX5_go_88 : decode cX5_go 88 = .ok (.goto 4, 3) := by decide +kernel
theorem dX5_go_91 : decode cX5_go 91 = .ok (.iconst 0, 1) := by decide +kernel
theorem dX5_go_92 : decode cX5_go 92 = .ok (.iload_n 2, 1) := by decide +kernel
theorem dX5_go_93 : decode cX5_go 93 = .ok (.iload 4, 2) := by decide +kernel
theorem dX5_go_95 : decode cX5_go 95 = .ok (.invokestatic 34, 3) := by decide +kernel
theorem dX5_go_98 : decode cX5_go 98 = .ok (.putfield 31, 3) := by decide +kernel
theorem dX5_go_101 : decode cX5_go 101 = .ok (.aload_n 1, 1) := by decide +kernel
theorem dX5_go_102 : decode cX5_go 102 = .ok (.getfield 21, 3) := by decide +kernel
theorem dX5_go_105 : decode cX5_go 105 = .ok (.getfield 38, 3) := by decide +kernel
theorem dX5_go_108 : decode cX5_go 108 = .ok (.iload 6, 2) := by decide +kernel
theorem dX5_go_110 : decode cX5_go 110 = .ok (.iaload, 1) := by decide +kernel
theorem dX5_go_111 : decode cX5_go 111 = .ok (.istore 6, 2) := by decide +kernel
theorem dX5_go_113 : decode cX5_go 113 = .ok (.goto (-75), 3) := by decide +kernel
theorem dX5_go_116 : decode cX5_go 116 = .ok (.return_, 1) := by decide +kernel
set_option maxRecDepth 20000 in
theorem ggX5_reasonAt_X6_isIn : GoodIn wsX5_reasonAt wsX6_isIn := goodIn_r _ [8] (by decide +kernel) (by decide +kernel)
set_option maxRecDepth 20000 in
theorem gX5_reasonAt_X6_isIn_n49 : GoodIn wsX5_reasonAt (wsX6_isIn) := ggX5_reasonAt_X6_isIn
set_option maxRecDepth 20000 in
theorem ggX5_reasonAt_X2_isBacked : GoodIn wsX5_reasonAt wsX2_isBacked := goodIn_r _ [13, 14, 15, 16, 17, 18, 19, 20, 21, 22, 23, 24, 25, 26, 27, 7, 28, 29, 30, 31, 32, 33, 34, 35, 36, 37, 38, 39, 40, 41, 42, 43, 44, 45, 46] (by decide +kernel) (by decide +kernel)
set_option maxRecDepth 20000 in
theorem gX5_reasonAt_X2_isBacked : GoodIn wsX5_reasonAt (wsV RX5 59 RX2 yX2_isBacked wsX2_isBacked) := goodIn_app (goodIn_of _ (by decide +kernel)) ggX5_reasonAt_X2_isBacked
theorem dX5_reasonAt_0 : decode cX5_reasonAt 0 = .ok (.aload_n 0, 1) := by decide +kernel
theorem dX5_reasonAt_1 : decode cX5_reasonAt 1 = .ok (.getfield 21, 3) := by decide +kernel
theorem dX5_reasonAt_4 : decode cX5_reasonAt 4 = .ok (.astore 5, 2) := by decide +kernel
theorem dX5_reasonAt_6 : decode cX5_reasonAt 6 = .ok (.iload_n 2, 1) := by decide +kernel
theorem dX5_reasonAt_7 : decode cX5_reasonAt 7 = .ok (.ifCond .eq 16, 3) := by decide +kernel
theorem dX5_reasonAt_10 : decode cX5_reasonAt 10 = .ok (.aload 5, 2) := by decide +kernel
theorem dX5_reasonAt_12 : decode cX5_reasonAt 12 = .ok (.getfield 42, 3) := by decide +kernel
theorem dX5_reasonAt_15 : decode cX5_reasonAt 15 = .ok (.iload_n 1, 1) := by decide +kernel
theorem dX5_reasonAt_16 : decode cX5_reasonAt 16 = .ok (.iaload, 1) := by decide +kernel
theorem dX5_reasonAt_17 : decode cX5_reasonAt 17 = .ok (.iload_n 3, 1) := by decide +kernel
theorem dX5_reasonAt_18 : decode cX5_reasonAt 18 = .ok (.if_icmp .eq 5, 3) := by decide +kernel
theorem dX5_reasonAt_21 : decode cX5_reasonAt 21 = .ok (.iconst 2, 1) := by decide +kernel
theorem dX5_reasonAt_22 : decode cX5_reasonAt 22 = .ok (.ireturn, 1) := by decide +kernel
theorem dX5_reasonAt_23 : decode cX5_reasonAt 23 = .ok (.aload 5, 2) := by decide +kernel
theorem dX5_reasonAt_25 : decode cX5_reasonAt 25 = .ok (.getfield 45, 3) := by decide +kernel
theorem dX5_reasonAt_28 : decode cX5_reasonAt 28 = .ok (.iload_n 1, 1) := by decide +kernel
theorem dX5_reasonAt_29 : decode cX5_reasonAt 29 = .ok (.invokestatic 49, 3) := by decide +kernel
theorem dX5_reasonAt_32 : decode cX5_reasonAt 32 = .ok (.ifCond .eq 5, 3) := by decide +kernel
theorem dX5_reasonAt_35 : decode cX5_reasonAt 35 = .ok (.iconst 3, 1) := by decide +kernel
theorem dX5_reasonAt_36 : decode cX5_reasonAt 36 = .ok (.ireturn, 1) := by decide +kernel
theorem dX5_reasonAt_37 : decode cX5_reasonAt 37 = .ok (.aload 5, 2) := by decide +kernel
theorem dX5_reasonAt_39 : decode cX5_reasonAt 39 = .ok (.getfield 53, 3) := by decide +kernel
theorem dX5_reasonAt_42 : decode cX5_reasonAt 42 = .ok (.iload_n 1, 1) := by decide +kernel
theorem dX5_reasonAt_43 : decode cX5_reasonAt 43 = .ok (.invokestatic 49, 3) := by decide +kernel
theorem dX5_reasonAt_46 : decode cX5_reasonAt 46 = .ok (.ifCond .eq 5, 3) := by decide +kernel
theorem dX5_reasonAt_49 : decode cX5_reasonAt 49 = .ok (.iconst 4, 1) := by decide +kernel
theorem dX5_reasonAt_50 : decode cX5_reasonAt 50 = .ok (.ireturn, 1) := by decide +kernel
theorem dX5_reasonAt_51 : decode cX5_reasonAt 51 = .ok (.iload_n 2, 1) := by decide +kernel
theorem dX5_reasonAt_52 : decode cX5_reasonAt 52 = .ok (.ifCond .eq 18, 3) := by decide +kernel
theorem dX5_reasonAt_55 : decode cX5_reasonAt 55 = .ok (.aload 5, 2) := by decide +kernel
theorem dX5_reasonAt_57 : decode cX5_reasonAt 57 = .ok (.getfield 56, 3) := by decide +kernel
theorem dX5_reasonAt_60 : decode cX5_reasonAt 60 = .ok (.iload_n 1, 1) := by decide +kernel
theorem dX5_reasonAt_61 : decode cX5_reasonAt 61 = .ok (.iaload, 1) := by decide +kernel
theorem dX5_reasonAt_62 : decode cX5_reasonAt 62 = .ok (.iload 4, 2) := by decide +kernel
theorem dX5_reasonAt_64 : decode cX5_reasonAt 64 = .ok (.iand, 1) := by decide +kernel
theorem dX5_reasonAt_65 : decode cX5_reasonAt 65 = .ok (.ifCond .ne 5, 3) := by decide +kernel
theorem dX5_reasonAt_68 : decode cX5_reasonAt 68 = .ok (.iconst 5, 1) := by decide +kernel
theorem dX5_reasonAt_69 : decode cX5_reasonAt 69 = .ok (.ireturn, 1) := by decide +kernel
theorem dX5_reasonAt_70 : decode cX5_reasonAt 70 = .ok (.aload_n 0, 1) := by decide +kernel
theorem dX5_reasonAt_71 : decode cX5_reasonAt 71 = .ok (.iload_n 1, 1) := by decide +kernel
theorem dX5_reasonAt_72 : decode cX5_reasonAt 72 = .ok (.invokevirtual 59, 3) := by decide +kernel
theorem dX5_reasonAt_75 : decode cX5_reasonAt 75 = .ok (.ifCond .eq 7, 3) := by decide +kernel
theorem dX5_reasonAt_78 : decode cX5_reasonAt 78 = .ok (.iconst 0, 1) := by decide +kernel
theorem dX5_reasonAt_79 : decode cX5_reasonAt 79 = .ok (.goto 5, 3) := by decide +kernel
theorem dX5_reasonAt_82 : decode cX5_reasonAt 82 = .ok (.bipush 6, 2) := by decide +kernel
theorem dX5_reasonAt_84 : decode cX5_reasonAt 84 = .ok (.ireturn, 1) := by decide +kernel
set_option maxRecDepth 20000 in
theorem ggX6_init_X2_init : GoodIn wsX6_init wsX2_init := goodIn_r _ [23, 24, 2, 3, 25, 26, 27, 28, 29, 30, 31, 32, 33, 34, 35, 36, 37, 38, 39, 40, 41, 42, 43, 44, 45, 46, 47, 48, 49, 50, 51, 52, 53, 54, 55, 56, 57, 58, 59, 60, 61, 62, 77, 78, 79, 80, 81, 82, 83, 84, 85, 86, 102, 103, 104, 105, 106, 107, 108, 109, 110, 111, 112, 113, 114, 115, 116] (by decide +kernel) (by decide +kernel)
set_option maxRecDepth 20000 in
theorem gX6_init_X2_init : GoodIn wsX6_init (wsX2_init) := ggX6_init_X2_init
set_option maxRecDepth 20000 in
theorem ggX6_init_X5_init : GoodIn wsX6_init wsX5_init := goodIn_r _ [64, 65, 2, 3] (by decide +kernel) (by decide +kernel)
set_option maxRecDepth 20000 in
theorem gX6_init_X5_init_n18 : GoodIn wsX6_init (wsX5_init) := ggX6_init_X5_init
set_option maxRecDepth 20000 in
theorem ggX6_init_X3_init : GoodIn wsX6_init wsX3_init := goodIn_r _ [67, 68, 2, 3, 69, 70, 25, 71, 94, 95, 96, 97, 98, 99] (by decide +kernel) (by decide +kernel)
set_option maxRecDepth 20000 in
theorem gX6_init_X3_init_n25 : GoodIn wsX6_init (wsX3_init) := ggX6_init_X3_init
set_option maxRecDepth 20000 in
theorem ggX6_init_X1_init : GoodIn wsX6_init wsX1_init := goodIn_r _ [73, 74, 2, 3, 75, 76, 100, 101] (by decide +kernel) (by decide +kernel)
set_option maxRecDepth 20000 in
theorem gX6_init_X1_init_n32 : GoodIn wsX6_init (wsX1_init) := ggX6_init_X1_init
theorem dX6_init_0 : decode cX6_init 0 = .ok (.aload_n 0, 1) := by decide +kernel
theorem dX6_init_1 : decode cX6_init 1 = .ok (.invokespecial 3, 3) := by decide +kernel
theorem dX6_init_4 : decode cX6_init 4 = .ok (.aload_n 0, 1) := by decide +kernel
theorem dX6_init_5 : decode cX6_init 5 = .ok (.new 9, 3) := by decide +kernel
theorem dX6_init_8 : decode cX6_init 8 = .ok (.dup, 1) := by decide +kernel
theorem dX6_init_9 : decode cX6_init 9 = .ok (.invokespecial 11, 3) := by decide +kernel
theorem dX6_init_12 : decode cX6_init 12 = .ok (.putfield 12, 3) := by decide +kernel
theorem dX6_init_15 : decode cX6_init 15 = .ok (.aload_n 0, 1) := by decide +kernel
theorem dX6_init_16 : decode cX6_init 16 = .ok (.new 16, 3) := by decide +kernel
theorem dX6_init_19 : decode cX6_init 19 = .ok (.dup, 1) := by decide +kernel
theorem dX6_init_20 : decode cX6_init 20 = .ok (.invokespecial 18, 3) := by decide +kernel
theorem dX6_init_23 : decode cX6_init 23 = .ok (.putfield 19, 3) := by decide +kernel
theorem dX6_init_26 : decode cX6_init 26 = .ok (.aload_n 0, 1) := by decide +kernel
theorem dX6_init_27 : decode cX6_init 27 = .ok (.new 23, 3) := by decide +kernel
theorem dX6_init_30 : decode cX6_init 30 = .ok (.dup, 1) := by decide +kernel
theorem dX6_init_31 : decode cX6_init 31 = .ok (.invokespecial 25, 3) := by decide +kernel
theorem dX6_init_34 : decode cX6_init 34 = .ok (.putfield 26, 3) := by decide +kernel
theorem dX6_init_37 : decode cX6_init 37 = .ok (.aload_n 0, 1) := by decide +kernel
theorem dX6_init_38 : decode cX6_init 38 = .ok (.new 30, 3) := by decide +kernel
theorem dX6_init_41 : decode cX6_init 41 = .ok (.dup, 1) := by decide +kernel
theorem dX6_init_42 : decode cX6_init 42 = .ok (.invokespecial 32, 3) := by decide +kernel
theorem dX6_init_45 : decode cX6_init 45 = .ok (.putfield 33, 3) := by decide +kernel
theorem dX6_init_48 : decode cX6_init 48 = .ok (.aload_n 0, 1) := by decide +kernel
theorem dX6_init_49 : decode cX6_init 49 = .ok (.iconst 2, 1) := by decide +kernel
theorem dX6_init_50 : decode cX6_init 50 = .ok (.anewarray 9, 3) := by decide +kernel
theorem dX6_init_53 : decode cX6_init 53 = .ok (.putfield 37, 3) := by decide +kernel
theorem dX6_init_56 : decode cX6_init 56 = .ok (.return_, 1) := by decide +kernel
set_option maxRecDepth 20000 in
theorem ggX6_set_X1_remember : GoodIn wsX6_set wsX1_remember := goodIn_r _ [7, 8, 9, 10, 11, 12, 13, 14, 15, 16, 17, 18, 19, 20, 21, 22, 23, 24, 25, 26, 27, 28, 29, 30, 31, 32, 33, 34, 35, 36, 37, 38, 39, 40, 41, 42, 43, 44, 45, 46, 47, 48, 49, 50, 51, 52, 53, 54, 55, 56, 57, 58, 59, 60, 61, 62, 63, 64, 65, 66, 67, 68, 69, 70, 71, 72, 73, 74, 75, 76, 77, 78, 79, 80, 81, 82, 83, 84, 113, 114, 115, 116, 117, 118, 119, 120, 121, 122, 123, 124, 125, 126, 127, 128, 129, 130, 131, 132, 133, 134, 135, 136, 137, 138, 139] (by decide +kernel) (by decide +kernel)
set_option maxRecDepth 20000 in
theorem gX6_set_X1_remember : GoodIn wsX6_set (wsV RX6 41 RX1 yX1_remember wsX1_remember) := goodIn_app (goodIn_of _ (by decide +kernel)) ggX6_set_X1_remember
set_option maxRecDepth 20000 in
theorem ggX6_set_X2_changeSetting : GoodIn wsX6_set wsX2_changeSetting := goodIn_r _ [88, 28, 37, 89, 90, 91, 36, 92, 82, 84, 93, 94, 95, 96, 49, 50, 51, 52, 97, 98, 99, 115, 116, 117, 118, 119, 120, 121, 122, 123, 124, 133, 134, 135, 136, 137, 138, 139] (by decide +kernel) (by decide +kernel)
set_option maxRecDepth 20000 in
theorem gX6_set_X2_changeSetting : GoodIn wsX6_set (wsV RX6 45 RX2 yX2_changeSetting wsX2_changeSetting) := goodIn_app (goodIn_of _ (by decide +kernel)) ggX6_set_X2_changeSetting
set_option maxRecDepth 20000 in
theorem ggX6_set_X1_keepUnlessError : GoodIn wsX6_set wsX1_keepUnlessError := goodIn_r _ [103, 104, 105, 106, 6, 107, 9, 8, 113, 114] (by decide +kernel) (by decide +kernel)
set_option maxRecDepth 20000 in
theorem gX6_set_X1_keepUnlessError : GoodIn wsX6_set (wsV RX6 49 RX1 yX1_keepUnlessError wsX1_keepUnlessError) := goodIn_app (goodIn_of _ (by decide +kernel)) ggX6_set_X1_keepUnlessError
theorem dX6_set_0 : decode cX6_set 0 = .ok (.aload_n 0, 1) := by decide +kernel
theorem dX6_set_1 : decode cX6_set 1 = .ok (.getfield 33, 3) := by decide +kernel
theorem dX6_set_4 : decode cX6_set 4 = .ok (.aload_n 0, 1) := by decide +kernel
theorem dX6_set_5 : decode cX6_set 5 = .ok (.getfield 12, 3) := by decide +kernel
theorem dX6_set_8 : decode cX6_set 8 = .ok (.invokevirtual 41, 3) := by decide +kernel
theorem dX6_set_11 : decode cX6_set 11 = .ok (.aload_n 0, 1) := by decide +kernel
theorem dX6_set_12 : decode cX6_set 12 = .ok (.getfield 33, 3) := by decide +kernel
theorem dX6_set_15 : decode cX6_set 15 = .ok (.aload_n 0, 1) := by decide +kernel
theorem dX6_set_16 : decode cX6_set 16 = .ok (.getfield 12, 3) := by decide +kernel
theorem dX6_set_19 : decode cX6_set 19 = .ok (.iload_n 1, 1) := by decide +kernel
theorem dX6_set_20 : decode cX6_set 20 = .ok (.iload_n 2, 1) := by decide +kernel
theorem dX6_set_21 : decode cX6_set 21 = .ok (.invokevirtual 45, 3) := by decide +kernel
theorem dX6_set_24 : decode cX6_set 24 = .ok (.invokevirtual 49, 3) := by decide +kernel
theorem dX6_set_27 : decode cX6_set 27 = .ok (.ireturn, 1) := by decide +kernel
set_option maxRecDepth 20000 in
theorem ggX6_own_X1_remember : GoodIn wsX6_own wsX1_remember := goodIn_r _ [7, 8, 9, 10, 11, 12, 13, 14, 15, 16, 17, 18, 19, 20, 21, 22, 23, 24, 25, 26, 27, 28, 29, 30, 31, 32, 33, 34, 35, 36, 37, 38, 39, 40, 41, 42, 43, 44, 45, 46, 47, 48, 49, 50, 51, 52, 53, 54, 55, 56, 57, 58, 59, 60, 61, 62, 63, 64, 65, 66, 67, 68, 69, 70, 71, 72, 73, 74, 75, 76, 77, 78, 79, 80, 81, 82, 83, 84, 163, 164, 165, 166, 167, 168, 169, 170, 171, 172, 173, 174, 175, 176, 177, 178, 179, 180, 181, 182, 183, 184, 185, 186, 187, 188, 189] (by decide +kernel) (by decide +kernel)
set_option maxRecDepth 20000 in
theorem gX6_own_X1_remember : GoodIn wsX6_own (wsV RX6 41 RX1 yX1_remember wsX1_remember) := goodIn_app (goodIn_of _ (by decide +kernel)) ggX6_own_X1_remember
set_option maxRecDepth 20000 in
theorem ggX6_own_X2_changeOwner : GoodIn wsX6_own wsX2_changeOwner := goodIn_r _ [88, 20, 89, 90, 91, 92, 93, 94, 95, 96, 12, 97, 33, 98, 99, 100, 101, 102, 103, 104, 105, 106, 107, 108, 109, 110, 111, 112, 113, 114, 32, 115, 76, 116, 117, 118, 119, 28, 37, 120, 121, 122, 123, 36, 124, 82, 125, 126, 127, 128, 83, 129, 130, 131, 132, 49, 50, 51, 52, 133, 134, 135, 136, 137, 138, 139, 140, 141, 142, 143, 144, 145, 146, 147, 21, 148, 149, 165, 166, 167, 168, 169, 170, 171, 172, 173, 174, 175, 176, 177, 178, 179, 180, 181, 182, 183, 184, 185, 186, 187, 188, 189] (by decide +kernel) (by decide +kernel)
set_option maxRecDepth 20000 in
theorem gX6_own_X2_changeOwner : GoodIn wsX6_own (wsV RX6 53 RX2 yX2_changeOwner wsX2_changeOwner) := goodIn_app (goodIn_of _ (by decide +kernel)) ggX6_own_X2_changeOwner
set_option maxRecDepth 20000 in
theorem ggX6_own_X1_keepUnlessError : GoodIn wsX6_own wsX1_keepUnlessError := goodIn_r _ [153, 154, 155, 156, 6, 157, 9, 8, 163, 164] (by decide +kernel) (by decide +kernel)
set_option maxRecDepth 20000 in
theorem gX6_own_X1_keepUnlessError : GoodIn wsX6_own (wsV RX6 49 RX1 yX1_keepUnlessError wsX1_keepUnlessError) := goodIn_app (goodIn_of _ (by decide +kernel)) ggX6_own_X1_keepUnlessError
theorem dX6_own_0 : decode cX6_own 0 = .ok (.aload_n 0, 1) := by decide +kernel
theorem dX6_own_1 : decode cX6_own 1 = .ok (.getfield 33, 3) := by decide +kernel
theorem dX6_own_4 : decode cX6_own 4 = .ok (.aload_n 0, 1) := by decide +kernel
theorem dX6_own_5 : decode cX6_own 5 = .ok (.getfield 12, 3) := by decide +kernel
theorem dX6_own_8 : decode cX6_own 8 = .ok (.invokevirtual 41, 3) := by decide +kernel
theorem dX6_own_11 : decode cX6_own 11 = .ok (.aload_n 0, 1) := by decide +kernel
theorem dX6_own_12 : decode cX6_own 12 = .ok (.getfield 33, 3) := by decide +kernel
theorem dX6_own_15 : decode cX6_own 15 = .ok (.aload_n 0, 1) := by decide +kernel
theorem dX6_own_16 : decode cX6_own 16 = .ok (.getfield 12, 3) := by decide +kernel
theorem dX6_own_19 : decode cX6_own 19 = .ok (.iload_n 1, 1) := by decide +kernel
theorem dX6_own_20 : decode cX6_own 20 = .ok (.iload_n 2, 1) := by decide +kernel
theorem dX6_own_21 : decode cX6_own 21 = .ok (.invokevirtual 53, 3) := by decide +kernel
theorem dX6_own_24 : decode cX6_own 24 = .ok (.invokevirtual 49, 3) := by decide +kernel
theorem dX6_own_27 : decode cX6_own 27 = .ok (.ireturn, 1) := by decide +kernel
set_option maxRecDepth 20000 in
theorem ggX6_stamp_X1_remember : GoodIn wsX6_stamp wsX1_remember := goodIn_r _ [7, 8, 9, 10, 11, 12, 13, 14, 15, 16, 17, 18, 19, 20, 21, 22, 23, 24, 25, 26, 27, 28, 29, 30, 31, 32, 33, 34, 35, 36, 37, 38, 39, 40, 41, 42, 43, 44, 45, 46, 47, 48, 49, 50, 51, 52, 53, 54, 55, 56, 57, 58, 59, 60, 61, 62, 63, 64, 65, 66, 67, 68, 69, 70, 71, 72, 73, 74, 75, 76, 77, 78, 79, 80, 81, 82, 83, 84, 118, 119, 120, 121, 122, 123, 124, 125, 126, 127, 128, 129, 130, 131, 132, 133, 134, 135, 136, 137, 138, 139, 140, 141, 142, 143, 144] (by decide +kernel) (by decide +kernel)
set_option maxRecDepth 20000 in
theorem gX6_stamp_X1_remember : GoodIn wsX6_stamp (wsV RX6 41 RX1 yX1_remember wsX1_remember) := goodIn_app (goodIn_of _ (by decide +kernel)) ggX6_stamp_X1_remember
set_option maxRecDepth 20000 in
theorem ggX6_stamp_X2_giveStamp : GoodIn wsX6_stamp wsX2_giveStamp := goodIn_r _ [88, 33, 20, 89, 90, 91, 92, 93, 94, 95, 96, 97, 98, 32, 99, 76, 100, 101, 102, 103, 42, 43, 41, 44, 45, 74, 104, 120, 121, 122, 123, 124, 125, 126, 127, 128, 129, 130, 131, 132, 133, 134, 135, 136, 137] (by decide +kernel) (by decide +kernel)
set_option maxRecDepth 20000 in
theorem gX6_stamp_X2_giveStamp : GoodIn wsX6_stamp (wsV RX6 56 RX2 yX2_giveStamp wsX2_giveStamp) := goodIn_app (goodIn_of _ (by decide +kernel)) ggX6_stamp_X2_giveStamp
set_option maxRecDepth 20000 in
theorem ggX6_stamp_X1_keepUnlessError : GoodIn wsX6_stamp wsX1_keepUnlessError := goodIn_r _ [108, 109, 110, 111, 6, 112, 9, 8, 118, 119] (by decide +kernel) (by decide +kernel)
set_option maxRecDepth 20000 in
theorem gX6_stamp_X1_keepUnlessError : GoodIn wsX6_stamp (wsV RX6 49 RX1 yX1_keepUnlessError wsX1_keepUnlessError) := goodIn_app (goodIn_of _ (by decide +kernel)) ggX6_stamp_X1_keepUnlessError
theorem dX6_stamp_0 : decode cX6_stamp 0 = .ok (.aload_n 0, 1) := by decide +kernel
theorem dX6_stamp_1 : decode cX6_stamp 1 = .ok (.getfield 33, 3) := by decide +kernel
theorem dX6_stamp_4 : decode cX6_stamp 4 = .ok (.aload_n 0, 1) := by decide +kernel
theorem dX6_stamp_5 : decode cX6_stamp 5 = .ok (.getfield 12, 3) := by decide +kernel
theorem dX6_stamp_8 : decode cX6_stamp 8 = .ok (.invokevirtual 41, 3) := by decide +kernel
theorem dX6_stamp_11 : decode cX6_stamp 11 = .ok (.aload_n 0, 1) := by decide +kernel
theorem dX6_stamp_12 : decode cX6_stamp 12 = .ok (.getfield 33, 3) := by decide +kernel
theorem dX6_stamp_15 : decode cX6_stamp 15 = .ok (.aload_n 0, 1) := by decide +kernel
theorem dX6_stamp_16 : decode cX6_stamp 16 = .ok (.getfield 12, 3) := by decide +kernel
theorem dX6_stamp_19 : decode cX6_stamp 19 = .ok (.iload_n 1, 1) := by decide +kernel
theorem dX6_stamp_20 : decode cX6_stamp 20 = .ok (.iload_n 2, 1) := by decide +kernel
theorem dX6_stamp_21 : decode cX6_stamp 21 = .ok (.iload_n 3, 1) := by decide +kernel
theorem dX6_stamp_22 : decode cX6_stamp 22 = .ok (.iload 4, 2) := by decide +kernel
theorem dX6_stamp_24 : decode cX6_stamp 24 = .ok (.invokevirtual 56, 3) := by decide +kernel
theorem dX6_stamp_27 : decode cX6_stamp 27 = .ok (.invokevirtual 49, 3) := by decide +kernel
theorem dX6_stamp_30 : decode cX6_stamp 30 = .ok (.ireturn, 1) := by decide +kernel
set_option maxRecDepth 20000 in
theorem ggX6_pass_X1_remember : GoodIn wsX6_pass wsX1_remember := goodIn_r _ [7, 8, 9, 10, 11, 12, 13, 14, 15, 16, 17, 18, 19, 20, 21, 22, 23, 24, 25, 26, 27, 28, 29, 30, 31, 32, 33, 34, 35, 36, 37, 38, 39, 40, 41, 42, 43, 44, 45, 46, 47, 48, 49, 50, 51, 52, 53, 54, 55, 56, 57, 58, 59, 60, 61, 62, 63, 64, 65, 66, 67, 68, 69, 70, 71, 72, 73, 74, 75, 76, 77, 78, 79, 80, 81, 82, 83, 84, 140, 141, 142, 143, 144, 145, 146, 147, 148, 149, 150, 151, 152, 153, 154, 155, 156, 157, 158, 159, 160, 161, 162, 163, 164, 165, 166] (by decide +kernel) (by decide +kernel)
set_option maxRecDepth 20000 in
theorem gX6_pass_X1_remember : GoodIn wsX6_pass (wsV RX6 41 RX1 yX1_remember wsX1_remember) := goodIn_app (goodIn_of _ (by decide +kernel)) ggX6_pass_X1_remember
set_option maxRecDepth 20000 in
theorem ggX6_pass_X2_passOn : GoodIn wsX6_pass wsX2_passOn := goodIn_r _ [88, 33, 89, 90, 91, 92, 93, 94, 32, 95, 76, 96, 97, 98, 99, 100, 101, 102, 103, 104, 105, 106, 107, 12, 108, 109, 110, 111, 112, 113, 114, 115, 116, 117, 118, 119, 20, 120, 121, 122, 123, 124, 125, 42, 43, 41, 44, 45, 74, 126, 142, 143, 144, 145, 146, 147, 148, 149, 150, 151, 152, 153, 154, 155, 156, 157, 158, 159] (by decide +kernel) (by decide +kernel)
set_option maxRecDepth 20000 in
theorem gX6_pass_X2_passOn : GoodIn wsX6_pass (wsV RX6 60 RX2 yX2_passOn wsX2_passOn) := goodIn_app (goodIn_of _ (by decide +kernel)) ggX6_pass_X2_passOn
set_option maxRecDepth 20000 in
theorem ggX6_pass_X1_keepUnlessError : GoodIn wsX6_pass wsX1_keepUnlessError := goodIn_r _ [130, 131, 132, 133, 6, 134, 9, 8, 140, 141] (by decide +kernel) (by decide +kernel)
set_option maxRecDepth 20000 in
theorem gX6_pass_X1_keepUnlessError : GoodIn wsX6_pass (wsV RX6 49 RX1 yX1_keepUnlessError wsX1_keepUnlessError) := goodIn_app (goodIn_of _ (by decide +kernel)) ggX6_pass_X1_keepUnlessError
theorem dX6_pass_0 : decode cX6_pass 0 = .ok (.aload_n 0, 1) := by decide +kernel
theorem dX6_pass_1 : decode cX6_pass 1 = .ok (.getfield 33, 3) := by decide +kernel
theorem dX6_pass_4 : decode cX6_pass 4 = .ok (.aload_n 0, 1) := by decide +kernel
theorem dX6_pass_5 : decode cX6_pass 5 = .ok (.getfield 12, 3) := by decide +kernel
theorem dX6_pass_8 : decode cX6_pass 8 = .ok (.invokevirtual 41, 3) := by decide +kernel
theorem dX6_pass_11 : decode cX6_pass 11 = .ok (.aload_n 0, 1) := by decide +kernel
theorem dX6_pass_12 : decode cX6_pass 12 = .ok (.getfield 33, 3) := by decide +kernel
theorem dX6_pass_15 : decode cX6_pass 15 = .ok (.aload_n 0, 1) := by decide +kernel
theorem dX6_pass_16 : decode cX6_pass 16 = .ok (.getfield 12, 3) := by decide +kernel
theorem dX6_pass_19 : decode cX6_pass 19 = .ok (.iload_n 1, 1) := by decide +kernel
theorem dX6_pass_20 : decode cX6_pass 20 = .ok (.iload_n 2, 1) := by decide +kernel
theorem dX6_pass_21 : decode cX6_pass 21 = .ok (.iload_n 3, 1) := by decide +kernel
theorem dX6_pass_22 : decode cX6_pass 22 = .ok (.invokevirtual 60, 3) := by decide +kernel
theorem dX6_pass_25 : decode cX6_pass 25 = .ok (.invokevirtual 49, 3) := by decide +kernel
theorem dX6_pass_28 : decode cX6_pass 28 = .ok (.ireturn, 1) := by decide +kernel
set_option maxRecDepth 20000 in
theorem ggX6_forge_X1_remember : GoodIn wsX6_forge wsX1_remember := goodIn_r _ [7, 8, 9, 10, 11, 12, 13, 14, 15, 16, 17, 18, 19, 20, 21, 22, 23, 24, 25, 26, 27, 28, 29, 30, 31, 32, 33, 34, 35, 36, 37, 38, 39, 40, 41, 42, 43, 44, 45, 46, 47, 48, 49, 50, 51, 52, 53, 54, 55, 56, 57, 58, 59, 60, 61, 62, 63, 64, 65, 66, 67, 68, 69, 70, 71, 72, 73, 74, 75, 76, 77, 78, 79, 80, 81, 82, 83, 84, 122, 123, 124, 125, 126, 127, 128, 129, 130, 131, 132, 133, 134, 135, 136, 137, 138, 139, 140, 141, 142, 143, 144, 145, 146, 147, 148] (by decide +kernel) (by decide +kernel)
set_option maxRecDepth 20000 in
theorem gX6_forge_X1_remember : GoodIn wsX6_forge (wsV RX6 41 RX1 yX1_remember wsX1_remember) := goodIn_app (goodIn_of _ (by decide +kernel)) ggX6_forge_X1_remember
set_option maxRecDepth 20000 in
theorem ggX6_forge_X2_forgeStamp : GoodIn wsX6_forge wsX2_forgeStamp := goodIn_r _ [88, 33, 89, 90, 91, 92, 93, 94, 95, 96, 32, 97, 76, 98, 99, 100, 101, 102, 103, 104, 105, 106, 107, 42, 43, 41, 44, 45, 74, 108, 124, 125, 126, 127, 128, 129, 130, 131, 132, 133, 134, 135, 136, 137, 138, 139, 140, 141] (by decide +kernel) (by decide +kernel)
set_option maxRecDepth 20000 in
theorem gX6_forge_X2_forgeStamp : GoodIn wsX6_forge (wsV RX6 64 RX2 yX2_forgeStamp wsX2_forgeStamp) := goodIn_app (goodIn_of _ (by decide +kernel)) ggX6_forge_X2_forgeStamp
set_option maxRecDepth 20000 in
theorem ggX6_forge_X1_keepUnlessError : GoodIn wsX6_forge wsX1_keepUnlessError := goodIn_r _ [112, 113, 114, 115, 6, 116, 9, 8, 122, 123] (by decide +kernel) (by decide +kernel)
set_option maxRecDepth 20000 in
theorem gX6_forge_X1_keepUnlessError : GoodIn wsX6_forge (wsV RX6 49 RX1 yX1_keepUnlessError wsX1_keepUnlessError) := goodIn_app (goodIn_of _ (by decide +kernel)) ggX6_forge_X1_keepUnlessError
theorem dX6_forge_0 : decode cX6_forge 0 = .ok (.aload_n 0, 1) := by decide +kernel
theorem dX6_forge_1 : decode cX6_forge 1 = .ok (.getfield 33, 3) := by decide +kernel
theorem dX6_forge_4 : decode cX6_forge 4 = .ok (.aload_n 0, 1) := by decide +kernel
theorem dX6_forge_5 : decode cX6_forge 5 = .ok (.getfield 12, 3) := by decide +kernel
theorem dX6_forge_8 : decode cX6_forge 8 = .ok (.invokevirtual 41, 3) := by decide +kernel
theorem dX6_forge_11 : decode cX6_forge 11 = .ok (.aload_n 0, 1) := by decide +kernel
theorem dX6_forge_12 : decode cX6_forge 12 = .ok (.getfield 33, 3) := by decide +kernel
theorem dX6_forge_15 : decode cX6_forge 15 = .ok (.aload_n 0, 1) := by decide +kernel
theorem dX6_forge_16 : decode cX6_forge 16 = .ok (.getfield 12, 3) := by decide +kernel
theorem dX6_forge_19 : decode cX6_forge 19 = .ok (.iload_n 1, 1) := by decide +kernel
theorem dX6_forge_20 : decode cX6_forge 20 = .ok (.iload_n 2, 1) := by decide +kernel
theorem dX6_forge_21 : decode cX6_forge 21 = .ok (.iload_n 3, 1) := by decide +kernel
theorem dX6_forge_22 : decode cX6_forge 22 = .ok (.iload 4, 2) := by decide +kernel
theorem dX6_forge_24 : decode cX6_forge 24 = .ok (.iload 5, 2) := by decide +kernel
theorem dX6_forge_26 : decode cX6_forge 26 = .ok (.invokevirtual 64, 3) := by decide +kernel
theorem dX6_forge_29 : decode cX6_forge 29 = .ok (.invokevirtual 49, 3) := by decide +kernel
theorem dX6_forge_32 : decode cX6_forge 32 = .ok (.ireturn, 1) := by decide +kernel
set_option maxRecDepth 20000 in
theorem ggX6_takeBack_X1_remember : GoodIn wsX6_takeBack wsX1_remember := goodIn_r _ [7, 8, 9, 10, 11, 12, 13, 14, 15, 16, 17, 18, 19, 20, 21, 22, 23, 24, 25, 26, 27, 28, 29, 30, 31, 32, 33, 34, 35, 36, 37, 38, 39, 40, 41, 42, 43, 44, 45, 46, 47, 48, 49, 50, 51, 52, 53, 54, 55, 56, 57, 58, 59, 60, 61, 62, 63, 64, 65, 66, 67, 68, 69, 70, 71, 72, 73, 74, 75, 76, 77, 78, 79, 80, 81, 82, 83, 84, 161, 162, 163, 164, 165, 166, 167, 168, 169, 170, 171, 172, 173, 174, 175, 176, 177, 178, 179, 180, 181, 182, 183, 184, 185, 186, 187] (by decide +kernel) (by decide +kernel)
set_option maxRecDepth 20000 in
theorem gX6_takeBack_X1_remember : GoodIn wsX6_takeBack (wsV RX6 41 RX1 yX1_remember wsX1_remember) := goodIn_app (goodIn_of _ (by decide +kernel)) ggX6_takeBack_X1_remember
set_option maxRecDepth 20000 in
theorem ggX6_takeBack_X2_revoke : GoodIn wsX6_takeBack wsX2_revoke := goodIn_r _ [88, 33, 89, 90, 91, 92, 93, 32, 94, 76, 95, 96, 97, 98, 99, 100, 12, 101, 102, 103, 104, 105, 106, 107, 108, 109, 20, 110, 111, 112, 113, 114, 115, 116, 117, 28, 37, 118, 119, 120, 121, 36, 122, 82, 123, 124, 125, 126, 83, 127, 128, 129, 130, 49, 50, 51, 52, 131, 132, 133, 134, 135, 136, 137, 138, 139, 140, 141, 142, 143, 144, 145, 21, 146, 147, 163, 164, 165, 166, 167, 168, 169, 170, 171, 172, 173, 174, 175, 176, 177, 178, 179, 180, 181, 182, 183, 184, 185, 186, 187] (by decide +kernel) (by decide +kernel)
set_option maxRecDepth 20000 in
theorem gX6_takeBack_X2_revoke : GoodIn wsX6_takeBack (wsV RX6 68 RX2 yX2_revoke wsX2_revoke) := goodIn_app (goodIn_of _ (by decide +kernel)) ggX6_takeBack_X2_revoke
set_option maxRecDepth 20000 in
theorem ggX6_takeBack_X1_keepUnlessError : GoodIn wsX6_takeBack wsX1_keepUnlessError := goodIn_r _ [151, 152, 153, 154, 6, 155, 9, 8, 161, 162] (by decide +kernel) (by decide +kernel)
set_option maxRecDepth 20000 in
theorem gX6_takeBack_X1_keepUnlessError : GoodIn wsX6_takeBack (wsV RX6 49 RX1 yX1_keepUnlessError wsX1_keepUnlessError) := goodIn_app (goodIn_of _ (by decide +kernel)) ggX6_takeBack_X1_keepUnlessError
theorem dX6_takeBack_0 : decode cX6_takeBack 0 = .ok (.aload_n 0, 1) := by decide +kernel
theorem dX6_takeBack_1 : decode cX6_takeBack 1 = .ok (.getfield 33, 3) := by decide +kernel
theorem dX6_takeBack_4 : decode cX6_takeBack 4 = .ok (.aload_n 0, 1) := by decide +kernel
theorem dX6_takeBack_5 : decode cX6_takeBack 5 = .ok (.getfield 12, 3) := by decide +kernel
theorem dX6_takeBack_8 : decode cX6_takeBack 8 = .ok (.invokevirtual 41, 3) := by decide +kernel
theorem dX6_takeBack_11 : decode cX6_takeBack 11 = .ok (.aload_n 0, 1) := by decide +kernel
theorem dX6_takeBack_12 : decode cX6_takeBack 12 = .ok (.getfield 33, 3) := by decide +kernel
theorem dX6_takeBack_15 : decode cX6_takeBack 15 = .ok (.aload_n 0, 1) := by decide +kernel
theorem dX6_takeBack_16 : decode cX6_takeBack 16 = .ok (.getfield 12, 3) := by decide +kernel
theorem dX6_takeBack_19 : decode cX6_takeBack 19 = .ok (.iload_n 1, 1) := by decide +kernel
theorem dX6_takeBack_20 : decode cX6_takeBack 20 = .ok (.invokevirtual 68, 3) := by decide +kernel
theorem dX6_takeBack_23 : decode cX6_takeBack 23 = .ok (.invokevirtual 49, 3) := by decide +kernel
theorem dX6_takeBack_26 : decode cX6_takeBack 26 = .ok (.ireturn, 1) := by decide +kernel
set_option maxRecDepth 20000 in
theorem ggX6_door_X1_remember : GoodIn wsX6_door wsX1_remember := goodIn_r _ [7, 8, 9, 10, 11, 12, 13, 14, 15, 16, 17, 18, 19, 20, 21, 22, 23, 24, 25, 26, 27, 28, 29, 30, 31, 32, 33, 34, 35, 36, 37, 38, 39, 40, 41, 42, 43, 44, 45, 46, 47, 48, 49, 50, 51, 52, 53, 54, 55, 56, 57, 58, 59, 60, 61, 62, 63, 64, 65, 66, 67, 68, 69, 70, 71, 72, 73, 74, 75, 76, 77, 78, 79, 80, 81, 82, 83, 84, 123, 124, 125, 126, 127, 128, 129, 130, 131, 132, 133, 134, 135, 136, 137, 138, 139, 140, 141, 142, 143, 144, 145, 146, 147, 148, 149] (by decide +kernel) (by decide +kernel)
set_option maxRecDepth 20000 in
theorem gX6_door_X1_remember : GoodIn wsX6_door (wsV RX6 41 RX1 yX1_remember wsX1_remember) := goodIn_app (goodIn_of _ (by decide +kernel)) ggX6_door_X1_remember
set_option maxRecDepth 20000 in
theorem ggX6_door_X2_leadDoor : GoodIn wsX6_door wsX2_leadDoor := goodIn_r _ [88, 33, 21, 37, 89, 90, 91, 92, 93, 94, 32, 95, 76, 96, 97, 98, 36, 99, 82, 49, 50, 100, 101, 102, 103, 83, 104, 105, 106, 107, 51, 52, 108, 109, 125, 126, 127, 128, 129, 130, 131, 132, 133, 134, 135, 136, 137, 138, 139, 140, 141, 142, 143, 144, 145, 146, 147, 148, 149] (by decide +kernel) (by decide +kernel)
set_option maxRecDepth 20000 in
theorem gX6_door_X2_leadDoor : GoodIn wsX6_door (wsV RX6 71 RX2 yX2_leadDoor wsX2_leadDoor) := goodIn_app (goodIn_of _ (by decide +kernel)) ggX6_door_X2_leadDoor
