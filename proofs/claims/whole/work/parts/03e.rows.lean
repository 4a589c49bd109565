set_option maxRecDepth 20000 in
theorem gX7_ended_X7_in : GoodIn wsX7_ended (va_wsS RX7 38 yX7_in wsX7_in) := goodIn_app (goodIn_of _ (by decide +kernel)) ggX7_ended_X7_in
theorem dX7_ended_0 : decode cX7_ended 0 = .ok (.iload_n 1, 1) := by decide +kernel
theorem dX7_ended_1 : decode cX7_ended 1 = .ok (.iconst 0, 1) := by decide +kernel
theorem dX7_ended_2 : decode cX7_ended 2 = .ok (.bipush 6, 2) := by decide +kernel
theorem dX7_ended_4 : decode cX7_ended 4 = .ok (.invokestatic 38, 3) := by decide +kernel
theorem dX7_ended_7 : decode cX7_ended 7 = .ok (.ifCond .eq 15, 3) := by decide +kernel
theorem dX7_ended_10 : decode cX7_ended 10 = .ok (.aload_n 0, 1) := by decide +kernel
theorem dX7_ended_11 : decode cX7_ended 11 = .ok (.getfield 7, 3) := by decide +kernel
theorem dX7_ended_14 : decode cX7_ended 14 = .ok (.bipush 83, 2) := by decide +kernel
theorem dX7_ended_16 : decode cX7_ended 16 = .ok (.iload_n 1, 1) := by decide +kernel
theorem dX7_ended_17 : decode cX7_ended 17 = .ok (.iadd, 1) := by decide +kernel
theorem dX7_ended_18 : decode cX7_ended 18 = .ok (.iaload, 1) := by decide +kernel
theorem dX7_ended_19 : decode cX7_ended 19 = .ok (.goto 5, 3) := by decide +kernel
theorem dX7_ended_22 : decode cX7_ended 22 = .ok (.bipush (-2), 2) := by decide +kernel
theorem dX7_ended_24 : decode cX7_ended 24 = .ok (.ireturn, 1) := by decide +kernel
set_option maxRecDepth 20000 in
theorem ggX7_walk_X7_isDoor : GoodIn wsX7_walk wsX7_isDoor := goodIn_r _ [5, 6, 7, 4, 8, 9, 10, 11] (by decide +kernel) (by decide +kernel)
set_option maxRecDepth 20000 in
theorem gX7_walk_X7_isDoor : GoodIn wsX7_walk (va_wsS RX7 130 yX7_isDoor wsX7_isDoor) := goodIn_app (goodIn_of _ (by decide +kernel)) ggX7_walk_X7_isDoor
set_option maxRecDepth 20000 in
theorem ggX7_walk_X7_in : GoodIn wsX7_walk wsX7_in := goodIn_r _ [11] (by decide +kernel) (by decide +kernel)
set_option maxRecDepth 20000 in
theorem gX7_walk_X7_in : GoodIn wsX7_walk (va_wsS RX7 38 yX7_in wsX7_in) := goodIn_app (goodIn_of _ (by decide +kernel)) ggX7_walk_X7_in
set_option maxRecDepth 20000 in
theorem ggX7_walk_X7_reasonOf : GoodIn wsX7_walk wsX7_reasonOf := goodIn_r _ [15, 1, 16, 17, 18, 4, 19, 20, 21, 22, 23, 24, 25, 26, 27, 28, 29, 30, 31, 32, 33, 34, 35, 36, 37, 38, 39, 40, 41, 42, 43, 44, 45, 46, 47, 48] (by decide +kernel) (by decide +kernel)
set_option maxRecDepth 20000 in
theorem gX7_walk_X7_reasonOf : GoodIn wsX7_walk (wsV RX7 157 RX7 yX7_reasonOf wsX7_reasonOf) := goodIn_app (goodIn_of _ (by decide +kernel)) ggX7_walk_X7_reasonOf
theorem dX7_walk_0 : decode cX7_walk 0 = .ok (.iload_n 1, 1) := by decide +kernel
theorem dX7_walk_1 : decode cX7_walk 1 = .ok (.iload_n 2, 1) := by decide +kernel
theorem dX7_walk_2 : decode cX7_walk 2 = .ok (.invokestatic 130, 3) := by decide +kernel
theorem dX7_walk_5 : decode cX7_walk 5 = .ok (.ifCond .ne 5, 3) := by decide +kernel
theorem dX7_walk_8 : decode cX7_walk 8 = .ok (.iconst (-1), 1) := by decide +kernel
theorem dX7_walk_9 : decode cX7_walk 9 = .ok (.ireturn, 1) := by decide +kernel
theorem dX7_walk_10 : decode cX7_walk 10 = .ok (.iload_n 3, 1) := by decide +kernel
theorem dX7_walk_11 : decode cX7_walk 11 = .ok (.iconst 1, 1) := by decide +kernel
theorem dX7_walk_12 : decode cX7_walk 12 = .ok (.if_icmp .eq 8, 3) := by decide +kernel
theorem dX7_walk_15 : decode cX7_walk 15 = .ok (.iload_n 3, 1) := by decide +kernel
theorem dX7_walk_16 : decode cX7_walk 16 = .ok (.iconst 2, 1) := by decide +kernel
theorem dX7_walk_17 : decode cX7_walk 17 = .ok (.if_icmp .ne 13, 3) := by decide +kernel
theorem dX7_walk_20 : decode cX7_walk 20 = .ok (.iload 4, 2) := by decide +kernel
theorem dX7_walk_22 : decode cX7_walk 22 = .ok (.iconst 0, 1) := by decide +kernel
theorem dX7_walk_23 : decode cX7_walk 23 = .ok (.iconst 1, 1) := by decide +kernel
theorem dX7_walk_24 : decode cX7_walk 24 = .ok (.invokestatic 38, 3) := by decide +kernel
theorem dX7_walk_27 : decode cX7_walk 27 = .ok (.ifCond .ne 6, 3) := by decide +kernel
theorem dX7_walk_30 : decode cX7_walk 30 = .ok (.bipush (-2), 2) := by decide +kernel
theorem dX7_walk_32 : decode cX7_walk 32 = .ok (.ireturn, 1) := by decide +kernel
theorem dX7_walk_33 : decode cX7_walk 33 = .ok (.aload_n 0, 1) := by decide +kernel
theorem dX7_walk_34 : decode cX7_walk 34 = .ok (.iload_n 1, 1) := by decide +kernel
theorem dX7_walk_35 : decode cX7_walk 35 = .ok (.iload_n 2, 1) := by decide +kernel
theorem dX7_walk_36 : decode cX7_walk 36 = .ok (.iload_n 3, 1) := by decide +kernel
theorem dX7_walk_37 : decode cX7_walk 37 = .ok (.invokevirtual 157, 3) := by decide +kernel
theorem dX7_walk_40 : decode cX7_walk 40 = .ok (.istore 5, 2) := by decide +kernel
theorem dX7_walk_42 : decode cX7_walk 42 = .ok (.iload 4, 2) := by decide +kernel
theorem dX7_walk_44 : decode cX7_walk 44 = .ok (.ifCond .ne 8, 3) := by decide +kernel
theorem dX7_walk_47 : decode cX7_walk 47 = .ok (.iload 5, 2) := by decide +kernel
theorem dX7_walk_49 : decode cX7_walk 49 = .ok (.goto 7, 3) := by decide +kernel
theorem dX7_walk_52 : decode cX7_walk 52 = .ok (.aload_n 0, 1) := by decide +kernel
theorem dX7_walk_53 : decode cX7_walk 53 = .ok (.getfield 66, 3) := by decide +kernel
theorem dX7_walk_56 : decode cX7_walk 56 = .ok (.ireturn, 1) := by decide +kernel
set_option maxRecDepth 20000 in
theorem ggX7_hiddenBy_X7_of : GoodIn wsX7_hiddenBy wsX7_of := goodIn_r _ [6, 1, 20, 21, 22, 23, 24, 25, 26, 27, 28, 29, 30, 31, 32, 33, 34, 35] (by decide +kernel) (by decide +kernel)
set_option maxRecDepth 20000 in
theorem gX7_hiddenBy_X7_of : GoodIn wsX7_hiddenBy (wsV RX7 56 RX7 yX7_of wsX7_of) := goodIn_app (goodIn_of _ (by decide +kernel)) ggX7_hiddenBy_X7_of
set_option maxRecDepth 20000 in
theorem ggX7_hiddenBy_X7_findGood : GoodIn wsX7_hiddenBy wsX7_findGood := goodIn_r _ [10, 1, 11, 2, 3, 4, 5, 6, 12, 13, 14, 15, 20, 21, 22, 23, 24, 25, 26, 27, 28, 29, 30, 31, 32, 33, 34, 35] (by decide +kernel) (by decide +kernel)
set_option maxRecDepth 20000 in
theorem gX7_hiddenBy_X7_findGood : GoodIn wsX7_hiddenBy (wsV RX7 80 RX7 yX7_findGood wsX7_findGood) := goodIn_app (goodIn_of _ (by decide +kernel)) ggX7_hiddenBy_X7_findGood
set_option maxRecDepth 20000 in
theorem ggX7_hiddenBy_X7_whoCan : GoodIn wsX7_hiddenBy wsX7_whoCan := goodIn_r _ [19, 1, 11, 2, 3, 4, 5, 6, 20, 21, 22, 23, 24, 25, 26, 27, 28, 29, 30, 31, 32, 33, 34, 35] (by decide +kernel) (by decide +kernel)
set_option maxRecDepth 20000 in
theorem gX7_hiddenBy_X7_whoCan : GoodIn wsX7_hiddenBy (wsV RX7 163 RX7 yX7_whoCan wsX7_whoCan) := goodIn_app (goodIn_of _ (by decide +kernel)) ggX7_hiddenBy_X7_whoCan
theorem dX7_hiddenBy_0 : decode cX7_hiddenBy 0 = .ok (.aload_n 0, 1) := by decide +kernel
theorem dX7_hiddenBy_1 : decode cX7_hiddenBy 1 = .ok (.iload_n 1, 1) := by decide +kernel
theorem dX7_hiddenBy_2 : decode cX7_hiddenBy 2 = .ok (.iconst 0, 1) := by decide +kernel
theorem dX7_hiddenBy_3 : decode cX7_hiddenBy 3 = .ok (.invokevirtual 56, 3) := by decide +kernel
theorem dX7_hiddenBy_6 : decode cX7_hiddenBy 6 = .ok (.istore_n 2, 1) := by decide +kernel
theorem dX7_hiddenBy_7 : decode cX7_hiddenBy 7 = .ok (.aload_n 0, 1) := by decide +kernel
theorem dX7_hiddenBy_8 : decode cX7_hiddenBy 8 = .ok (.iload_n 1, 1) := by decide +kernel
theorem dX7_hiddenBy_9 : decode cX7_hiddenBy 9 = .ok (.bipush 6, 2) := by decide +kernel
theorem dX7_hiddenBy_11 : decode cX7_hiddenBy 11 = .ok (.invokevirtual 56, 3) := by decide +kernel
theorem dX7_hiddenBy_14 : decode cX7_hiddenBy 14 = .ok (.istore_n 3, 1) := by decide +kernel
theorem dX7_hiddenBy_15 : decode cX7_hiddenBy 15 = .ok (.aload_n 0, 1) := by decide +kernel
theorem dX7_hiddenBy_16 : decode cX7_hiddenBy 16 = .ok (.invokevirtual 80, 3) := by decide +kernel
theorem dX7_hiddenBy_19 : decode cX7_hiddenBy 19 = .ok (.aload_n 0, 1) := by decide +kernel
theorem dX7_hiddenBy_20 : decode cX7_hiddenBy 20 = .ok (.iload_n 2, 1) := by decide +kernel
theorem dX7_hiddenBy_21 : decode cX7_hiddenBy 21 = .ok (.iconst 1, 1) := by decide +kernel
theorem dX7_hiddenBy_22 : decode cX7_hiddenBy 22 = .ok (.invokevirtual 163, 3) := by decide +kernel
theorem dX7_hiddenBy_25 : decode cX7_hiddenBy 25 = .ok (.istore 4, 2) := by decide +kernel
theorem dX7_hiddenBy_27 : decode cX7_hiddenBy 27 = .ok (.aload_n 0, 1) := by decide +kernel
theorem dX7_hiddenBy_28 : decode cX7_hiddenBy 28 = .ok (.getfield 7, 3) := by decide +kernel
theorem dX7_hiddenBy_31 : decode cX7_hiddenBy 31 = .ok (.bipush 127, 2) := by decide +kernel
theorem dX7_hiddenBy_33 : decode cX7_hiddenBy 33 = .ok (.bipush 7, 2) := by decide +kernel
theorem dX7_hiddenBy_35 : decode cX7_hiddenBy 35 = .ok (.iload_n 1, 1) := by decide +kernel
theorem dX7_hiddenBy_36 : decode cX7_hiddenBy 36 = .ok (.imul, 1) := by decide +kernel
theorem dX7_hiddenBy_37 : decode cX7_hiddenBy 37 = .ok (.iadd, 1) := by decide +kernel
theorem dX7_hiddenBy_38 : decode cX7_hiddenBy 38 = .ok (.bipush 6, 2) := by decide +kernel
theorem dX7_hiddenBy_40 : decode cX7_hiddenBy 40 = .ok (.iadd, 1) := by decide +kernel
theorem dX7_hiddenBy_41 : decode cX7_hiddenBy 41 = .ok (.iconst 1, 1) := by decide +kernel
theorem dX7_hiddenBy_42 : decode cX7_hiddenBy 42 = .ok (.iastore, 1) := by decide +kernel
theorem dX7_hiddenBy_43 : decode cX7_hiddenBy 43 = .ok (.aload_n 0, 1) := by decide +kernel
theorem dX7_hiddenBy_44 : decode cX7_hiddenBy 44 = .ok (.invokevirtual 80, 3) := by decide +kernel
theorem dX7_hiddenBy_47 : decode cX7_hiddenBy 47 = .ok (.aload_n 0, 1) := by decide +kernel
theorem dX7_hiddenBy_48 : decode cX7_hiddenBy 48 = .ok (.iload_n 2, 1) := by decide +kernel
theorem dX7_hiddenBy_49 : decode cX7_hiddenBy 49 = .ok (.iconst 1, 1) := by decide +kernel
theorem dX7_hiddenBy_50 : decode cX7_hiddenBy 50 = .ok (.invokevirtual 163, 3) := by decide +kernel
theorem dX7_hiddenBy_53 : decode cX7_hiddenBy 53 = .ok (.istore 5, 2) := by decide +kernel
theorem dX7_hiddenBy_55 : decode cX7_hiddenBy 55 = .ok (.aload_n 0, 1) := by decide +kernel
theorem dX7_hiddenBy_56 : decode cX7_hiddenBy 56 = .ok (.getfield 7, 3) := by decide +kernel
theorem dX7_hiddenBy_59 : decode cX7_hiddenBy 59 = .ok (.bipush 127, 2) := by decide +kernel
theorem dX7_hiddenBy_61 : decode cX7_hiddenBy 61 = .ok (.bipush 7, 2) := by decide +kernel
theorem dX7_hiddenBy_63 : decode cX7_hiddenBy 63 = .ok (.iload_n 1, 1) := by decide +kernel
theorem dX7_hiddenBy_64 : decode cX7_hiddenBy 64 = .ok (.imul, 1) := by decide +kernel
theorem dX7_hiddenBy_65 : decode cX7_hiddenBy 65 = .ok (.iadd, 1) := by decide +kernel
theorem dX7_hiddenBy_66 : decode cX7_hiddenBy 66 = .ok (.bipush 6, 2) := by decide +kernel
theorem dX7_hiddenBy_68 : decode cX7_hiddenBy 68 = .ok (.iadd, 1) := by decide +kernel
theorem dX7_hiddenBy_69 : decode cX7_hiddenBy 69 = .ok (.iload_n 3, 1) := by decide +kernel
theorem dX7_hiddenBy_70 : decode cX7_hiddenBy 70 = .ok (.iastore, 1) := by decide +kernel
theorem dX7_hiddenBy_71 : decode cX7_hiddenBy 71 = .ok (.iload 4, 2) := by decide +kernel
theorem dX7_hiddenBy_73 : decode cX7_hiddenBy 73 = .ok (.iload 5, 2) := by decide +kernel
theorem dX7_hiddenBy_75 : decode cX7_hiddenBy 75 = .ok (.iconst (-1), 1) := by decide +kernel
theorem dX7_hiddenBy_76 : decode cX7_hiddenBy 76 = .ok (.ixor, 1) := by decide +kernel
theorem dX7_hiddenBy_77 : decode cX7_hiddenBy 77 = .ok (.iand, 1) := by decide +kernel
theorem dX7_hiddenBy_78 : decode cX7_hiddenBy 78 = .ok (.ireturn, 1) := by decide +kernel
set_option maxRecDepth 20000 in
theorem ggX7_hides_X7_isStamp : GoodIn wsX7_hides wsX7_isStamp := goodIn_r _ [5, 6, 7, 8, 4, 9, 31, 32, 33, 34, 35, 36, 37, 38, 39, 40, 41, 42, 43, 44, 45, 46] (by decide +kernel) (by decide +kernel)
set_option maxRecDepth 20000 in
theorem gX7_hides_X7_isStamp : GoodIn wsX7_hides (wsV RX7 119 RX7 yX7_isStamp wsX7_isStamp) := goodIn_app (goodIn_of _ (by decide +kernel)) ggX7_hides_X7_isStamp
set_option maxRecDepth 20000 in
theorem ggX7_hides_X7_hiddenBy : GoodIn wsX7_hides wsX7_hiddenBy := goodIn_r _ [13, 6, 14, 15, 16, 4, 17, 18, 19, 20, 21, 22, 23, 24, 25, 26, 27, 28, 29, 30, 31, 32, 33, 34, 35, 36, 37, 38, 39, 40, 41, 42, 43, 44, 45, 46] (by decide +kernel) (by decide +kernel)
set_option maxRecDepth 20000 in
theorem gX7_hides_X7_hiddenBy : GoodIn wsX7_hides (wsV RX7 187 RX7 yX7_hiddenBy wsX7_hiddenBy) := goodIn_app (goodIn_of _ (by decide +kernel)) ggX7_hides_X7_hiddenBy
theorem dX7_hides_0 : decode cX7_hides 0 = .ok (.aload_n 0, 1) := by decide +kernel
theorem dX7_hides_1 : decode cX7_hides 1 = .ok (.iload_n 1, 1) := by decide +kernel
theorem dX7_hides_2 : decode cX7_hides 2 = .ok (.invokevirtual 119, 3) := by decide +kernel
theorem dX7_hides_5 : decode cX7_hides 5 = .ok (.ifCond .eq 11, 3) := by decide +kernel
theorem dX7_hides_8 : decode cX7_hides 8 = .ok (.aload_n 0, 1) := by decide +kernel
theorem dX7_hides_9 : decode cX7_hides 9 = .ok (.iload_n 1, 1) := by decide +kernel
theorem dX7_hides_10 : decode cX7_hides 10 = .ok (.invokevirtual 187, 3) := by decide +kernel
theorem dX7_hides_13 : decode cX7_hides 13 = .ok (.goto 4, 3) := by decide +kernel
theorem dX7_hides_16 : decode cX7_hides 16 = .ok (.iconst (-1), 1) := by decide +kernel
theorem dX7_hides_17 : decode cX7_hides 17 = .ok (.ireturn, 1) := by decide +kernel
set_option maxRecDepth 20000 in
theorem ggX7_needless_X7_isPage : GoodIn wsX7_needless wsX7_isPage := goodIn_r _ [6, 7, 8, 5, 9] (by decide +kernel) (by decide +kernel)
set_option maxRecDepth 20000 in
theorem gX7_needless_X7_isPage : GoodIn wsX7_needless (va_wsS RX7 90 yX7_isPage wsX7_isPage) := goodIn_app (goodIn_of _ (by decide +kernel)) ggX7_needless_X7_isPage
set_option maxRecDepth 20000 in
theorem ggX7_needless_X7_of : GoodIn wsX7_needless wsX7_of := goodIn_r _ [13, 2, 35, 36, 37, 38, 39, 40, 41, 42, 43, 44, 45, 46, 47, 48, 49, 50] (by decide +kernel) (by decide +kernel)
set_option maxRecDepth 20000 in
theorem gX7_needless_X7_of : GoodIn wsX7_needless (wsV RX7 56 RX7 yX7_of wsX7_of) := goodIn_app (goodIn_of _ (by decide +kernel)) ggX7_needless_X7_of
set_option maxRecDepth 20000 in
theorem ggX7_needless_X7_isGood : GoodIn wsX7_needless wsX7_isGood := goodIn_r _ [17, 18, 19, 20, 21, 5, 22, 2, 10, 11, 12, 13, 23, 24, 25, 26, 35, 36, 37, 38, 39, 40, 41, 42, 43, 44, 45, 46, 47, 48, 49, 50] (by decide +kernel) (by decide +kernel)
set_option maxRecDepth 20000 in
theorem gX7_needless_X7_isGood : GoodIn wsX7_needless (wsV RX7 172 RX7 yX7_isGood wsX7_isGood) := goodIn_app (goodIn_of _ (by decide +kernel)) ggX7_needless_X7_isGood
set_option maxRecDepth 20000 in
theorem ggX7_needless_X7_hiddenBy : GoodIn wsX7_needless wsX7_hiddenBy := goodIn_r _ [30, 2, 10, 11, 12, 5, 13, 19, 20, 21, 22, 18, 23, 24, 25, 26, 31, 32, 33, 34, 35, 36, 37, 38, 39, 40, 41, 42, 43, 44, 45, 46, 47, 48, 49, 50] (by decide +kernel) (by decide +kernel)
set_option maxRecDepth 20000 in
theorem gX7_needless_X7_hiddenBy : GoodIn wsX7_needless (wsV RX7 187 RX7 yX7_hiddenBy wsX7_hiddenBy) := goodIn_app (goodIn_of _ (by decide +kernel)) ggX7_needless_X7_hiddenBy
theorem dX7_needless_0 : decode cX7_needless 0 = .ok (.iload_n 1, 1) := by decide +kernel
theorem dX7_needless_1 : decode cX7_needless 1 = .ok (.invokestatic 90, 3) := by decide +kernel
theorem dX7_needless_4 : decode cX7_needless 4 = .ok (.ifCond .ne 7, 3) := by decide +kernel
theorem dX7_needless_7 : decode cX7_needless 7 = .ok (.ldc2_w 190, 3) := by decide +kernel
theorem dX7_needless_10 : decode cX7_needless 10 = .ok (.lreturn, 1) := by decide +kernel
theorem dX7_needless_11 : decode cX7_needless 11 = .ok (.lconst 0, 1) := by decide +kernel
theorem dX7_needless_12 : decode cX7_needless 12 = .ok (.lstore_n 2, 1) := by decide +kernel
theorem dX7_needless_13 : decode cX7_needless 13 = .ok (.iconst 0, 1) := by decide +kernel
theorem dX7_needless_14 : decode cX7_needless 14 = .ok (.istore 4, 2) := by decide +kernel
theorem dX7_needless_16 : decode cX7_needless 16 = .ok (.iload 4, 2) := by decide +kernel
theorem dX7_needless_18 : decode cX7_needless 18 = .ok (.aload_n 0, 1) := by decide +kernel
theorem dX7_needless_19 : decode cX7_needless 19 = .ok (.getfield 7, 3) := by decide +kernel
theorem dX7_needless_22 : decode cX7_needless 22 = .ok (.bipush 76, 2) := by decide +kernel
theorem dX7_needless_24 : decode cX7_needless 24 = .ok (.iaload, 1) := by decide +kernel
theorem dX7_needless_25 : decode cX7_needless 25 = .ok (.if_icmp .ge 49, 3) := by decide +kernel
theorem dX7_needless_28 : decode cX7_needless 28 = .ok (.lload_n 2, 1) := by decide +kernel
theorem dX7_needless_29 : decode cX7_needless 29 = .ok (.aload_n 0, 1) := by decide +kernel
theorem dX7_needless_30 : decode cX7_needless 30 = .ok (.iload 4, 2) := by decide +kernel
theorem dX7_needless_32 : decode cX7_needless 32 = .ok (.iconst 0, 1) := by decide +kernel
theorem dX7_needless_33 : decode cX7_needless 33 = .ok (.invokevirtual 56, 3) := by decide +kernel
theorem dX7_needless_36 : decode cX7_needless 36 = .ok (.iload_n 1, 1) := by decide +kernel
theorem dX7_needless_37 : decode cX7_needless 37 = .ok (.if_icmp .ne 28, 3) := by decide +kernel
theorem dX7_needless_40 : decode cX7_needless 40 = .ok (.aload_n 0, 1) := by decide +kernel
theorem dX7_needless_41 : decode cX7_needless 41 = .ok (.iload 4, 2) := by decide +kernel
theorem dX7_needless_43 : decode cX7_needless 43 = .ok (.invokevirtual 172, 3) := by decide +kernel
theorem dX7_needless_46 : decode cX7_needless 46 = .ok (.ifCond .eq 19, 3) := by decide +kernel
theorem dX7_needless_49 : decode cX7_needless 49 = .ok (.aload_n 0, 1) := by decide +kernel
theorem dX7_needless_50 : decode cX7_needless 50 = .ok (.iload 4, 2) := by decide +kernel
theorem dX7_needless_52 : decode cX7_needless 52 = .ok (.invokevirtual 187, 3) := by decide +kernel
theorem dX7_needless_55 : decode cX7_needless 55 = .ok (.ifCond .ne 10, 3) := by decide +kernel
theorem dX7_needless_58 : decode cX7_needless 58 = .ok (.lconst 1, 1) := by decide +kernel
theorem dX7_needless_59 : decode cX7_needless 59 = .ok (.iload 4, 2) := by decide +kernel
theorem dX7_needless_61 : decode cX7_needless 61 = .ok (.lshl, 1) := by decide +kernel
theorem dX7_needless_62 : decode cX7_needless 62 = .ok (.goto 4, 3) := by decide +kernel
theorem dX7_needless_65 : decode cX7_needless 65 = .ok (.lconst 0, 1) := by decide +kernel
theorem dX7_needless_66 : decode cX7_needless 66 = .ok (.lor, 1) := by decide +kernel
theorem dX7_needless_67 : decode cX7_needless 67 = .ok (.lstore_n 2, 1) := by decide +kernel
theorem dX7_needless_68 : decode cX7_needless 68 = .ok (.iinc 4 1, 3) := by decide +kernel
theorem dX7_needless_71 : decode cX7_needless 71 = .ok (.goto (-55), 3) := by decide +kernel
theorem dX7_needless_74 : decode cX7_needless 74 = .ok (.lload_n 2, 1) := by decide +kernel
theorem dX7_needless_75 : decode cX7_needless 75 = .ok (.lreturn, 1) := by decide +kernel
set_option maxRecDepth 20000 in
theorem ggX7_longest_X7_findGood : GoodIn wsX7_longest wsX7_findGood := goodIn_r _ [7, 1, 2, 8, 9, 10, 6, 11, 12, 13, 14, 15, 20, 21, 22, 23, 24, 25, 26, 27, 28, 29, 30, 31, 32, 33, 34, 35] (by decide +kernel) (by decide +kernel)
set_option maxRecDepth 20000 in
theorem gX7_longest_X7_findGood : GoodIn wsX7_longest (wsV RX7 80 RX7 yX7_findGood wsX7_findGood) := goodIn_app (goodIn_of _ (by decide +kernel)) ggX7_longest_X7_findGood
set_option maxRecDepth 20000 in
theorem ggX7_longest_X7_chain : GoodIn wsX7_longest wsX7_chain := goodIn_r _ [19, 8, 9, 10, 6, 11, 1, 20, 21, 22, 23, 24, 25, 26, 27, 28, 29, 30, 31, 32, 33, 34, 35] (by decide +kernel) (by decide +kernel)
set_option maxRecDepth 20000 in
theorem gX7_longest_X7_chain : GoodIn wsX7_longest (wsV RX7 175 RX7 yX7_chain wsX7_chain) := goodIn_app (goodIn_of _ (by decide +kernel)) ggX7_longest_X7_chain
theorem dX7_longest_0 : decode cX7_longest 0 = .ok (.aload_n 0, 1) := by decide +kernel
theorem dX7_longest_1 : decode cX7_longest 1 = .ok (.invokevirtual 80, 3) := by decide +kernel
theorem dX7_longest_4 : decode cX7_longest 4 = .ok (.bipush (-6), 2) := by decide +kernel
theorem dX7_longest_6 : decode cX7_longest 6 = .ok (.istore_n 1, 1) := by decide +kernel
theorem dX7_longest_7 : decode cX7_longest 7 = .ok (.iconst 0, 1) := by decide +kernel
theorem dX7_longest_8 : decode cX7_longest 8 = .ok (.istore_n 2, 1) := by decide +kernel
theorem dX7_longest_9 : decode cX7_longest 9 = .ok (.iload_n 2, 1) := by decide +kernel
theorem dX7_longest_10 : decode cX7_longest 10 = .ok (.aload_n 0, 1) := by decide +kernel
theorem dX7_longest_11 : decode cX7_longest 11 = .ok (.getfield 7, 3) := by decide +kernel
theorem dX7_longest_14 : decode cX7_longest 14 = .ok (.bipush 76, 2) := by decide +kernel
theorem dX7_longest_16 : decode cX7_longest 16 = .ok (.iaload, 1) := by decide +kernel
theorem dX7_longest_17 : decode cX7_longest 17 = .ok (.if_icmp .ge 41, 3) := by decide +kernel
theorem dX7_longest_20 : decode cX7_longest 20 = .ok (.aload_n 0, 1) := by decide +kernel
theorem dX7_longest_21 : decode cX7_longest 21 = .ok (.getfield 23, 3) := by decide +kernel
theorem dX7_longest_24 : decode cX7_longest 24 = .ok (.iload_n 2, 1) := by decide +kernel
theorem dX7_longest_25 : decode cX7_longest 25 = .ok (.baload, 1) := by decide +kernel
theorem dX7_longest_26 : decode cX7_longest 26 = .ok (.ifCond .eq 24, 3) := by decide +kernel
theorem dX7_longest_29 : decode cX7_longest 29 = .ok (.iload_n 1, 1) := by decide +kernel
theorem dX7_longest_30 : decode cX7_longest 30 = .ok (.ifCond .lt 16, 3) := by decide +kernel
theorem dX7_longest_33 : decode cX7_longest 33 = .ok (.aload_n 0, 1) := by decide +kernel
theorem dX7_longest_34 : decode cX7_longest 34 = .ok (.iload_n 2, 1) := by decide +kernel
theorem dX7_longest_35 : decode cX7_longest 35 = .ok (.invokevirtual 175, 3) := by decide +kernel
theorem dX7_longest_38 : decode cX7_longest 38 = .ok (.aload_n 0, 1) := by decide +kernel
theorem dX7_longest_39 : decode cX7_longest 39 = .ok (.iload_n 1, 1) := by decide +kernel
theorem dX7_longest_40 : decode cX7_longest 40 = .ok (.invokevirtual 175, 3) := by decide +kernel
theorem dX7_longest_43 : decode cX7_longest 43 = .ok (.if_icmp .le 7, 3) := by decide +kernel
theorem dX7_longest_46 : decode cX7_longest 46 = .ok (.iload_n 2, 1) := by decide +kernel
theorem dX7_longest_47 : decode cX7_longest 47 = .ok (.goto 4, 3) := by decide +kernel
theorem dX7_longest_50 : decode cX7_longest 50 = .ok (.iload_n 1, 1) := by decide +kernel
theorem dX7_longest_51 : decode cX7_longest 51 = .ok (.istore_n 1, 1) := by decide +kernel
theorem dX7_longest_52 : decode cX7_longest 52 = .ok (.iinc 2 1, 3) := by decide +kernel
theorem dX7_longest_55 : decode cX7_longest 55 = .ok (.goto (-46), 3) := by decide +kernel
theorem dX7_longest_58 : decode cX7_longest 58 = .ok (.iload_n 1, 1) := by decide +kernel
theorem dX7_longest_59 : decode cX7_longest 59 = .ok (.ireturn, 1) := by decide +kernel
set_option maxRecDepth 20000 in
theorem ggX7_put_X7_in : GoodIn wsX7_put wsX7_in := goodIn_r _ [7] (by decide +kernel) (by decide +kernel)
set_option maxRecDepth 20000 in
theorem gX7_put_X7_in : GoodIn wsX7_put (va_wsS RX7 38 yX7_in wsX7_in) := goodIn_app (goodIn_of _ (by decide +kernel)) ggX7_put_X7_in
theorem dX7_put_0 : decode cX7_put 0 = .ok (.iconst 0, 1) := by decide +kernel
theorem dX7_put_1 : decode cX7_put 1 = .ok (.istore_n 3, 1) := by decide +kernel
theorem dX7_put_2 : decode cX7_put 2 = .ok (.lload_n 1, 1) := by decide +kernel
theorem dX7_put_3 : decode cX7_put 3 = .ok (.lstore 4, 2) := by decide +kernel
theorem dX7_put_5 : decode cX7_put 5 = .ok (.iload_n 3, 1) := by decide +kernel
theorem dX7_put_6 : decode cX7_put 6 = .ok (.bipush 8, 2) := by decide +kernel
theorem dX7_put_8 : decode cX7_put 8 = .ok (.if_icmp .ge 47, 3) := by decide +kernel
theorem dX7_put_11 : decode cX7_put 11 = .ok (.lload 4, 2) := by decide +kernel
theorem dX7_put_13 : decode cX7_put 13 = .ok (.ldc2_w 192, 3) := by decide +kernel
theorem dX7_put_16 : decode cX7_put 16 = .ok (.land, 1) := by decide +kernel
theorem dX7_put_17 : decode cX7_put 17 = .ok (.lconst 0, 1) := by decide +kernel
theorem dX7_put_18 : decode cX7_put 18 = .ok (.lcmp, 1) := by decide +kernel
theorem dX7_put_19 : decode cX7_put 19 = .ok (.ifCond .eq 36, 3) := by decide +kernel
theorem dX7_put_22 : decode cX7_put 22 = .ok (.lload 4, 2) := by decide +kernel
theorem dX7_put_24 : decode cX7_put 24 = .ok (.ldc2_w 192, 3) := by decide +kernel
theorem dX7_put_27 : decode cX7_put 27 = .ok (.land, 1) := by decide +kernel
theorem dX7_put_28 : decode cX7_put 28 = .ok (.l2i, 1) := by decide +kernel
theorem dX7_put_29 : decode cX7_put 29 = .ok (.bipush 33, 2) := by decide +kernel
theorem dX7_put_31 : decode cX7_put 31 = .ok (.bipush 126, 2) := by decide +kernel
theorem dX7_put_33 : decode cX7_put 33 = .ok (.invokestatic 38, 3) := by decide +kernel
theorem dX7_put_36 : decode cX7_put 36 = .ok (.ifCond .ne 6, 3) := by decide +kernel
theorem dX7_put_39 : decode cX7_put 39 = .ok (.bipush (-2), 2) := by decide +kernel
theorem dX7_put_41 : decode cX7_put 41 = .ok (.ireturn, 1) := by decide +kernel
theorem dX7_put_42 : decode cX7_put 42 = .ok (.iinc 3 1, 3) := by decide +kernel
theorem dX7_put_45 : decode cX7_put 45 = .ok (.lload 4, 2) := by decide +kernel
theorem dX7_put_47 : decode cX7_put 47 = .ok (.bipush 8, 2) := by decide +kernel
theorem dX7_put_49 : decode cX7_put 49 = .ok (.lushr, 1) := by decide +kernel
theorem dX7_put_50 : decode cX7_put 50 = .ok (.lstore 4, 2) := by decide +kernel
theorem dX7_put_52 : decode cX7_put 52 = .ok (.goto (-47), 3) := by decide +kernel
theorem dX7_put_55 : decode cX7_put 55 = .ok (.iload_n 3, 1) := by decide +kernel
theorem dX7_put_56 : decode cX7_put 56 = .ok (.ifCond .eq 10, 3) := by decide +kernel
theorem dX7_put_59 : decode cX7_put 59 = .ok (.lload 4, 2) := by decide +kernel
theorem dX7_put_61 : decode cX7_put 61 = .ok (.lconst 0, 1) := by decide +kernel
theorem dX7_put_62 : decode cX7_put 62 = .ok (.lcmp, 1) := by decide +kernel
theorem dX7_put_63 : decode cX7_put 63 = .ok (.ifCond .eq 6, 3) := by decide +kernel
theorem dX7_put_66 : decode cX7_put 66 = .ok (.bipush (-2), 2) := by decide +kernel
theorem dX7_put_68 : decode cX7_put 68 = .ok (.ireturn, 1) := by decide +kernel
theorem dX7_put_69 : decode cX7_put 69 = .ok (.aload_n 0, 1) := by decide +kernel
theorem dX7_put_70 : decode cX7_put 70 = .ok (.getfield 184, 3) := by decide +kernel
theorem dX7_put_73 : decode cX7_put 73 = .ok (.iload_n 3, 1) := by decide +kernel
theorem dX7_put_74 : decode cX7_put 74 = .ok (.iadd, 1) := by decide +kernel
theorem dX7_put_75 : decode cX7_put 75 = .ok (.bipush 80, 2) := by decide +kernel
theorem dX7_put_77 : decode cX7_put 77 = .ok (.if_icmp .le 6, 3) := by decide +kernel
theorem dX7_put_80 : decode cX7_put 80 = .ok (.bipush (-4), 2) := by decide +kernel
theorem dX7_put_82 : decode cX7_put 82 = .ok (.ireturn, 1) := by decide +kernel
theorem dX7_put_83 : decode cX7_put 83 = .ok (.iconst 0, 1) := by decide +kernel
theorem dX7_put_84 : decode cX7_put 84 = .ok (.istore 6, 2) := by decide +kernel
theorem dX7_put_86 : decode cX7_put 86 = .ok (.iload 6, 2) := by decide +kernel
theorem dX7_put_88 : decode cX7_put 88 = .ok (.iload_n 3, 1) := by decide +kernel
theorem dX7_put_89 : decode cX7_put 89 = .ok (.if_icmp .ge 37, 3) := by decide +kernel
theorem dX7_put_92 : decode cX7_put 92 = .ok (.aload_n 0, 1) := by decide +kernel
theorem dX7_put_93 : decode cX7_put 93 = .ok (.getfield 29, 3) := by decide +kernel
theorem dX7_put_96 : decode cX7_put 96 = .ok (.aload_n 0, 1) := by decide +kernel
theorem dX7_put_97 : decode cX7_put 97 = .ok (.getfield 184, 3) := by decide +kernel
theorem dX7_put_100 : decode cX7_put 100 = .ok (.iload 6, 2) := by decide +kernel
theorem dX7_put_102 : decode cX7_put 102 = .ok (.iadd, 1) := by decide +kernel
theorem dX7_put_103 : decode cX7_put 103 = .ok (.lload_n 1, 1) := by decide +kernel
theorem dX7_put_104 : decode cX7_put 104 = .ok (.bipush 8, 2) := by decide +kernel
theorem dX7_put_106 : decode cX7_put 106 = .ok (.iload_n 3, 1) := by decide +kernel
theorem dX7_put_107 : decode cX7_put 107 = .ok (.iconst 1, 1) := by decide +kernel
theorem dX7_put_108 : decode cX7_put 108 = .ok (.isub, 1) := by decide +kernel
theorem dX7_put_109 : decode cX7_put 109 = .ok (.iload 6, 2) := by decide +kernel
theorem dX7_put_111 : decode cX7_put 111 = .ok (.isub, 1) := by decide +kernel
theorem dX7_put_112 : decode cX7_put 112 = .ok (.imul, 1) := by decide +kernel
theorem dX7_put_113 : decode cX7_put 113 = .ok (.lshr, 1) := by decide +kernel
theorem dX7_put_114 : decode cX7_put 114 = .ok (.ldc2_w 192, 3) := by decide +kernel
theorem dX7_put_117 : decode cX7_put 117 = .ok (.land, 1) := by decide +kernel
theorem dX7_put_118 : decode cX7_put 118 = .ok (.l2i, 1) := by decide +kernel
theorem dX7_put_119 : decode cX7_put 119 = .ok (.iastore, 1) := by decide +kernel
theorem dX7_put_120 : decode cX7_put 120 = .ok (.iinc 6 1, 3) := by decide +kernel
theorem dX7_put_123 : decode cX7_put 123 = .ok (.goto (-37), 3) := by decide +kernel
theorem dX7_put_126 : decode cX7_put 126 = .ok (.aload_n 0, 1) := by decide +kernel
theorem dX7_put_127 : decode cX7_put 127 = .ok (.dup, 1) := by decide +kernel
theorem dX7_put_128 : decode cX7_put 128 = .ok (.getfield 184, 3) := by decide +kernel
theorem dX7_put_131 : decode cX7_put 131 = .ok (.iload_n 3, 1) := by decide +kernel
theorem dX7_put_132 : decode cX7_put 132 = .ok (.iadd, 1) := by decide +kernel
theorem dX7_put_133 : decode cX7_put 133 = .ok (.putfield 184, 3) := by decide +kernel
theorem dX7_put_136 : decode cX7_put 136 = .ok (.aload_n 0, 1) := by decide +kernel
theorem dX7_put_137 : decode cX7_put 137 = .ok (.getfield 184, 3) := by decide +kernel
theorem dX7_put_140 : decode cX7_put 140 = .ok (.ireturn, 1) := by decide +kernel
theorem dX7_wipe_0 : decode cX7_wipe 0 = .ok (.aload_n 0, 1) := by decide +kernel
theorem dX7_wipe_1 : decode cX7_wipe 1 = .ok (.getfield 184, 3) := by decide +kernel
theorem dX7_wipe_4 : decode cX7_wipe 4 = .ok (.istore_n 1, 1) := by decide +kernel
theorem dX7_wipe_5 : decode cX7_wipe 5 = .ok (.aload_n 0, 1) := by decide +kernel
theorem dX7_wipe_6 : decode cX7_wipe 6 = .ok (.iconst 0, 1) := by decide +kernel
theorem dX7_wipe_7 : decode cX7_wipe 7 = .ok (.putfield 184, 3) := by decide +kernel
theorem dX7_wipe_10 : decode cX7_wipe 10 = .ok (.iload_n 1, 1) := by decide +kernel
theorem dX7_wipe_11 : decode cX7_wipe 11 = .ok (.ireturn, 1) := by decide +kernel
theorem dX7_next_0 : decode cX7_next 0 = .ok (.aload_n 0, 1) := by decide +kernel
theorem dX7_next_1 : decode cX7_next 1 = .ok (.getfield 194, 3) := by decide +kernel
theorem dX7_next_4 : decode cX7_next 4 = .ok (.aload_n 0, 1) := by decide +kernel
theorem dX7_next_5 : decode cX7_next 5 = .ok (.getfield 184, 3) := by decide +kernel
theorem dX7_next_8 : decode cX7_next 8 = .ok (.if_icmp .ge 15, 3) := by decide +kernel
theorem dX7_next_11 : decode cX7_next 11 = .ok (.aload_n 0, 1) := by decide +kernel
theorem dX7_next_12 : decode cX7_next 12 = .ok (.getfield 29, 3) := by decide +kernel
theorem dX7_next_15 : decode cX7_next 15 = .ok (.aload_n 0, 1) := by decide +kernel
theorem dX7_next_16 : decode cX7_next 16 = .ok (.getfield 194, 3) := by decide +kernel
theorem dX7_next_19 : decode cX7_next 19 = .ok (.iaload, 1) := by decide +kernel
theorem dX7_next_20 : decode cX7_next 20 = .ok (.goto 4, 3) := by decide +kernel
theorem dX7_next_23 : decode cX7_next 23 = .ok (.iconst 0, 1) := by decide +kernel
theorem dX7_next_24 : decode cX7_next 24 = .ok (.ireturn, 1) := by decide +kernel
theorem dX7_lay_0 : decode cX7_lay 0 = .ok (.aload_n 0, 1) := by decide +kernel
theorem dX7_lay_1 : decode cX7_lay 1 = .ok (.getfield 35, 3) := by decide +kernel
theorem dX7_lay_4 : decode cX7_lay 4 = .ok (.iconst 4, 1) := by decide +kernel
theorem dX7_lay_5 : decode cX7_lay 5 = .ok (.aload_n 0, 1) := by decide +kernel
theorem dX7_lay_6 : decode cX7_lay 6 = .ok (.getfield 197, 3) := by decide +kernel
theorem dX7_lay_9 : decode cX7_lay 9 = .ok (.imul, 1) := by decide +kernel
theorem dX7_lay_10 : decode cX7_lay 10 = .ok (.iload_n 1, 1) := by decide +kernel
theorem dX7_lay_11 : decode cX7_lay 11 = .ok (.iadd, 1) := by decide +kernel
theorem dX7_lay_12 : decode cX7_lay 12 = .ok (.iload_n 2, 1) := by decide +kernel
theorem dX7_lay_13 : decode cX7_lay 13 = .ok (.iastore, 1) := by decide +kernel
theorem dX7_lay_14 : decode cX7_lay 14 = .ok (.return_, 1) := by decide +kernel
set_option maxRecDepth 20000 in
theorem ggX7_takeSign_X7_next : GoodIn wsX7_takeSign wsX7_next := goodIn_r _ [7, 2, 8, 9, 10, 11, 12, 13, 14, 15, 16, 17, 18, 19, 20, 21, 22, 23, 24, 25] (by decide +kernel) (by decide +kernel)
set_option maxRecDepth 20000 in
theorem gX7_takeSign_X7_next : GoodIn wsX7_takeSign (wsV RX7 204 RX7 yX7_next wsX7_next) := goodIn_app (goodIn_of _ (by decide +kernel)) ggX7_takeSign_X7_next
theorem dX7_takeSign_0 : decode cX7_takeSign 0 = .ok (.aload_n 0, 1) := by decide +kernel
theorem dX7_takeSign_1 : decode cX7_takeSign 1 = .ok (.aload_n 0, 1) := by decide +kernel
theorem dX7_takeSign_2 : decode cX7_takeSign 2 = .ok (.getfield 200, 3) := by decide +kernel
theorem dX7_takeSign_5 : decode cX7_takeSign 5 = .ok (.ifCond .ne 11, 3) := by decide +kernel
theorem dX7_takeSign_8 : decode cX7_takeSign 8 = .ok (.aload_n 0, 1) := by decide +kernel
theorem dX7_takeSign_9 : decode cX7_takeSign 9 = .ok (.invokevirtual 204, 3) := by decide +kernel
theorem dX7_takeSign_12 : decode cX7_takeSign 12 = .ok (.iload_n 1, 1) := by decide +kernel
theorem dX7_takeSign_13 : decode cX7_takeSign 13 = .ok (.if_icmp .eq 7, 3) := by decide +kernel
theorem dX7_takeSign_16 : decode cX7_takeSign 16 = .ok (.iconst 1, 1) := by decide +kernel
theorem dX7_takeSign_17 : decode cX7_takeSign 17 = .ok (.goto 4, 3) := by decide +kernel
theorem dX7_takeSign_20 : decode cX7_takeSign 20 = .ok (.iconst 0, 1) := by decide +kernel
theorem dX7_takeSign_21 : decode cX7_takeSign 21 = .ok (.putfield 200, 3) := by decide +kernel
theorem dX7_takeSign_24 : decode cX7_takeSign 24 = .ok (.aload_n 0, 1) := by decide +kernel
theorem dX7_takeSign_25 : decode cX7_takeSign 25 = .ok (.dup, 1) := by decide +kernel
theorem dX7_takeSign_26 : decode cX7_takeSign 26 = .ok (.getfield 194, 3) := by decide +kernel
theorem dX7_takeSign_29 : decode cX7_takeSign 29 = .ok (.aload_n 0, 1) := by decide +kernel
theorem dX7_takeSign_30 : decode cX7_takeSign 30 = .ok (.getfield 200, 3) := by decide +kernel
theorem dX7_takeSign_33 : decode cX7_takeSign 33 = .ok (.ifCond .eq 7, 3) := by decide +kernel
theorem dX7_takeSign_36 : decode cX7_takeSign 36 = .ok (.iconst 0, 1) := by decide +kernel
theorem dX7_takeSign_37 : decode cX7_takeSign 37 = .ok (.goto 4, 3) := by decide +kernel
theorem dX7_takeSign_40 : decode cX7_takeSign 40 = .ok (.iconst 1, 1) := by decide +kernel
theorem dX7_takeSign_41 : decode cX7_takeSign 41 = .ok (.iadd, 1) := by decide +kernel
theorem dX7_takeSign_42 : decode cX7_takeSign 42 = .ok (.putfield 194, 3) := by decide +kernel
theorem dX7_takeSign_45 : decode cX7_takeSign 45 = .ok (.return_, 1) := by decide +kernel
set_option maxRecDepth 20000 in
theorem ggX7_takeOne_X7_next : GoodIn wsX7_takeOne wsX7_next := goodIn_r _ [7, 2, 8, 9, 19, 20, 21, 22, 23, 24, 25, 26, 27, 28, 29, 30, 31, 32, 33, 34] (by decide +kernel) (by decide +kernel)
set_option maxRecDepth 20000 in
theorem gX7_takeOne_X7_next : GoodIn wsX7_takeOne (wsV RX7 204 RX7 yX7_next wsX7_next) := goodIn_app (goodIn_of _ (by decide +kernel)) ggX7_takeOne_X7_next
set_option maxRecDepth 20000 in
theorem ggX7_takeOne_X7_in : GoodIn wsX7_takeOne wsX7_in := goodIn_r _ [12] (by decide +kernel) (by decide +kernel)
set_option maxRecDepth 20000 in
theorem gX7_takeOne_X7_in : GoodIn wsX7_takeOne (va_wsS RX7 38 yX7_in wsX7_in) := goodIn_app (goodIn_of _ (by decide +kernel)) ggX7_takeOne_X7_in
set_option maxRecDepth 20000 in
theorem ggX7_takeOne_X7_lay : GoodIn wsX7_takeOne wsX7_lay := goodIn_r _ [16, 17, 18, 19, 20, 21, 22, 23, 24, 25, 26, 27, 28, 29, 30, 31, 32, 33, 34] (by decide +kernel) (by decide +kernel)
set_option maxRecDepth 20000 in
theorem gX7_takeOne_X7_lay : GoodIn wsX7_takeOne (wsV RX7 207 RX7 yX7_lay wsX7_lay) := goodIn_app (goodIn_of _ (by decide +kernel)) ggX7_takeOne_X7_lay
theorem dX7_takeOne_0 : decode cX7_takeOne 0 = .ok (.aload_n 0, 1) := by decide +kernel
theorem dX7_takeOne_1 : decode cX7_takeOne 1 = .ok (.aload_n 0, 1) := by decide +kernel
theorem dX7_takeOne_2 : decode cX7_takeOne 2 = .ok (.getfield 200, 3) := by decide +kernel
theorem dX7_takeOne_5 : decode cX7_takeOne 5 = .ok (.ifCond .ne 15, 3) := by decide +kernel
theorem dX7_takeOne_8 : decode cX7_takeOne 8 = .ok (.aload_n 0, 1) := by decide +kernel
theorem dX7_takeOne_9 : decode cX7_takeOne 9 = .ok (.invokevirtual 204, 3) := by decide +kernel
theorem dX7_takeOne_12 : decode cX7_takeOne 12 = .ok (.iload_n 2, 1) := by decide +kernel
theorem dX7_takeOne_13 : decode cX7_takeOne 13 = .ok (.iload_n 3, 1) := by decide +kernel
theorem dX7_takeOne_14 : decode cX7_takeOne 14 = .ok (.invokestatic 38, 3) := by decide +kernel
theorem dX7_takeOne_17 : decode cX7_takeOne 17 = .ok (.ifCond .ne 7, 3) := by decide +kernel
theorem dX7_takeOne_20 : decode cX7_takeOne 20 = .ok (.iconst 1, 1) := by decide +kernel
theorem dX7_takeOne_21 : decode cX7_takeOne 21 = .ok (.goto 4, 3) := by decide +kernel
theorem dX7_takeOne_24 : decode cX7_takeOne 24 = .ok (.iconst 0, 1) := by decide +kernel
theorem dX7_takeOne_25 : decode cX7_takeOne 25 = .ok (.putfield 200, 3) := by decide +kernel
theorem dX7_takeOne_28 : decode cX7_takeOne 28 = .ok (.aload_n 0, 1) := by decide +kernel
theorem dX7_takeOne_29 : decode cX7_takeOne 29 = .ok (.getfield 200, 3) := by decide +kernel
theorem dX7_takeOne_32 : decode cX7_takeOne 32 = .ok (.ifCond .ne 25, 3) := by decide +kernel
theorem dX7_takeOne_35 : decode cX7_takeOne 35 = .ok (.aload_n 0, 1) := by decide +kernel
theorem dX7_takeOne_36 : decode cX7_takeOne 36 = .ok (.iload_n 1, 1) := by decide +kernel
theorem dX7_takeOne_37 : decode cX7_takeOne 37 = .ok (.aload_n 0, 1) := by decide +kernel
theorem dX7_takeOne_38 : decode cX7_takeOne 38 = .ok (.invokevirtual 204, 3) := by decide +kernel
theorem dX7_takeOne_41 : decode cX7_takeOne 41 = .ok (.bipush 48, 2) := by decide +kernel
theorem dX7_takeOne_43 : decode cX7_takeOne 43 = .ok (.isub, 1) := by decide +kernel
theorem dX7_takeOne_44 : decode cX7_takeOne 44 = .ok (.invokevirtual 207, 3) := by decide +kernel
theorem dX7_takeOne_47 : decode cX7_takeOne 47 = .ok (.aload_n 0, 1) := by decide +kernel
theorem dX7_takeOne_48 : decode cX7_takeOne 48 = .ok (.dup, 1) := by decide +kernel
theorem dX7_takeOne_49 : decode cX7_takeOne 49 = .ok (.getfield 194, 3) := by decide +kernel
theorem dX7_takeOne_52 : decode cX7_takeOne 52 = .ok (.iconst 1, 1) := by decide +kernel
theorem dX7_takeOne_53 : decode cX7_takeOne 53 = .ok (.iadd, 1) := by decide +kernel
theorem dX7_takeOne_54 : decode cX7_takeOne 54 = .ok (.putfield 194, 3) := by decide +kernel
theorem dX7_takeOne_57 : decode cX7_takeOne 57 = .ok (.return_, 1) := by decide +kernel
set_option maxRecDepth 20000 in
theorem ggX7_takeNumber_X7_next : GoodIn wsX7_takeNumber wsX7_next := goodIn_r _ [7, 2, 8, 9, 19, 20, 21, 22, 23, 24, 25, 26, 27, 28, 29, 30, 31, 32, 33, 34] (by decide +kernel) (by decide +kernel)
set_option maxRecDepth 20000 in
theorem gX7_takeNumber_X7_next : GoodIn wsX7_takeNumber (wsV RX7 204 RX7 yX7_next wsX7_next) := goodIn_app (goodIn_of _ (by decide +kernel)) ggX7_takeNumber_X7_next
set_option maxRecDepth 20000 in
theorem ggX7_takeNumber_X7_in : GoodIn wsX7_takeNumber wsX7_in := goodIn_r _ [12] (by decide +kernel) (by decide +kernel)
set_option maxRecDepth 20000 in
theorem gX7_takeNumber_X7_in : GoodIn wsX7_takeNumber (va_wsS RX7 38 yX7_in wsX7_in) := goodIn_app (goodIn_of _ (by decide +kernel)) ggX7_takeNumber_X7_in
set_option maxRecDepth 20000 in
theorem ggX7_takeNumber_X7_lay : GoodIn wsX7_takeNumber wsX7_lay := goodIn_r _ [16, 17, 18, 19, 20, 21, 22, 23, 24, 25, 26, 27, 28, 29, 30, 31, 32, 33, 34] (by decide +kernel) (by decide +kernel)
set_option maxRecDepth 20000 in
theorem gX7_takeNumber_X7_lay : GoodIn wsX7_takeNumber (wsV RX7 207 RX7 yX7_lay wsX7_lay) := goodIn_app (goodIn_of _ (by decide +kernel)) ggX7_takeNumber_X7_lay
theorem dX7_takeNumber_0 : decode cX7_takeNumber 0 = .ok (.aload_n 0, 1) := by decide +kernel
theorem dX7_takeNumber_1 : decode cX7_takeNumber 1 = .ok (.aload_n 0, 1) := by decide +kernel
theorem dX7_takeNumber_2 : decode cX7_takeNumber 2 = .ok (.getfield 200, 3) := by decide +kernel
theorem dX7_takeNumber_5 : decode cX7_takeNumber 5 = .ok (.ifCond .ne 17, 3) := by decide +kernel
theorem dX7_takeNumber_8 : decode cX7_takeNumber 8 = .ok (.aload_n 0, 1) := by decide +kernel
theorem dX7_takeNumber_9 : decode cX7_takeNumber 9 = .ok (.invokevirtual 204, 3) := by decide +kernel
theorem dX7_takeNumber_12 : decode cX7_takeNumber 12 = .ok (.bipush 48, 2) := by decide +kernel
theorem dX7_takeNumber_14 : decode cX7_takeNumber 14 = .ok (.bipush 57, 2) := by decide +kernel
theorem dX7_takeNumber_16 : decode cX7_takeNumber 16 = .ok (.invokestatic 38, 3) := by decide +kernel
theorem dX7_takeNumber_19 : decode cX7_takeNumber 19 = .ok (.ifCond .ne 7, 3) := by decide +kernel
theorem dX7_takeNumber_22 : decode cX7_takeNumber 22 = .ok (.iconst 1, 1) := by decide +kernel
theorem dX7_takeNumber_23 : decode cX7_takeNumber 23 = .ok (.goto 4, 3) := by decide +kernel
theorem dX7_takeNumber_26 : decode cX7_takeNumber 26 = .ok (.iconst 0, 1) := by decide +kernel
theorem dX7_takeNumber_27 : decode cX7_takeNumber 27 = .ok (.putfield 200, 3) := by decide +kernel
theorem dX7_takeNumber_30 : decode cX7_takeNumber 30 = .ok (.aload_n 0, 1) := by decide +kernel
theorem dX7_takeNumber_31 : decode cX7_takeNumber 31 = .ok (.getfield 200, 3) := by decide +kernel
theorem dX7_takeNumber_34 : decode cX7_takeNumber 34 = .ok (.ifCond .eq 4, 3) := by decide +kernel
theorem dX7_takeNumber_37 : decode cX7_takeNumber 37 = .ok (.return_, 1) := by decide +kernel
theorem dX7_takeNumber_38 : decode cX7_takeNumber 38 = .ok (.aload_n 0, 1) := by decide +kernel
theorem dX7_takeNumber_39 : decode cX7_takeNumber 39 = .ok (.invokevirtual 204, 3) := by decide +kernel
theorem dX7_takeNumber_42 : decode cX7_takeNumber 42 = .ok (.bipush 48, 2) := by decide +kernel
theorem dX7_takeNumber_44 : decode cX7_takeNumber 44 = .ok (.isub, 1) := by decide +kernel
theorem dX7_takeNumber_45 : decode cX7_takeNumber 45 = .ok (.istore_n 2, 1) := by decide +kernel
theorem dX7_takeNumber_46 : decode cX7_takeNumber 46 = .ok (.aload_n 0, 1) := by decide +kernel
theorem dX7_takeNumber_47 : decode cX7_takeNumber 47 = .ok (.dup, 1) := by decide +kernel
theorem dX7_takeNumber_48 : decode cX7_takeNumber 48 = .ok (.getfield 194, 3) := by decide +kernel
theorem dX7_takeNumber_51 : decode cX7_takeNumber 51 = .ok (.iconst 1, 1) := by decide +kernel
theorem dX7_takeNumber_52 : decode cX7_takeNumber 52 = .ok (.iadd, 1) := by decide +kernel
theorem dX7_takeNumber_53 : decode cX7_takeNumber 53 = .ok (.putfield 194, 3) := by decide +kernel
theorem dX7_takeNumber_56 : decode cX7_takeNumber 56 = .ok (.aload_n 0, 1) := by decide +kernel
theorem dX7_takeNumber_57 : decode cX7_takeNumber 57 = .ok (.getfield 200, 3) := by decide +kernel
theorem dX7_takeNumber_60 : decode cX7_takeNumber 60 = .ok (.ifCond .ne 95, 3) := by decide +kernel
theorem dX7_takeNumber_63 : decode cX7_takeNumber 63 = .ok (.iload_n 2, 1) := by decide +kernel
theorem dX7_takeNumber_64 : decode cX7_takeNumber 64 = .ok (.ifCond .le 91, 3) := by decide +kernel
theorem dX7_takeNumber_67 : decode cX7_takeNumber 67 = .ok (.aload_n 0, 1) := by decide +kernel
theorem dX7_takeNumber_68 : decode cX7_takeNumber 68 = .ok (.invokevirtual 204, 3) := by decide +kernel
theorem dX7_takeNumber_71 : decode cX7_takeNumber 71 = .ok (.bipush 48, 2) := by decide +kernel
theorem dX7_takeNumber_73 : decode cX7_takeNumber 73 = .ok (.bipush 57, 2) := by decide +kernel
theorem dX7_takeNumber_75 : decode cX7_takeNumber 75 = .ok (.invokestatic 38, 3) := by decide +kernel
theorem dX7_takeNumber_78 : decode cX7_takeNumber 78 = .ok (.ifCond .eq 77, 3) := by decide +kernel
theorem dX7_takeNumber_81 : decode cX7_takeNumber 81 = .ok (.aload_n 0, 1) := by decide +kernel
theorem dX7_takeNumber_82 : decode cX7_takeNumber 82 = .ok (.bipush 10, 2) := by decide +kernel
theorem dX7_takeNumber_84 : decode cX7_takeNumber 84 = .ok (.iload_n 2, 1) := by decide +kernel
theorem dX7_takeNumber_85 : decode cX7_takeNumber 85 = .ok (.imul, 1) := by decide +kernel
theorem dX7_takeNumber_86 : decode cX7_takeNumber 86 = .ok (.aload_n 0, 1) := by decide +kernel
theorem dX7_takeNumber_87 : decode cX7_takeNumber 87 = .ok (.invokevirtual 204, 3) := by decide +kernel
theorem dX7_takeNumber_90 : decode cX7_takeNumber 90 = .ok (.iadd, 1) := by decide +kernel
theorem dX7_takeNumber_91 : decode cX7_takeNumber 91 = .ok (.bipush 48, 2) := by decide +kernel
theorem dX7_takeNumber_93 : decode cX7_takeNumber 93 = .ok (.isub, 1) := by decide +kernel
theorem dX7_takeNumber_94 : decode cX7_takeNumber 94 = .ok (.bipush 99, 2) := by decide +kernel
theorem dX7_takeNumber_96 : decode cX7_takeNumber 96 = .ok (.if_icmp .le 7, 3) := by decide +kernel
theorem dX7_takeNumber_99 : decode cX7_takeNumber 99 = .ok (.iconst 1, 1) := by decide +kernel
theorem dX7_takeNumber_100 : decode cX7_takeNumber 100 = .ok (.goto 4, 3) := by decide +kernel
theorem dX7_takeNumber_103 : decode cX7_takeNumber 103 = .ok (.iconst 0, 1) := by decide +kernel
theorem dX7_takeNumber_104 : decode cX7_takeNumber 104 = .ok (.putfield 200, 3) := by decide +kernel
theorem dX7_takeNumber_107 : decode cX7_takeNumber 107 = .ok (.aload_n 0, 1) := by decide +kernel
theorem dX7_takeNumber_108 : decode cX7_takeNumber 108 = .ok (.getfield 200, 3) := by decide +kernel
theorem dX7_takeNumber_111 : decode cX7_takeNumber 111 = .ok (.ifCond .eq 7, 3) := by decide +kernel
theorem dX7_takeNumber_114 : decode cX7_takeNumber 114 = .ok (.iload_n 2, 1) := by decide +kernel
theorem dX7_takeNumber_115 : decode cX7_takeNumber 115 = .ok (.goto 15, 3) := by decide +kernel
theorem dX7_takeNumber_118 : decode cX7_takeNumber 118 = .ok (.bipush 10, 2) := by decide +kernel
theorem dX7_takeNumber_120 : decode cX7_takeNumber 120 = .ok (.iload_n 2, 1) := by decide +kernel
theorem dX7_takeNumber_121 : decode cX7_takeNumber 121 = .ok (.imul, 1) := by decide +kernel
theorem dX7_takeNumber_122 : decode cX7_takeNumber 122 = .ok (.aload_n 0, 1) := by decide +kernel
theorem dX7_takeNumber_123 : decode cX7_takeNumber 123 = .ok (.invokevirtual 204, 3) := by decide +kernel
theorem dX7_takeNumber_126 : decode cX7_takeNumber 126 = .ok (.iadd, 1) := by decide +kernel
theorem dX7_takeNumber_127 : decode cX7_takeNumber 127 = .ok (.bipush 48, 2) := by decide +kernel
theorem dX7_takeNumber_129 : decode cX7_takeNumber 129 = .ok (.isub, 1) := by decide +kernel
theorem dX7_takeNumber_130 : decode cX7_takeNumber 130 = .ok (.istore_n 2, 1) := by decide +kernel
theorem dX7_takeNumber_131 : decode cX7_takeNumber 131 = .ok (.aload_n 0, 1) := by decide +kernel
theorem dX7_takeNumber_132 : decode cX7_takeNumber 132 = .ok (.dup, 1) := by decide +kernel
theorem dX7_takeNumber_133 : decode cX7_takeNumber 133 = .ok (.getfield 194, 3) := by decide +kernel
theorem dX7_takeNumber_136 : decode cX7_takeNumber 136 = .ok (.aload_n 0, 1) := by decide +kernel
theorem dX7_takeNumber_137 : decode cX7_takeNumber 137 = .ok (.getfield 200, 3) := by decide +kernel
theorem dX7_takeNumber_140 : decode cX7_takeNumber 140 = .ok (.ifCond .eq 7, 3) := by decide +kernel
theorem dX7_takeNumber_143 : decode cX7_takeNumber 143 = .ok (.iconst 0, 1) := by decide +kernel
theorem dX7_takeNumber_144 : decode cX7_takeNumber 144 = .ok (.goto 4, 3) := by decide +kernel
theorem dX7_takeNumber_147 : decode cX7_takeNumber 147 = .ok (.iconst 1, 1) := by decide +kernel
theorem dX7_takeNumber_148 : decode cX7_takeNumber 148 = .ok (.iadd, 1) := by decide +kernel
theorem dX7_takeNumber_149 : decode cX7_takeNumber 149 = .ok (.putfield 194, 3) := by decide +kernel
theorem dX7_takeNumber_152 : decode cX7_takeNumber 152 = .ok (.goto (-96), 3) := by decide +kernel
theorem dX7_takeNumber_155 : decode cX7_takeNumber 155 = .ok (.aload_n 0, 1) := by decide +kernel
theorem dX7_takeNumber_156 : decode cX7_takeNumber 156 = .ok (.iload_n 1, 1) := by decide +kernel
theorem dX7_takeNumber_157 : decode cX7_takeNumber 157 = .ok (.iload_n 2, 1) := by decide +kernel
theorem dX7_takeNumber_158 : decode cX7_takeNumber 158 = .ok (.invokevirtual 207, 3) := by decide +kernel
theorem dX7_takeNumber_161 : decode cX7_takeNumber 161 = .ok (.return_, 1) := by decide +kernel
set_option maxRecDepth 20000 in
theorem ggX7_takesNone_X7_next : GoodIn wsX7_takesNone wsX7_next := goodIn_r _ [7, 2, 8, 9, 16, 17, 18, 19, 20, 21, 22, 23, 24, 25, 26, 27, 28, 29, 30, 31] (by decide +kernel) (by decide +kernel)
set_option maxRecDepth 20000 in
theorem gX7_takesNone_X7_next : GoodIn wsX7_takesNone (wsV RX7 204 RX7 yX7_next wsX7_next) := goodIn_app (goodIn_of _ (by decide +kernel)) ggX7_takesNone_X7_next
set_option maxRecDepth 20000 in
theorem ggX7_takesNone_X7_lay : GoodIn wsX7_takesNone wsX7_lay := goodIn_r _ [13, 14, 15, 16, 17, 18, 19, 20, 21, 22, 23, 24, 25, 26, 27, 28, 29, 30, 31] (by decide +kernel) (by decide +kernel)
set_option maxRecDepth 20000 in
theorem gX7_takesNone_X7_lay : GoodIn wsX7_takesNone (wsV RX7 207 RX7 yX7_lay wsX7_lay) := goodIn_app (goodIn_of _ (by decide +kernel)) ggX7_takesNone_X7_lay
theorem dX7_takesNone_0 : decode cX7_takesNone 0 = .ok (.aload_n 0, 1) := by decide +kernel
theorem dX7_takesNone_1 : decode cX7_takesNone 1 = .ok (.getfield 200, 3) := by decide +kernel
theorem dX7_takesNone_4 : decode cX7_takesNone 4 = .ok (.ifCond .ne 16, 3) := by decide +kernel
theorem dX7_takesNone_7 : decode cX7_takesNone 7 = .ok (.aload_n 0, 1) := by decide +kernel
theorem dX7_takesNone_8 : decode cX7_takesNone 8 = .ok (.invokevirtual 204, 3) := by decide +kernel
theorem dX7_takesNone_11 : decode cX7_takesNone 11 = .ok (.bipush 45, 2) := by decide +kernel
theorem dX7_takesNone_13 : decode cX7_takesNone 13 = .ok (.if_icmp .ne 7, 3) := by decide +kernel
theorem dX7_takesNone_16 : decode cX7_takesNone 16 = .ok (.iconst 1, 1) := by decide +kernel
theorem dX7_takesNone_17 : decode cX7_takesNone 17 = .ok (.goto 4, 3) := by decide +kernel
theorem dX7_takesNone_20 : decode cX7_takesNone 20 = .ok (.iconst 0, 1) := by decide +kernel
theorem dX7_takesNone_21 : decode cX7_takesNone 21 = .ok (.istore_n 2, 1) := by decide +kernel
theorem dX7_takesNone_22 : decode cX7_takesNone 22 = .ok (.iload_n 2, 1) := by decide +kernel
theorem dX7_takesNone_23 : decode cX7_takesNone 23 = .ok (.ifCond .eq 20, 3) := by decide +kernel
theorem dX7_takesNone_26 : decode cX7_takesNone 26 = .ok (.aload_n 0, 1) := by decide +kernel
theorem dX7_takesNone_27 : decode cX7_takesNone 27 = .ok (.iload_n 1, 1) := by decide +kernel
theorem dX7_takesNone_28 : decode cX7_takesNone 28 = .ok (.bipush (-6), 2) := by decide +kernel
theorem dX7_takesNone_30 : decode cX7_takesNone 30 = .ok (.invokevirtual 207, 3) := by decide +kernel
theorem dX7_takesNone_33 : decode cX7_takesNone 33 = .ok (.aload_n 0, 1) := by decide +kernel
theorem dX7_takesNone_34 : decode cX7_takesNone 34 = .ok (.dup, 1) := by decide +kernel
theorem dX7_takesNone_35 : decode cX7_takesNone 35 = .ok (.getfield 194, 3) := by decide +kernel
theorem dX7_takesNone_38 : decode cX7_takesNone 38 = .ok (.iconst 1, 1) := by decide +kernel
theorem dX7_takesNone_39 : decode cX7_takesNone 39 = .ok (.iadd, 1) := by decide +kernel
theorem dX7_takesNone_40 : decode cX7_takesNone 40 = .ok (.putfield 194, 3) := by decide +kernel
theorem dX7_takesNone_43 : decode cX7_takesNone 43 = .ok (.iload_n 2, 1) := by decide +kernel
theorem dX7_takesNone_44 : decode cX7_takesNone 44 = .ok (.ireturn, 1) := by decide +kernel
set_option maxRecDepth 20000 in
theorem ggX7_takeGuestAndDoor_X7_takeOne : GoodIn wsX7_takeGuestAndDoor wsX7_takeOne := goodIn_r _ [5, 6, 7, 8, 9, 10, 4, 11, 12, 13, 14, 15, 16, 17, 18, 19, 20, 21, 22, 27, 28, 29, 30, 31, 32, 33, 34, 35, 36, 37, 38, 39, 40, 41, 42] (by decide +kernel) (by decide +kernel)
set_option maxRecDepth 20000 in
theorem gX7_takeGuestAndDoor_X7_takeOne : GoodIn wsX7_takeGuestAndDoor (wsV RX7 211 RX7 yX7_takeOne wsX7_takeOne) := goodIn_app (goodIn_of _ (by decide +kernel)) ggX7_takeGuestAndDoor_X7_takeOne
set_option maxRecDepth 20000 in
theorem ggX7_takeGuestAndDoor_X7_takeSign : GoodIn wsX7_takeGuestAndDoor wsX7_takeSign := goodIn_r _ [26, 6, 7, 8, 9, 10, 4, 11, 12, 13, 27, 28, 29, 30, 31, 32, 33, 34, 35, 36, 37, 38, 39, 40, 41, 42] (by decide +kernel) (by decide +kernel)
set_option maxRecDepth 20000 in
theorem gX7_takeGuestAndDoor_X7_takeSign : GoodIn wsX7_takeGuestAndDoor (wsV RX7 215 RX7 yX7_takeSign wsX7_takeSign) := goodIn_app (goodIn_of _ (by decide +kernel)) ggX7_takeGuestAndDoor_X7_takeSign
theorem dX7_takeGuestAndDoor_0 : decode cX7_takeGuestAndDoor 0 = .ok (.aload_n 0, 1) := by decide +kernel
theorem dX7_takeGuestAndDoor_1 : decode cX7_takeGuestAndDoor 1 = .ok (.iconst 0, 1) := by decide +kernel
theorem dX7_takeGuestAndDoor_2 : decode cX7_takeGuestAndDoor 2 = .ok (.bipush 48, 2) := by decide +kernel
theorem dX7_takeGuestAndDoor_4 : decode cX7_takeGuestAndDoor 4 = .ok (.bipush 53, 2) := by decide +kernel
theorem dX7_takeGuestAndDoor_6 : decode cX7_takeGuestAndDoor 6 = .ok (.invokevirtual 211, 3) := by decide +kernel
theorem dX7_takeGuestAndDoor_9 : decode cX7_takeGuestAndDoor 9 = .ok (.aload_n 0, 1) := by decide +kernel
theorem dX7_takeGuestAndDoor_10 : decode cX7_takeGuestAndDoor 10 = .ok (.bipush 46, 2) := by decide +kernel
theorem dX7_takeGuestAndDoor_12 : decode cX7_takeGuestAndDoor 12 = .ok (.invokevirtual 215, 3) := by decide +kernel
theorem dX7_takeGuestAndDoor_15 : decode cX7_takeGuestAndDoor 15 = .ok (.aload_n 0, 1) := by decide +kernel
theorem dX7_takeGuestAndDoor_16 : decode cX7_takeGuestAndDoor 16 = .ok (.iconst 1, 1) := by decide +kernel
theorem dX7_takeGuestAndDoor_17 : decode cX7_takeGuestAndDoor 17 = .ok (.bipush 48, 2) := by decide +kernel
theorem dX7_takeGuestAndDoor_19 : decode cX7_takeGuestAndDoor 19 = .ok (.bipush 57, 2) := by decide +kernel
theorem dX7_takeGuestAndDoor_21 : decode cX7_takeGuestAndDoor 21 = .ok (.invokevirtual 211, 3) := by decide +kernel
theorem dX7_takeGuestAndDoor_24 : decode cX7_takeGuestAndDoor 24 = .ok (.return_, 1) := by decide +kernel
set_option maxRecDepth 20000 in
theorem ggX7_takeRights_X7_takeSign : GoodIn wsX7_takeRights wsX7_takeSign := goodIn_r _ [5, 6, 7, 8, 9, 10, 4, 11, 12, 13, 27, 28, 29, 30, 31, 32, 33, 34, 35, 36, 37, 38, 39, 40, 41, 42] (by decide +kernel) (by decide +kernel)
set_option maxRecDepth 20000 in
theorem gX7_takeRights_X7_takeSign : GoodIn wsX7_takeRights (wsV RX7 215 RX7 yX7_takeSign wsX7_takeSign) := goodIn_app (goodIn_of _ (by decide +kernel)) ggX7_takeRights_X7_takeSign
set_option maxRecDepth 20000 in
theorem ggX7_takeRights_X7_takeOne : GoodIn wsX7_takeRights wsX7_takeOne := goodIn_r _ [17, 6, 7, 8, 9, 10, 4, 11, 12, 13, 18, 19, 20, 21, 22, 23, 24, 25, 26, 27, 28, 29, 30, 31, 32, 33, 34, 35, 36, 37, 38, 39, 40, 41, 42] (by decide +kernel) (by decide +kernel)
set_option maxRecDepth 20000 in
theorem gX7_takeRights_X7_takeOne : GoodIn wsX7_takeRights (wsV RX7 211 RX7 yX7_takeOne wsX7_takeOne) := goodIn_app (goodIn_of _ (by decide +kernel)) ggX7_takeRights_X7_takeOne
theorem dX7_takeRights_0 : decode cX7_takeRights 0 = .ok (.aload_n 0, 1) := by decide +kernel
theorem dX7_takeRights_1 : decode cX7_takeRights 1 = .ok (.bipush 42, 2) := by decide +kernel
theorem dX7_takeRights_3 : decode cX7_takeRights 3 = .ok (.invokevirtual 215, 3) := by decide +kernel
theorem dX7_takeRights_6 : decode cX7_takeRights 6 = .ok (.aload_n 0, 1) := by decide +kernel
theorem dX7_takeRights_7 : decode cX7_takeRights 7 = .ok (.iload_n 1, 1) := by decide +kernel
theorem dX7_takeRights_8 : decode cX7_takeRights 8 = .ok (.bipush 49, 2) := by decide +kernel
theorem dX7_takeRights_10 : decode cX7_takeRights 10 = .ok (.bipush 55, 2) := by decide +kernel
theorem dX7_takeRights_12 : decode cX7_takeRights 12 = .ok (.invokevirtual 211, 3) := by decide +kernel
theorem dX7_takeRights_15 : decode cX7_takeRights 15 = .ok (.return_, 1) := by decide +kernel
set_option maxRecDepth 20000 in
theorem ggX7_takeNeed_X7_next : GoodIn wsX7_takeNeed wsX7_next := goodIn_r _ [7, 2, 8, 9, 16, 17, 18, 19, 20, 21, 22, 23, 24, 25, 26, 27, 28, 29, 30, 31] (by decide +kernel) (by decide +kernel)
set_option maxRecDepth 20000 in
theorem gX7_takeNeed_X7_next : GoodIn wsX7_takeNeed (wsV RX7 204 RX7 yX7_next wsX7_next) := goodIn_app (goodIn_of _ (by decide +kernel)) ggX7_takeNeed_X7_next
set_option maxRecDepth 20000 in
theorem ggX7_takeNeed_X7_lay : GoodIn wsX7_takeNeed wsX7_lay := goodIn_r _ [13, 14, 15, 16, 17, 18, 19, 20, 21, 22, 23, 24, 25, 26, 27, 28, 29, 30, 31] (by decide +kernel) (by decide +kernel)
set_option maxRecDepth 20000 in
theorem gX7_takeNeed_X7_lay : GoodIn wsX7_takeNeed (wsV RX7 207 RX7 yX7_lay wsX7_lay) := goodIn_app (goodIn_of _ (by decide +kernel)) ggX7_takeNeed_X7_lay
theorem dX7_takeNeed_0 : decode cX7_takeNeed 0 = .ok (.aload_n 0, 1) := by decide +kernel
theorem dX7_takeNeed_1 : decode cX7_takeNeed 1 = .ok (.aload_n 0, 1) := by decide +kernel
theorem dX7_takeNeed_2 : decode cX7_takeNeed 2 = .ok (.getfield 200, 3) := by decide +kernel
theorem dX7_takeNeed_5 : decode cX7_takeNeed 5 = .ok (.ifCond .ne 21, 3) := by decide +kernel
theorem dX7_takeNeed_8 : decode cX7_takeNeed 8 = .ok (.aload_n 0, 1) := by decide +kernel
theorem dX7_takeNeed_9 : decode cX7_takeNeed 9 = .ok (.invokevirtual 204, 3) := by decide +kernel
theorem dX7_takeNeed_12 : decode cX7_takeNeed 12 = .ok (.bipush 114, 2) := by decide +kernel
theorem dX7_takeNeed_14 : decode cX7_takeNeed 14 = .ok (.if_icmp .eq 16, 3) := by decide +kernel
theorem dX7_takeNeed_17 : decode cX7_takeNeed 17 = .ok (.aload_n 0, 1) := by decide +kernel
theorem dX7_takeNeed_18 : decode cX7_takeNeed 18 = .ok (.invokevirtual 204, 3) := by decide +kernel
theorem dX7_takeNeed_21 : decode cX7_takeNeed 21 = .ok (.bipush 119, 2) := by decide +kernel
theorem dX7_takeNeed_23 : decode cX7_takeNeed 23 = .ok (.if_icmp .eq 7, 3) := by decide +kernel
theorem dX7_takeNeed_26 : decode cX7_takeNeed 26 = .ok (.iconst 1, 1) := by decide +kernel
theorem dX7_takeNeed_27 : decode cX7_takeNeed 27 = .ok (.goto 4, 3) := by decide +kernel
theorem dX7_takeNeed_30 : decode cX7_takeNeed 30 = .ok (.iconst 0, 1) := by decide +kernel
theorem dX7_takeNeed_31 : decode cX7_takeNeed 31 = .ok (.putfield 200, 3) := by decide +kernel
theorem dX7_takeNeed_34 : decode cX7_takeNeed 34 = .ok (.aload_n 0, 1) := by decide +kernel
theorem dX7_takeNeed_35 : decode cX7_takeNeed 35 = .ok (.getfield 200, 3) := by decide +kernel
theorem dX7_takeNeed_38 : decode cX7_takeNeed 38 = .ok (.ifCond .ne 32, 3) := by decide +kernel
theorem dX7_takeNeed_41 : decode cX7_takeNeed 41 = .ok (.aload_n 0, 1) := by decide +kernel
theorem dX7_takeNeed_42 : decode cX7_takeNeed 42 = .ok (.iconst 2, 1) := by decide +kernel
theorem dX7_takeNeed_43 : decode cX7_takeNeed 43 = .ok (.aload_n 0, 1) := by decide +kernel
theorem dX7_takeNeed_44 : decode cX7_takeNeed 44 = .ok (.invokevirtual 204, 3) := by decide +kernel
theorem dX7_takeNeed_47 : decode cX7_takeNeed 47 = .ok (.bipush 114, 2) := by decide +kernel
theorem dX7_takeNeed_49 : decode cX7_takeNeed 49 = .ok (.if_icmp .ne 7, 3) := by decide +kernel
theorem dX7_takeNeed_52 : decode cX7_takeNeed 52 = .ok (.iconst 1, 1) := by decide +kernel
theorem dX7_takeNeed_53 : decode cX7_takeNeed 53 = .ok (.goto 4, 3) := by decide +kernel
theorem dX7_takeNeed_56 : decode cX7_takeNeed 56 = .ok (.iconst 2, 1) := by decide +kernel
theorem dX7_takeNeed_57 : decode cX7_takeNeed 57 = .ok (.invokevirtual 207, 3) := by decide +kernel
theorem dX7_takeNeed_60 : decode cX7_takeNeed 60 = .ok (.aload_n 0, 1) := by decide +kernel
theorem dX7_takeNeed_61 : decode cX7_takeNeed 61 = .ok (.dup, 1) := by decide +kernel
theorem dX7_takeNeed_62 : decode cX7_takeNeed 62 = .ok (.getfield 194, 3) := by decide +kernel
theorem dX7_takeNeed_65 : decode cX7_takeNeed 65 = .ok (.iconst 1, 1) := by decide +kernel
theorem dX7_takeNeed_66 : decode cX7_takeNeed 66 = .ok (.iadd, 1) := by decide +kernel
theorem dX7_takeNeed_67 : decode cX7_takeNeed 67 = .ok (.putfield 194, 3) := by decide +kernel
theorem dX7_takeNeed_70 : decode cX7_takeNeed 70 = .ok (.return_, 1) := by decide +kernel
set_option maxRecDepth 20000 in
theorem ggX7_takeGiving_X7_takeOne : GoodIn wsX7_takeGiving wsX7_takeOne := goodIn_r _ [5, 6, 7, 8, 9, 10, 4, 11, 12, 13, 14, 15, 16, 17, 18, 19, 20, 21, 22, 35, 36, 37, 38, 39, 40, 41, 42, 43, 44, 45, 46, 47, 48, 49, 50] (by decide +kernel) (by decide +kernel)
set_option maxRecDepth 20000 in
theorem gX7_takeGiving_X7_takeOne : GoodIn wsX7_takeGiving (wsV RX7 211 RX7 yX7_takeOne wsX7_takeOne) := goodIn_app (goodIn_of _ (by decide +kernel)) ggX7_takeGiving_X7_takeOne
set_option maxRecDepth 20000 in
theorem ggX7_takeGiving_X7_takeSign : GoodIn wsX7_takeGiving wsX7_takeSign := goodIn_r _ [26, 6, 7, 8, 9, 10, 4, 11, 12, 13, 35, 36, 37, 38, 39, 40, 41, 42, 43, 44, 45, 46, 47, 48, 49, 50] (by decide +kernel) (by decide +kernel)
set_option maxRecDepth 20000 in
theorem gX7_takeGiving_X7_takeSign : GoodIn wsX7_takeGiving (wsV RX7 215 RX7 yX7_takeSign wsX7_takeSign) := goodIn_app (goodIn_of _ (by decide +kernel)) ggX7_takeGiving_X7_takeSign
set_option maxRecDepth 20000 in
theorem ggX7_takeGiving_X7_takeNumber : GoodIn wsX7_takeGiving wsX7_takeNumber := goodIn_r _ [30, 6, 7, 8, 9, 10, 4, 11, 12, 13, 14, 15, 16, 17, 18, 19, 20, 21, 22, 35, 36, 37, 38, 39, 40, 41, 42, 43, 44, 45, 46, 47, 48, 49, 50] (by decide +kernel) (by decide +kernel)
set_option maxRecDepth 20000 in
theorem gX7_takeGiving_X7_takeNumber : GoodIn wsX7_takeGiving (wsV RX7 218 RX7 yX7_takeNumber wsX7_takeNumber) := goodIn_app (goodIn_of _ (by decide +kernel)) ggX7_takeGiving_X7_takeNumber
set_option maxRecDepth 20000 in
theorem ggX7_takeGiving_X7_takeRights : GoodIn wsX7_takeGiving wsX7_takeRights := goodIn_r _ [34, 23, 24, 25, 4, 26, 6, 7, 8, 9, 10, 11, 12, 13, 1, 2, 3, 5, 14, 15, 16, 17, 18, 19, 20, 21, 22, 35, 36, 37, 38, 39, 40, 41, 42, 43, 44, 45, 46, 47, 48, 49, 50] (by decide +kernel) (by decide +kernel)
set_option maxRecDepth 20000 in
theorem gX7_takeGiving_X7_takeRights : GoodIn wsX7_takeGiving (wsV RX7 221 RX7 yX7_takeRights wsX7_takeRights) := goodIn_app (goodIn_of _ (by decide +kernel)) ggX7_takeGiving_X7_takeRights
theorem dX7_takeGiving_0 : decode cX7_takeGiving 0 = .ok (.aload_n 0, 1) := by decide +kernel
theorem dX7_takeGiving_1 : decode cX7_takeGiving 1 = .ok (.iconst 0, 1) := by decide +kernel
theorem dX7_takeGiving_2 : decode cX7_takeGiving 2 = .ok (.bipush 48, 2) := by decide +kernel
theorem dX7_takeGiving_4 : decode cX7_takeGiving 4 = .ok (.bipush 53, 2) := by decide +kernel
theorem dX7_takeGiving_6 : decode cX7_takeGiving 6 = .ok (.invokevirtual 211, 3) := by decide +kernel
theorem dX7_takeGiving_9 : decode cX7_takeGiving 9 = .ok (.aload_n 0, 1) := by decide +kernel
theorem dX7_takeGiving_10 : decode cX7_takeGiving 10 = .ok (.bipush 62, 2) := by decide +kernel
theorem dX7_takeGiving_12 : decode cX7_takeGiving 12 = .ok (.invokevirtual 215, 3) := by decide +kernel
theorem dX7_takeGiving_15 : decode cX7_takeGiving 15 = .ok (.aload_n 0, 1) := by decide +kernel
theorem dX7_takeGiving_16 : decode cX7_takeGiving 16 = .ok (.iconst 1, 1) := by decide +kernel
theorem dX7_takeGiving_17 : decode cX7_takeGiving 17 = .ok (.bipush 48, 2) := by decide +kernel
theorem dX7_takeGiving_19 : decode cX7_takeGiving 19 = .ok (.bipush 53, 2) := by decide +kernel
theorem dX7_takeGiving_21 : decode cX7_takeGiving 21 = .ok (.invokevirtual 211, 3) := by decide +kernel
theorem dX7_takeGiving_24 : decode cX7_takeGiving 24 = .ok (.aload_n 0, 1) := by decide +kernel
theorem dX7_takeGiving_25 : decode cX7_takeGiving 25 = .ok (.bipush 58, 2) := by decide +kernel
theorem dX7_takeGiving_27 : decode cX7_takeGiving 27 = .ok (.invokevirtual 215, 3) := by decide +kernel
theorem dX7_takeGiving_30 : decode cX7_takeGiving 30 = .ok (.aload_n 0, 1) := by decide +kernel
theorem dX7_takeGiving_31 : decode cX7_takeGiving 31 = .ok (.iconst 2, 1) := by decide +kernel
theorem dX7_takeGiving_32 : decode cX7_takeGiving 32 = .ok (.invokevirtual 218, 3) := by decide +kernel
theorem dX7_takeGiving_35 : decode cX7_takeGiving 35 = .ok (.aload_n 0, 1) := by decide +kernel
theorem dX7_takeGiving_36 : decode cX7_takeGiving 36 = .ok (.iconst 3, 1) := by decide +kernel
theorem dX7_takeGiving_37 : decode cX7_takeGiving 37 = .ok (.invokevirtual 221, 3) := by decide +kernel
theorem dX7_takeGiving_40 : decode cX7_takeGiving 40 = .ok (.return_, 1) := by decide +kernel
set_option maxRecDepth 20000 in
theorem ggX7_takeBehind_X7_takeNumber : GoodIn wsX7_takeBehind wsX7_takeNumber := goodIn_r _ [5, 6, 7, 8, 9, 10, 4, 11, 12, 13, 14, 15, 16, 17, 18, 19, 20, 21, 22, 51, 52, 53, 54, 55, 56, 57, 58, 59, 60, 61, 62, 63, 64, 65, 66] (by decide +kernel) (by decide +kernel)
set_option maxRecDepth 20000 in
theorem gX7_takeBehind_X7_takeNumber : GoodIn wsX7_takeBehind (wsV RX7 218 RX7 yX7_takeNumber wsX7_takeNumber) := goodIn_app (goodIn_of _ (by decide +kernel)) ggX7_takeBehind_X7_takeNumber
set_option maxRecDepth 20000 in
theorem ggX7_takeBehind_X7_takeSign : GoodIn wsX7_takeBehind wsX7_takeSign := goodIn_r _ [26, 6, 7, 8, 9, 10, 4, 11, 12, 13, 51, 52, 53, 54, 55, 56, 57, 58, 59, 60, 61, 62, 63, 64, 65, 66] (by decide +kernel) (by decide +kernel)
set_option maxRecDepth 20000 in
theorem gX7_takeBehind_X7_takeSign : GoodIn wsX7_takeBehind (wsV RX7 215 RX7 yX7_takeSign wsX7_takeSign) := goodIn_app (goodIn_of _ (by decide +kernel)) ggX7_takeBehind_X7_takeSign
set_option maxRecDepth 20000 in
theorem ggX7_takeBehind_X7_takesNone : GoodIn wsX7_takeBehind wsX7_takesNone := goodIn_r _ [30, 6, 7, 8, 9, 10, 4, 11, 12, 13, 17, 18, 19, 20, 21, 22, 51, 52, 53, 54, 55, 56, 57, 58, 59, 60, 61, 62, 63, 64, 65, 66] (by decide +kernel) (by decide +kernel)
set_option maxRecDepth 20000 in
theorem gX7_takeBehind_X7_takesNone : GoodIn wsX7_takeBehind (wsV RX7 224 RX7 yX7_takesNone wsX7_takesNone) := goodIn_app (goodIn_of _ (by decide +kernel)) ggX7_takeBehind_X7_takesNone
set_option maxRecDepth 20000 in
theorem ggX7_takeBehind_X7_takeOne : GoodIn wsX7_takeBehind wsX7_takeOne := goodIn_r _ [34, 6, 7, 8, 9, 10, 4, 11, 12, 13, 14, 15, 16, 17, 18, 19, 20, 21, 22, 51, 52, 53, 54, 55, 56, 57, 58, 59, 60, 61, 62, 63, 64, 65, 66] (by decide +kernel) (by decide +kernel)
set_option maxRecDepth 20000 in
theorem gX7_takeBehind_X7_takeOne : GoodIn wsX7_takeBehind (wsV RX7 211 RX7 yX7_takeOne wsX7_takeOne) := goodIn_app (goodIn_of _ (by decide +kernel)) ggX7_takeBehind_X7_takeOne
set_option maxRecDepth 20000 in
theorem ggX7_takeBehind_X7_takeGiving : GoodIn wsX7_takeBehind wsX7_takeGiving := goodIn_r _ [38, 31, 32, 33, 4, 34, 6, 7, 8, 9, 10, 11, 12, 13, 14, 15, 16, 17, 18, 19, 20, 21, 22, 23, 24, 25, 26, 1, 2, 3, 5, 39, 40, 41, 42, 51, 52, 53, 54, 55, 56, 57, 58, 59, 60, 61, 62, 63, 64, 65, 66] (by decide +kernel) (by decide +kernel)
set_option maxRecDepth 20000 in
theorem gX7_takeBehind_X7_takeGiving : GoodIn wsX7_takeBehind (wsV RX7 227 RX7 yX7_takeGiving wsX7_takeGiving) := goodIn_app (goodIn_of _ (by decide +kernel)) ggX7_takeBehind_X7_takeGiving
set_option maxRecDepth 20000 in
theorem ggX7_takeBehind_X7_takeRights : GoodIn wsX7_takeBehind wsX7_takeRights := goodIn_r _ [42, 23, 24, 25, 4, 26, 6, 7, 8, 9, 10, 11, 12, 13, 31, 32, 33, 34, 14, 15, 16, 17, 18, 19, 20, 21, 22, 51, 52, 53, 54, 55, 56, 57, 58, 59, 60, 61, 62, 63, 64, 65, 66] (by decide +kernel) (by decide +kernel)
set_option maxRecDepth 20000 in
theorem gX7_takeBehind_X7_takeRights : GoodIn wsX7_takeBehind (wsV RX7 221 RX7 yX7_takeRights wsX7_takeRights) := goodIn_app (goodIn_of _ (by decide +kernel)) ggX7_takeBehind_X7_takeRights
set_option maxRecDepth 20000 in
theorem ggX7_takeBehind_X7_takeGuestAndDoor : GoodIn wsX7_takeBehind wsX7_takeGuestAndDoor := goodIn_r _ [46, 31, 32, 33, 4, 34, 6, 7, 8, 9, 10, 11, 12, 13, 14, 15, 16, 17, 18, 19, 20, 21, 22, 23, 24, 25, 26, 51, 52, 53, 54, 55, 56, 57, 58, 59, 60, 61, 62, 63, 64, 65, 66] (by decide +kernel) (by decide +kernel)
set_option maxRecDepth 20000 in
theorem gX7_takeBehind_X7_takeGuestAndDoor : GoodIn wsX7_takeBehind (wsV RX7 230 RX7 yX7_takeGuestAndDoor wsX7_takeGuestAndDoor) := goodIn_app (goodIn_of _ (by decide +kernel)) ggX7_takeBehind_X7_takeGuestAndDoor
set_option maxRecDepth 20000 in
theorem ggX7_takeBehind_X7_takeNeed : GoodIn wsX7_takeBehind wsX7_takeNeed := goodIn_r _ [50, 6, 7, 8, 9, 10, 4, 11, 12, 13, 17, 18, 19, 20, 21, 22, 51, 52, 53, 54, 55, 56, 57, 58, 59, 60, 61, 62, 63, 64, 65, 66] (by decide +kernel) (by decide +kernel)
set_option maxRecDepth 20000 in
theorem gX7_takeBehind_X7_takeNeed : GoodIn wsX7_takeBehind (wsV RX7 233 RX7 yX7_takeNeed wsX7_takeNeed) := goodIn_app (goodIn_of _ (by decide +kernel)) ggX7_takeBehind_X7_takeNeed
theorem dX7_takeBehind_0 : decode cX7_takeBehind 0 = .ok (.iload_n 1, 1) := by decide +kernel
theorem dX7_takeBehind_1 : decode cX7_takeBehind 1 = .ok (.lookupswitch 151 #[(100, 125), (111, 51), (112, 89), (115, 82), (116, 117)], 51) := by decide +kernel
theorem dX7_takeBehind_52 : decode cX7_takeBehind 52 = .ok (.aload_n 0, 1) := by decide +kernel
theorem dX7_takeBehind_53 : decode cX7_takeBehind 53 = .ok (.iconst 0, 1) := by decide +kernel
theorem dX7_takeBehind_54 : decode cX7_takeBehind 54 = .ok (.invokevirtual 218, 3) := by decide +kernel
theorem dX7_takeBehind_57 : decode cX7_takeBehind 57 = .ok (.aload_n 0, 1) := by decide +kernel
theorem dX7_takeBehind_58 : decode cX7_takeBehind 58 = .ok (.bipush 61, 2) := by decide +kernel
theorem dX7_takeBehind_60 : decode cX7_takeBehind 60 = .ok (.invokevirtual 215, 3) := by decide +kernel
theorem dX7_takeBehind_63 : decode cX7_takeBehind 63 = .ok (.aload_n 0, 1) := by decide +kernel
theorem dX7_takeBehind_64 : decode cX7_takeBehind 64 = .ok (.iconst 1, 1) := by decide +kernel
theorem dX7_takeBehind_65 : decode cX7_takeBehind 65 = .ok (.invokevirtual 224, 3) := by decide +kernel
theorem dX7_takeBehind_68 : decode cX7_takeBehind 68 = .ok (.ifCond .ne 92, 3) := by decide +kernel
theorem dX7_takeBehind_71 : decode cX7_takeBehind 71 = .ok (.aload_n 0, 1) := by decide +kernel
theorem dX7_takeBehind_72 : decode cX7_takeBehind 72 = .ok (.iconst 1, 1) := by decide +kernel
theorem dX7_takeBehind_73 : decode cX7_takeBehind 73 = .ok (.bipush 48, 2) := by decide +kernel
theorem dX7_takeBehind_75 : decode cX7_takeBehind 75 = .ok (.bipush 53, 2) := by decide +kernel
theorem dX7_takeBehind_77 : decode cX7_takeBehind 77 = .ok (.invokevirtual 211, 3) := by decide +kernel
theorem dX7_takeBehind_80 : decode cX7_takeBehind 80 = .ok (.goto 80, 3) := by decide +kernel
theorem dX7_takeBehind_83 : decode cX7_takeBehind 83 = .ok (.aload_n 0, 1) := by decide +kernel
theorem dX7_takeBehind_84 : decode cX7_takeBehind 84 = .ok (.invokevirtual 227, 3) := by decide +kernel
theorem dX7_takeBehind_87 : decode cX7_takeBehind 87 = .ok (.goto 73, 3) := by decide +kernel
theorem dX7_takeBehind_90 : decode cX7_takeBehind 90 = .ok (.aload_n 0, 1) := by decide +kernel
theorem dX7_takeBehind_91 : decode cX7_takeBehind 91 = .ok (.iconst 0, 1) := by decide +kernel
theorem dX7_takeBehind_92 : decode cX7_takeBehind 92 = .ok (.invokevirtual 218, 3) := by decide +kernel
theorem dX7_takeBehind_95 : decode cX7_takeBehind 95 = .ok (.aload_n 0, 1) := by decide +kernel
theorem dX7_takeBehind_96 : decode cX7_takeBehind 96 = .ok (.bipush 62, 2) := by decide +kernel
theorem dX7_takeBehind_98 : decode cX7_takeBehind 98 = .ok (.invokevirtual 215, 3) := by decide +kernel
theorem dX7_takeBehind_101 : decode cX7_takeBehind 101 = .ok (.aload_n 0, 1) := by decide +kernel
theorem dX7_takeBehind_102 : decode cX7_takeBehind 102 = .ok (.iconst 1, 1) := by decide +kernel
theorem dX7_takeBehind_103 : decode cX7_takeBehind 103 = .ok (.bipush 48, 2) := by decide +kernel
theorem dX7_takeBehind_105 : decode cX7_takeBehind 105 = .ok (.bipush 53, 2) := by decide +kernel
theorem dX7_takeBehind_107 : decode cX7_takeBehind 107 = .ok (.invokevirtual 211, 3) := by decide +kernel
theorem dX7_takeBehind_110 : decode cX7_takeBehind 110 = .ok (.aload_n 0, 1) := by decide +kernel
theorem dX7_takeBehind_111 : decode cX7_takeBehind 111 = .ok (.iconst 2, 1) := by decide +kernel
theorem dX7_takeBehind_112 : decode cX7_takeBehind 112 = .ok (.invokevirtual 221, 3) := by decide +kernel
theorem dX7_takeBehind_115 : decode cX7_takeBehind 115 = .ok (.goto 45, 3) := by decide +kernel
theorem dX7_takeBehind_118 : decode cX7_takeBehind 118 = .ok (.aload_n 0, 1) := by decide +kernel
theorem dX7_takeBehind_119 : decode cX7_takeBehind 119 = .ok (.iconst 0, 1) := by decide +kernel
theorem dX7_takeBehind_120 : decode cX7_takeBehind 120 = .ok (.invokevirtual 218, 3) := by decide +kernel
theorem dX7_takeBehind_123 : decode cX7_takeBehind 123 = .ok (.goto 37, 3) := by decide +kernel
theorem dX7_takeBehind_126 : decode cX7_takeBehind 126 = .ok (.aload_n 0, 1) := by decide +kernel
theorem dX7_takeBehind_127 : decode cX7_takeBehind 127 = .ok (.invokevirtual 230, 3) := by decide +kernel
theorem dX7_takeBehind_130 : decode cX7_takeBehind 130 = .ok (.aload_n 0, 1) := by decide +kernel
theorem dX7_takeBehind_131 : decode cX7_takeBehind 131 = .ok (.bipush 61, 2) := by decide +kernel
theorem dX7_takeBehind_133 : decode cX7_takeBehind 133 = .ok (.invokevirtual 215, 3) := by decide +kernel
theorem dX7_takeBehind_136 : decode cX7_takeBehind 136 = .ok (.aload_n 0, 1) := by decide +kernel
theorem dX7_takeBehind_137 : decode cX7_takeBehind 137 = .ok (.iconst 2, 1) := by decide +kernel
theorem dX7_takeBehind_138 : decode cX7_takeBehind 138 = .ok (.invokevirtual 224, 3) := by decide +kernel
theorem dX7_takeBehind_141 : decode cX7_takeBehind 141 = .ok (.ifCond .ne 19, 3) := by decide +kernel
theorem dX7_takeBehind_144 : decode cX7_takeBehind 144 = .ok (.aload_n 0, 1) := by decide +kernel
theorem dX7_takeBehind_145 : decode cX7_takeBehind 145 = .ok (.iconst 2, 1) := by decide +kernel
theorem dX7_takeBehind_146 : decode cX7_takeBehind 146 = .ok (.invokevirtual 218, 3) := by decide +kernel
theorem dX7_takeBehind_149 : decode cX7_takeBehind 149 = .ok (.goto 11, 3) := by decide +kernel
theorem dX7_takeBehind_152 : decode cX7_takeBehind 152 = .ok (.aload_n 0, 1) := by decide +kernel
theorem dX7_takeBehind_153 : decode cX7_takeBehind 153 = .ok (.invokevirtual 230, 3) := by decide +kernel
theorem dX7_takeBehind_156 : decode cX7_takeBehind 156 = .ok (.aload_n 0, 1) := by decide +kernel
theorem dX7_takeBehind_157 : decode cX7_takeBehind 157 = .ok (.invokevirtual 233, 3) := by decide +kernel
theorem dX7_takeBehind_160 : decode cX7_takeBehind 160 = .ok (.return_, 1) := by decide +kernel
set_option maxRecDepth 20000 in
theorem ggX7_takeOrder_X7_next : GoodIn wsX7_takeOrder wsX7_next := goodIn_r _ [9, 2, 10, 11, 56, 57, 58, 59, 60, 61, 62, 63, 64, 65, 66, 67, 68, 69, 70, 71] (by decide +kernel) (by decide +kernel)
set_option maxRecDepth 20000 in
theorem gX7_takeOrder_X7_next : GoodIn wsX7_takeOrder (wsV RX7 204 RX7 yX7_next wsX7_next) := goodIn_app (goodIn_of _ (by decide +kernel)) ggX7_takeOrder_X7_next
set_option maxRecDepth 20000 in
theorem ggX7_takeOrder_X7_takeBehind : GoodIn wsX7_takeOrder wsX7_takeBehind := goodIn_r _ [15, 16, 17, 18, 8, 19, 1, 2, 5, 6, 7, 9, 10, 11, 20, 21, 22, 23, 24, 25, 26, 27, 4, 28, 29, 30, 31, 32, 33, 34, 35, 36, 37, 38, 39, 40, 41, 42, 43, 44, 45, 46, 47, 48, 49, 50, 51, 52, 53, 54, 55, 56, 57, 58, 59, 60, 61, 62, 63, 64, 65, 66, 67, 68, 69, 70, 71] (by decide +kernel) (by decide +kernel)
set_option maxRecDepth 20000 in
theorem gX7_takeOrder_X7_takeBehind : GoodIn wsX7_takeOrder (wsV RX7 236 RX7 yX7_takeBehind wsX7_takeBehind) := goodIn_app (goodIn_of _ (by decide +kernel)) ggX7_takeOrder_X7_takeBehind
theorem dX7_takeOrder_0 : decode cX7_takeOrder 0 = .ok (.aload_n 0, 1) := by decide +kernel
theorem dX7_takeOrder_1 : decode cX7_takeOrder 1 = .ok (.invokevirtual 204, 3) := by decide +kernel
theorem dX7_takeOrder_4 : decode cX7_takeOrder 4 = .ok (.istore_n 1, 1) := by decide +kernel
theorem dX7_takeOrder_5 : decode cX7_takeOrder 5 = .ok (.aload_n 0, 1) := by decide +kernel
theorem dX7_takeOrder_6 : decode cX7_takeOrder 6 = .ok (.iload_n 1, 1) := by decide +kernel
theorem dX7_takeOrder_7 : decode cX7_takeOrder 7 = .ok (.bipush 111, 2) := by decide +kernel
theorem dX7_takeOrder_9 : decode cX7_takeOrder 9 = .ok (.if_icmp .eq 37, 3) := by decide +kernel
theorem dX7_takeOrder_12 : decode cX7_takeOrder 12 = .ok (.iload_n 1, 1) := by decide +kernel
theorem dX7_takeOrder_13 : decode cX7_takeOrder 13 = .ok (.bipush 115, 2) := by decide +kernel
theorem dX7_takeOrder_15 : decode cX7_takeOrder 15 = .ok (.if_icmp .eq 31, 3) := by decide +kernel
theorem dX7_takeOrder_18 : decode cX7_takeOrder 18 = .ok (.iload_n 1, 1) := by decide +kernel
theorem dX7_takeOrder_19 : decode cX7_takeOrder 19 = .ok (.bipush 112, 2) := by decide +kernel
theorem dX7_takeOrder_21 : decode cX7_takeOrder 21 = .ok (.if_icmp .eq 25, 3) := by decide +kernel
theorem dX7_takeOrder_24 : decode cX7_takeOrder 24 = .ok (.iload_n 1, 1) := by decide +kernel
theorem dX7_takeOrder_25 : decode cX7_takeOrder 25 = .ok (.bipush 116, 2) := by decide +kernel
theorem dX7_takeOrder_27 : decode cX7_takeOrder 27 = .ok (.if_icmp .eq 19, 3) := by decide +kernel
theorem dX7_takeOrder_30 : decode cX7_takeOrder 30 = .ok (.iload_n 1, 1) := by decide +kernel
theorem dX7_takeOrder_31 : decode cX7_takeOrder 31 = .ok (.bipush 100, 2) := by decide +kernel
theorem dX7_takeOrder_33 : decode cX7_takeOrder 33 = .ok (.if_icmp .eq 13, 3) := by decide +kernel
theorem dX7_takeOrder_36 : decode cX7_takeOrder 36 = .ok (.iload_n 1, 1) := by decide +kernel
theorem dX7_takeOrder_37 : decode cX7_takeOrder 37 = .ok (.bipush 63, 2) := by decide +kernel
theorem dX7_takeOrder_39 : decode cX7_takeOrder 39 = .ok (.if_icmp .eq 7, 3) := by decide +kernel
theorem dX7_takeOrder_42 : decode cX7_takeOrder 42 = .ok (.iconst 1, 1) := by decide +kernel
theorem dX7_takeOrder_43 : decode cX7_takeOrder 43 = .ok (.goto 4, 3) := by decide +kernel
theorem dX7_takeOrder_46 : decode cX7_takeOrder 46 = .ok (.iconst 0, 1) := by decide +kernel
theorem dX7_takeOrder_47 : decode cX7_takeOrder 47 = .ok (.putfield 200, 3) := by decide +kernel
theorem dX7_takeOrder_50 : decode cX7_takeOrder 50 = .ok (.aload_n 0, 1) := by decide +kernel
theorem dX7_takeOrder_51 : decode cX7_takeOrder 51 = .ok (.getfield 200, 3) := by decide +kernel
theorem dX7_takeOrder_54 : decode cX7_takeOrder 54 = .ok (.ifCond .ne 18, 3) := by decide +kernel
theorem dX7_takeOrder_57 : decode cX7_takeOrder 57 = .ok (.aload_n 0, 1) := by decide +kernel
theorem dX7_takeOrder_58 : decode cX7_takeOrder 58 = .ok (.dup, 1) := by decide +kernel
theorem dX7_takeOrder_59 : decode cX7_takeOrder 59 = .ok (.getfield 194, 3) := by decide +kernel
theorem dX7_takeOrder_62 : decode cX7_takeOrder 62 = .ok (.iconst 1, 1) := by decide +kernel
theorem dX7_takeOrder_63 : decode cX7_takeOrder 63 = .ok (.iadd, 1) := by decide +kernel
theorem dX7_takeOrder_64 : decode cX7_takeOrder 64 = .ok (.putfield 194, 3) := by decide +kernel
theorem dX7_takeOrder_67 : decode cX7_takeOrder 67 = .ok (.aload_n 0, 1) := by decide +kernel
theorem dX7_takeOrder_68 : decode cX7_takeOrder 68 = .ok (.iload_n 1, 1) := by decide +kernel
theorem dX7_takeOrder_69 : decode cX7_takeOrder 69 = .ok (.invokevirtual 236, 3) := by decide +kernel
theorem dX7_takeOrder_72 : decode cX7_takeOrder 72 = .ok (.aload_n 0, 1) := by decide +kernel
theorem dX7_takeOrder_73 : decode cX7_takeOrder 73 = .ok (.getfield 200, 3) := by decide +kernel
theorem dX7_takeOrder_76 : decode cX7_takeOrder 76 = .ok (.ifCond .ne 23, 3) := by decide +kernel
theorem dX7_takeOrder_79 : decode cX7_takeOrder 79 = .ok (.aload_n 0, 1) := by decide +kernel
theorem dX7_takeOrder_80 : decode cX7_takeOrder 80 = .ok (.getfield 32, 3) := by decide +kernel
theorem dX7_takeOrder_83 : decode cX7_takeOrder 83 = .ok (.aload_n 0, 1) := by decide +kernel
theorem dX7_takeOrder_84 : decode cX7_takeOrder 84 = .ok (.getfield 197, 3) := by decide +kernel
theorem dX7_takeOrder_87 : decode cX7_takeOrder 87 = .ok (.iload_n 1, 1) := by decide +kernel
theorem dX7_takeOrder_88 : decode cX7_takeOrder 88 = .ok (.iastore, 1) := by decide +kernel
theorem dX7_takeOrder_89 : decode cX7_takeOrder 89 = .ok (.aload_n 0, 1) := by decide +kernel
theorem dX7_takeOrder_90 : decode cX7_takeOrder 90 = .ok (.dup, 1) := by decide +kernel
theorem dX7_takeOrder_91 : decode cX7_takeOrder 91 = .ok (.getfield 197, 3) := by decide +kernel
theorem dX7_takeOrder_94 : decode cX7_takeOrder 94 = .ok (.iconst 1, 1) := by decide +kernel
theorem dX7_takeOrder_95 : decode cX7_takeOrder 95 = .ok (.iadd, 1) := by decide +kernel
theorem dX7_takeOrder_96 : decode cX7_takeOrder 96 = .ok (.putfield 197, 3) := by decide +kernel
theorem dX7_takeOrder_99 : decode cX7_takeOrder 99 = .ok (.return_, 1) := by decide +kernel
set_option maxRecDepth 20000 in
theorem ggX7_fault_X7_takeOrder : GoodIn wsX7_fault wsX7_takeOrder := goodIn_r _ [9, 2, 1, 10, 3, 11, 12, 13, 8, 14, 4, 15, 16, 17, 18, 19, 20, 21, 22, 23, 24, 25, 26, 27, 28, 29, 30, 31, 32, 33, 34, 35, 36, 37, 38, 39, 40, 41, 42, 43, 44, 45, 46, 47, 48, 49, 50, 51, 52, 53, 54, 55, 56, 57, 58, 59, 60, 61, 62, 63, 64, 65, 66, 67, 68, 69, 70, 71, 72, 73, 74, 75] (by decide +kernel) (by decide +kernel)
set_option maxRecDepth 20000 in
theorem gX7_fault_X7_takeOrder : GoodIn wsX7_fault (wsV RX7 239 RX7 yX7_takeOrder wsX7_takeOrder) := goodIn_app (goodIn_of _ (by decide +kernel)) ggX7_fault_X7_takeOrder
set_option maxRecDepth 20000 in
theorem ggX7_fault_X7_takeSign : GoodIn wsX7_fault wsX7_takeSign := goodIn_r _ [35, 2, 1, 11, 12, 13, 8, 14, 4, 15, 60, 61, 62, 63, 64, 65, 66, 67, 68, 69, 70, 71, 72, 73, 74, 75] (by decide +kernel) (by decide +kernel)
set_option maxRecDepth 20000 in
theorem gX7_fault_X7_takeSign : GoodIn wsX7_fault (wsV RX7 215 RX7 yX7_takeSign wsX7_takeSign) := goodIn_app (goodIn_of _ (by decide +kernel)) ggX7_fault_X7_takeSign
theorem dX7_fault_0 : decode cX7_fault 0 = .ok (.aload_n 0, 1) := by decide +kernel
theorem dX7_fault_1 : decode cX7_fault 1 = .ok (.iconst 0, 1) := by decide +kernel
theorem dX7_fault_2 : decode cX7_fault 2 = .ok (.putfield 194, 3) := by decide +kernel
theorem dX7_fault_5 : decode cX7_fault 5 = .ok (.aload_n 0, 1) := by decide +kernel
theorem dX7_fault_6 : decode cX7_fault 6 = .ok (.iconst 0, 1) := by decide +kernel
theorem dX7_fault_7 : decode cX7_fault 7 = .ok (.putfield 200, 3) := by decide +kernel
theorem dX7_fault_10 : decode cX7_fault 10 = .ok (.aload_n 0, 1) := by decide +kernel
theorem dX7_fault_11 : decode cX7_fault 11 = .ok (.iconst 0, 1) := by decide +kernel
theorem dX7_fault_12 : decode cX7_fault 12 = .ok (.putfield 197, 3) := by decide +kernel
theorem dX7_fault_15 : decode cX7_fault 15 = .ok (.aload_n 0, 1) := by decide +kernel
theorem dX7_fault_16 : decode cX7_fault 16 = .ok (.invokevirtual 239, 3) := by decide +kernel
theorem dX7_fault_19 : decode cX7_fault 19 = .ok (.aload_n 0, 1) := by decide +kernel
theorem dX7_fault_20 : decode cX7_fault 20 = .ok (.getfield 200, 3) := by decide +kernel
theorem dX7_fault_23 : decode cX7_fault 23 = .ok (.ifCond .ne 34, 3) := by decide +kernel
theorem dX7_fault_26 : decode cX7_fault 26 = .ok (.aload_n 0, 1) := by decide +kernel
theorem dX7_fault_27 : decode cX7_fault 27 = .ok (.getfield 194, 3) := by decide +kernel
theorem dX7_fault_30 : decode cX7_fault 30 = .ok (.aload_n 0, 1) := by decide +kernel
theorem dX7_fault_31 : decode cX7_fault 31 = .ok (.getfield 184, 3) := by decide +kernel
theorem dX7_fault_34 : decode cX7_fault 34 = .ok (.if_icmp .ge 23, 3) := by decide +kernel
theorem dX7_fault_37 : decode cX7_fault 37 = .ok (.aload_n 0, 1) := by decide +kernel
theorem dX7_fault_38 : decode cX7_fault 38 = .ok (.bipush 59, 2) := by decide +kernel
theorem dX7_fault_40 : decode cX7_fault 40 = .ok (.invokevirtual 215, 3) := by decide +kernel
theorem dX7_fault_43 : decode cX7_fault 43 = .ok (.aload_n 0, 1) := by decide +kernel
theorem dX7_fault_44 : decode cX7_fault 44 = .ok (.getfield 200, 3) := by decide +kernel
theorem dX7_fault_47 : decode cX7_fault 47 = .ok (.ifCond .ne (-28), 3) := by decide +kernel
theorem dX7_fault_50 : decode cX7_fault 50 = .ok (.aload_n 0, 1) := by decide +kernel
theorem dX7_fault_51 : decode cX7_fault 51 = .ok (.invokevirtual 239, 3) := by decide +kernel
theorem dX7_fault_54 : decode cX7_fault 54 = .ok (.goto (-35), 3) := by decide +kernel
theorem dX7_fault_57 : decode cX7_fault 57 = .ok (.aload_n 0, 1) := by decide +kernel
theorem dX7_fault_58 : decode cX7_fault 58 = .ok (.getfield 200, 3) := by decide +kernel
theorem dX7_fault_61 : decode cX7_fault 61 = .ok (.ifCond .eq 10, 3) := by decide +kernel
theorem dX7_fault_64 : decode cX7_fault 64 = .ok (.aload_n 0, 1) := by decide +kernel
theorem dX7_fault_65 : decode cX7_fault 65 = .ok (.getfield 194, 3) := by decide +kernel
theorem dX7_fault_68 : decode cX7_fault 68 = .ok (.goto 5, 3) := by decide +kernel
theorem dX7_fault_71 : decode cX7_fault 71 = .ok (.bipush (-6), 2) := by decide +kernel
theorem dX7_fault_73 : decode cX7_fault 73 = .ok (.ireturn, 1) := by decide +kernel
set_option maxRecDepth 20000 in
theorem ggX7_carry_X7_tryOwn : GoodIn wsX7_carry wsX7_tryOwn := goodIn_r _ [7, 8, 9, 10, 6, 11, 12, 13, 14, 15, 16, 17, 18, 19, 20, 21, 22, 23, 24, 25, 26, 27, 28, 29, 30, 31, 32, 33, 34, 35, 36, 37, 38, 39, 40, 41, 42, 43, 44, 45, 46, 47, 48, 49, 50, 51, 52, 53, 54, 55, 56, 57, 58, 59, 60, 61, 62, 63, 64, 65, 66, 138, 139, 140, 141, 142, 143, 144, 145, 146, 147, 148, 149, 150, 151, 152, 153] (by decide +kernel) (by decide +kernel)
set_option maxRecDepth 20000 in
theorem gX7_carry_X7_tryOwn : GoodIn wsX7_carry (wsV RX7 104 RX7 yX7_tryOwn wsX7_tryOwn) := goodIn_app (goodIn_of _ (by decide +kernel)) ggX7_carry_X7_tryOwn
set_option maxRecDepth 20000 in
theorem ggX7_carry_X7_tryStamp : GoodIn wsX7_carry wsX7_tryStamp := goodIn_r _ [70, 8, 15, 16, 6, 17, 12, 13, 14, 9, 10, 11, 71, 72, 73, 18, 19, 20, 21, 22, 23, 24, 25, 26, 27, 28, 74, 75, 76, 77, 138, 139, 140, 141, 142, 143, 144, 145, 146, 147, 148, 149, 150, 151, 152, 153] (by decide +kernel) (by decide +kernel)
set_option maxRecDepth 20000 in
theorem gX7_carry_X7_tryStamp : GoodIn wsX7_carry (wsV RX7 115 RX7 yX7_tryStamp wsX7_tryStamp) := goodIn_app (goodIn_of _ (by decide +kernel)) ggX7_carry_X7_tryStamp
set_option maxRecDepth 20000 in
theorem ggX7_carry_X7_tryPass : GoodIn wsX7_carry wsX7_tryPass := goodIn_r _ [81, 8, 34, 82, 83, 84, 6, 85, 12, 13, 14, 15, 16, 17, 71, 72, 73, 35, 36, 37, 38, 39, 40, 41, 42, 43, 44, 45, 46, 18, 19, 20, 21, 22, 23, 24, 25, 26, 27, 28, 74, 75, 76, 77, 138, 139, 140, 141, 142, 143, 144, 145, 146, 147, 148, 149, 150, 151, 152, 153] (by decide +kernel) (by decide +kernel)
set_option maxRecDepth 20000 in
theorem gX7_carry_X7_tryPass : GoodIn wsX7_carry (wsV RX7 122 RX7 yX7_tryPass wsX7_tryPass) := goodIn_app (goodIn_of _ (by decide +kernel)) ggX7_carry_X7_tryPass
set_option maxRecDepth 20000 in
theorem ggX7_carry_X7_tryTakeBack : GoodIn wsX7_carry wsX7_tryTakeBack := goodIn_r _ [89, 8, 82, 83, 84, 6, 85, 12, 13, 14, 39, 40, 41, 42, 18, 19, 20, 21, 22, 23, 24, 25, 26, 27, 28, 29, 30, 31, 32, 33, 34, 35, 36, 37, 38, 43, 44, 45, 46, 47, 48, 49, 50, 51, 52, 53, 54, 55, 56, 57, 58, 59, 60, 61, 62, 63, 64, 65, 66, 138, 139, 140, 141, 142, 143, 144, 145, 146, 147, 148, 149, 150, 151, 152, 153] (by decide +kernel) (by decide +kernel)
set_option maxRecDepth 20000 in
theorem gX7_carry_X7_tryTakeBack : GoodIn wsX7_carry (wsV RX7 126 RX7 yX7_tryTakeBack wsX7_tryTakeBack) := goodIn_app (goodIn_of _ (by decide +kernel)) ggX7_carry_X7_tryTakeBack
set_option maxRecDepth 20000 in
theorem ggX7_carry_X7_tryDoor : GoodIn wsX7_carry wsX7_tryDoor := goodIn_r _ [93, 8, 94, 95, 6, 96, 15, 16, 17, 12, 13, 14, 82, 83, 84, 85, 18, 19, 20, 21, 22, 23, 24, 25, 26, 27, 28, 59, 60, 61, 62, 97, 98, 99, 100, 55, 56, 57, 58, 63, 64, 65, 66, 138, 139, 140, 141, 142, 143, 144, 145, 146, 147, 148, 149, 150, 151, 152, 153] (by decide +kernel) (by decide +kernel)
set_option maxRecDepth 20000 in
theorem gX7_carry_X7_tryDoor : GoodIn wsX7_carry (wsV RX7 136 RX7 yX7_tryDoor wsX7_tryDoor) := goodIn_app (goodIn_of _ (by decide +kernel)) ggX7_carry_X7_tryDoor
set_option maxRecDepth 20000 in
theorem ggX7_carry_X7_tryCome : GoodIn wsX7_carry wsX7_tryCome := goodIn_r _ [104, 8, 105, 94, 95, 6, 96, 15, 16, 17, 12, 13, 14, 18, 19, 20, 21, 22, 23, 24, 25, 26, 27, 28, 106, 107, 108, 109, 110, 111, 112, 113, 114, 115, 116, 117, 55, 56, 57, 58, 118, 119, 120, 121, 63, 64, 65, 66, 122, 123, 124, 125, 126, 127, 128, 129, 59, 60, 61, 62, 130, 131, 132, 133, 39, 40, 41, 42, 43, 44, 45, 46, 134, 135, 136, 137, 138, 139, 140, 141, 142, 143, 144, 145, 146, 147, 148, 149, 150, 151, 152, 153] (by decide +kernel) (by decide +kernel)
set_option maxRecDepth 20000 in
theorem gX7_carry_X7_tryCome : GoodIn wsX7_carry (wsV RX7 160 RX7 yX7_tryCome wsX7_tryCome) := goodIn_app (goodIn_of _ (by decide +kernel)) ggX7_carry_X7_tryCome
theorem dX7_carry_0 : decode cX7_carry 0 = .ok (.iconst 4, 1) := by decide +kernel
theorem dX7_carry_1 : decode cX7_carry 1 = .ok (.iload_n 1, 1) := by decide +kernel
theorem dX7_carry_2 : decode cX7_carry 2 = .ok (.imul, 1) := by decide +kernel
theorem dX7_carry_3 : decode cX7_carry 3 = .ok (.istore_n 2, 1) := by decide +kernel
theorem dX7_carry_4 : decode cX7_carry 4 = .ok (.aload_n 0, 1) := by decide +kernel
theorem dX7_carry_5 : decode cX7_carry 5 = .ok (.getfield 32, 3) := by decide +kernel
theorem dX7_carry_8 : decode cX7_carry 8 = .ok (.iload_n 1, 1) := by decide +kernel
theorem dX7_carry_9 : decode cX7_carry 9 = .ok (.iaload, 1) := by decide +kernel
theorem dX7_carry_10 : decode cX7_carry 10 = .ok (.lookupswitch 174 #[(100, 146), (111, 50), (112, 106), (115, 70), (116, 134)], 50) := by decide +kernel
theorem dX7_carry_60 : decode cX7_carry 60 = .ok (.aload_n 0, 1) := by decide +kernel
theorem dX7_carry_61 : decode cX7_carry 61 = .ok (.aload_n 0, 1) := by decide +kernel
theorem dX7_carry_62 : decode cX7_carry 62 = .ok (.getfield 35, 3) := by decide +kernel
theorem dX7_carry_65 : decode cX7_carry 65 = .ok (.iload_n 2, 1) := by decide +kernel
theorem dX7_carry_66 : decode cX7_carry 66 = .ok (.iaload, 1) := by decide +kernel
theorem dX7_carry_67 : decode cX7_carry 67 = .ok (.aload_n 0, 1) := by decide +kernel
theorem dX7_carry_68 : decode cX7_carry 68 = .ok (.getfield 35, 3) := by decide +kernel
theorem dX7_carry_71 : decode cX7_carry 71 = .ok (.iload_n 2, 1) := by decide +kernel
theorem dX7_carry_72 : decode cX7_carry 72 = .ok (.iconst 1, 1) := by decide +kernel
theorem dX7_carry_73 : decode cX7_carry 73 = .ok (.iadd, 1) := by decide +kernel
theorem dX7_carry_74 : decode cX7_carry 74 = .ok (.iaload, 1) := by decide +kernel
theorem dX7_carry_75 : decode cX7_carry 75 = .ok (.iconst 0, 1) := by decide +kernel
theorem dX7_carry_76 : decode cX7_carry 76 = .ok (.invokevirtual 104, 3) := by decide +kernel
theorem dX7_carry_79 : decode cX7_carry 79 = .ok (.ireturn, 1) := by decide +kernel
theorem dX7_carry_80 : decode cX7_carry 80 = .ok (.aload_n 0, 1) := by decide +kernel
theorem dX7_carry_81 : decode cX7_carry 81 = .ok (.aload_n 0, 1) := by decide +kernel
theorem dX7_carry_82 : decode cX7_carry 82 = .ok (.getfield 35, 3) := by decide +kernel
theorem dX7_carry_85 : decode cX7_carry 85 = .ok (.iload_n 2, 1) := by decide +kernel
theorem dX7_carry_86 : decode cX7_carry 86 = .ok (.iaload, 1) := by decide +kernel
theorem dX7_carry_87 : decode cX7_carry 87 = .ok (.aload_n 0, 1) := by decide +kernel
theorem dX7_carry_88 : decode cX7_carry 88 = .ok (.getfield 35, 3) := by decide +kernel
theorem dX7_carry_91 : decode cX7_carry 91 = .ok (.iload_n 2, 1) := by decide +kernel
theorem dX7_carry_92 : decode cX7_carry 92 = .ok (.iconst 1, 1) := by decide +kernel
theorem dX7_carry_93 : decode cX7_carry 93 = .ok (.iadd, 1) := by decide +kernel
theorem dX7_carry_94 : decode cX7_carry 94 = .ok (.iaload, 1) := by decide +kernel
theorem dX7_carry_95 : decode cX7_carry 95 = .ok (.aload_n 0, 1) := by decide +kernel
theorem dX7_carry_96 : decode cX7_carry 96 = .ok (.getfield 35, 3) := by decide +kernel
theorem dX7_carry_99 : decode cX7_carry 99 = .ok (.iload_n 2, 1) := by decide +kernel
theorem dX7_carry_100 : decode cX7_carry 100 = .ok (.iconst 2, 1) := by decide +kernel
theorem dX7_carry_101 : decode cX7_carry 101 = .ok (.iadd, 1) := by decide +kernel
theorem dX7_carry_102 : decode cX7_carry 102 = .ok (.iaload, 1) := by decide +kernel
theorem dX7_carry_103 : decode cX7_carry 103 = .ok (.aload_n 0, 1) := by decide +kernel
theorem dX7_carry_104 : decode cX7_carry 104 = .ok (.getfield 35, 3) := by decide +kernel
theorem dX7_carry_107 : decode cX7_carry 107 = .ok (.iload_n 2, 1) := by decide +kernel
theorem dX7_carry_108 : decode cX7_carry 108 = .ok (.iconst 3, 1) := by decide +kernel
theorem dX7_carry_109 : decode cX7_carry 109 = .ok (.iadd, 1) := by decide +kernel
theorem dX7_carry_110 : decode cX7_carry 110 = .ok (.iaload, 1) := by decide +kernel
theorem dX7_carry_111 : decode cX7_carry 111 = .ok (.iconst 0, 1) := by decide +kernel
theorem dX7_carry_112 : decode cX7_carry 112 = .ok (.invokevirtual 115, 3) := by decide +kernel
theorem dX7_carry_115 : decode cX7_carry 115 = .ok (.ireturn, 1) := by decide +kernel
theorem dX7_carry_116 : decode cX7_carry 116 = .ok (.aload_n 0, 1) := by decide +kernel
theorem dX7_carry_117 : decode cX7_carry 117 = .ok (.aload_n 0, 1) := by decide +kernel
theorem dX7_carry_118 : decode cX7_carry 118 = .ok (.getfield 35, 3) := by decide +kernel
theorem dX7_carry_121 : decode cX7_carry 121 = .ok (.iload_n 2, 1) := by decide +kernel
theorem dX7_carry_122 : decode cX7_carry 122 = .ok (.iaload, 1) := by decide +kernel
theorem dX7_carry_123 : decode cX7_carry 123 = .ok (.aload_n 0, 1) := by decide +kernel
theorem dX7_carry_124 : decode cX7_carry 124 = .ok (.getfield 35, 3) := by decide +kernel
theorem dX7_carry_127 : decode cX7_carry 127 = .ok (.iload_n 2, 1) := by decide +kernel
theorem dX7_carry_128 : decode cX7_carry 128 = .ok (.iconst 1, 1) := by decide +kernel
theorem dX7_carry_129 : decode cX7_carry 129 = .ok (.iadd, 1) := by decide +kernel
theorem dX7_carry_130 : decode cX7_carry 130 = .ok (.iaload, 1) := by decide +kernel
theorem dX7_carry_131 : decode cX7_carry 131 = .ok (.aload_n 0, 1) := by decide +kernel
theorem dX7_carry_132 : decode cX7_carry 132 = .ok (.getfield 35, 3) := by decide +kernel
theorem dX7_carry_135 : decode cX7_carry 135 = .ok (.iload_n 2, 1) := by decide +kernel
theorem dX7_carry_136 : decode cX7_carry 136 = .ok (.iconst 2, 1) := by decide +kernel
theorem dX7_carry_137 : decode cX7_carry 137 = .ok (.iadd, 1) := by decide +kernel
theorem dX7_carry_138 : decode cX7_carry 138 = .ok (.iaload, 1) := by decide +kernel
theorem dX7_carry_139 : decode cX7_carry 139 = .ok (.iconst 0, 1) := by decide +kernel
theorem dX7_carry_140 : decode cX7_carry 140 = .ok (.invokevirtual 122, 3) := by decide +kernel
theorem dX7_carry_143 : decode cX7_carry 143 = .ok (.ireturn, 1) := by decide +kernel
theorem dX7_carry_144 : decode cX7_carry 144 = .ok (.aload_n 0, 1) := by decide +kernel
theorem dX7_carry_145 : decode cX7_carry 145 = .ok (.aload_n 0, 1) := by decide +kernel
theorem dX7_carry_146 : decode cX7_carry 146 = .ok (.getfield 35, 3) := by decide +kernel
theorem dX7_carry_149 : decode cX7_carry 149 = .ok (.iload_n 2, 1) := by decide +kernel
theorem dX7_carry_150 : decode cX7_carry 150 = .ok (.iaload, 1) := by decide +kernel
theorem dX7_carry_151 : decode cX7_carry 151 = .ok (.iconst 0, 1) := by decide +kernel
theorem dX7_carry_152 : decode cX7_carry 152 = .ok (.invokevirtual 126, 3) := by decide +kernel
theorem dX7_carry_155 : decode cX7_carry 155 = .ok (.ireturn, 1) := by decide +kernel
theorem dX7_carry_156 : decode cX7_carry 156 = .ok (.aload_n 0, 1) := by decide +kernel
theorem dX7_carry_157 : decode cX7_carry 157 = .ok (.aload_n 0, 1) := by decide +kernel
theorem dX7_carry_158 : decode cX7_carry 158 = .ok (.getfield 35, 3) := by decide +kernel
theorem dX7_carry_161 : decode cX7_carry 161 = .ok (.iload_n 2, 1) := by decide +kernel
theorem dX7_carry_162 : decode cX7_carry 162 = .ok (.iaload, 1) := by decide +kernel
theorem dX7_carry_163 : decode cX7_carry 163 = .ok (.aload_n 0, 1) := by decide +kernel
theorem dX7_carry_164 : decode cX7_carry 164 = .ok (.getfield 35, 3) := by decide +kernel
theorem dX7_carry_167 : decode cX7_carry 167 = .ok (.iload_n 2, 1) := by decide +kernel
theorem dX7_carry_168 : decode cX7_carry 168 = .ok (.iconst 1, 1) := by decide +kernel
theorem dX7_carry_169 : decode cX7_carry 169 = .ok (.iadd, 1) := by decide +kernel
theorem dX7_carry_170 : decode cX7_carry 170 = .ok (.iaload, 1) := by decide +kernel
theorem dX7_carry_171 : decode cX7_carry 171 = .ok (.aload_n 0, 1) := by decide +kernel
theorem dX7_carry_172 : decode cX7_carry 172 = .ok (.getfield 35, 3) := by decide +kernel
theorem dX7_carry_175 : decode cX7_carry 175 = .ok (.iload_n 2, 1) := by decide +kernel
theorem dX7_carry_176 : decode cX7_carry 176 = .ok (.iconst 2, 1) := by decide +kernel
theorem dX7_carry_177 : decode cX7_carry 177 = .ok (.iadd, 1) := by decide +kernel
theorem dX7_carry_178 : decode cX7_carry 178 = .ok (.iaload, 1) := by decide +kernel
theorem dX7_carry_179 : decode cX7_carry 179 = .ok (.iconst 0, 1) := by decide +kernel
theorem dX7_carry_180 : decode cX7_carry 180 = .ok (.invokevirtual 136, 3) := by decide +kernel
theorem dX7_carry_183 : decode cX7_carry 183 = .ok (.ireturn, 1) := by decide +kernel
theorem dX7_carry_184 : decode cX7_carry 184 = .ok (.aload_n 0, 1) := by decide +kernel
theorem dX7_carry_185 : decode cX7_carry 185 = .ok (.aload_n 0, 1) := by decide +kernel
theorem dX7_carry_186 : decode cX7_carry 186 = .ok (.getfield 35, 3) := by decide +kernel
theorem dX7_carry_189 : decode cX7_carry 189 = .ok (.iload_n 2, 1) := by decide +kernel
theorem dX7_carry_190 : decode cX7_carry 190 = .ok (.iaload, 1) := by decide +kernel
theorem dX7_carry_191 : decode cX7_carry 191 = .ok (.aload_n 0, 1) := by decide +kernel
theorem dX7_carry_192 : decode cX7_carry 192 = .ok (.getfield 35, 3) := by decide +kernel
theorem dX7_carry_195 : decode cX7_carry 195 = .ok (.iload_n 2, 1) := by decide +kernel
theorem dX7_carry_196 : decode cX7_carry 196 = .ok (.iconst 1, 1) := by decide +kernel
theorem dX7_carry_197 : decode cX7_carry 197 = .ok (.iadd, 1) := by decide +kernel
theorem dX7_carry_198 : decode cX7_carry 198 = .ok (.iaload, 1) := by decide +kernel
theorem dX7_carry_199 : decode cX7_carry 199 = .ok (.aload_n 0, 1) := by decide +kernel
theorem dX7_carry_200 : decode cX7_carry 200 = .ok (.getfield 35, 3) := by decide +kernel
theorem dX7_carry_203 : decode cX7_carry 203 = .ok (.iload_n 2, 1) := by decide +kernel
theorem dX7_carry_204 : decode cX7_carry 204 = .ok (.iconst 2, 1) := by decide +kernel
theorem dX7_carry_205 : decode cX7_carry 205 = .ok (.iadd, 1) := by decide +kernel
theorem dX7_carry_206 : decode cX7_carry 206 = .ok (.iaload, 1) := by decide +kernel
theorem dX7_carry_207 : decode cX7_carry 207 = .ok (.iconst 0, 1) := by decide +kernel
theorem dX7_carry_208 : decode cX7_carry 208 = .ok (.invokevirtual 160, 3) := by decide +kernel
theorem dX7_carry_211 : decode cX7_carry 211 = .ok (.ireturn, 1) := by decide +kernel
set_option maxRecDepth 20000 in
theorem ggX7_carryOut_X7_fault : GoodIn wsX7_carryOut wsX7_fault := goodIn_r _ [7, 8, 9, 1, 2, 10, 11, 12, 6, 13, 14, 15, 16, 17, 18, 19, 20, 21, 22, 23, 24, 25, 26, 27, 28, 29, 30, 31, 32, 33, 34, 35, 36, 37, 38, 39, 40, 41, 42, 43, 44, 45, 46, 47, 48, 49, 50, 51, 52, 53, 54, 55, 56, 57, 58, 59, 60, 61, 62, 63, 199, 200, 201, 202, 203, 204, 205, 206, 207, 208, 209, 210, 211, 212, 213, 214] (by decide +kernel) (by decide +kernel)
set_option maxRecDepth 20000 in
theorem gX7_carryOut_X7_fault : GoodIn wsX7_carryOut (wsV RX7 242 RX7 yX7_fault wsX7_fault) := goodIn_app (goodIn_of _ (by decide +kernel)) ggX7_carryOut_X7_fault
set_option maxRecDepth 20000 in
theorem ggX7_carryOut_X7_keep : GoodIn wsX7_carryOut wsX7_keep := goodIn_r _ [67, 68, 69, 70, 71, 199, 200, 201, 202, 203, 204, 205, 206, 207, 208, 209, 210, 211, 212, 213, 214] (by decide +kernel) (by decide +kernel)
set_option maxRecDepth 20000 in
theorem gX7_carryOut_X7_keep : GoodIn wsX7_carryOut (wsV RX7 53 RX7 yX7_keep wsX7_keep) := goodIn_app (goodIn_of _ (by decide +kernel)) ggX7_carryOut_X7_keep
set_option maxRecDepth 20000 in
theorem ggX7_carryOut_X7_carry : GoodIn wsX7_carryOut wsX7_carry := goodIn_r _ [75, 14, 35, 76, 77, 78, 6, 79, 71, 80, 81, 82, 28, 29, 30, 83, 84, 85, 86, 87, 88, 89, 64, 65, 66, 67, 68, 69, 70, 90, 91, 92, 93, 94, 95, 96, 97, 98, 99, 100, 101, 102, 103, 104, 105, 106, 107, 108, 109, 110, 111, 112, 113, 114, 115, 116, 117, 118, 119, 120, 121, 122, 123, 124, 125, 126, 127, 128, 129, 130, 131, 132, 133, 134, 135, 136, 137, 138, 139, 140, 141, 142, 143, 144, 145, 146, 147, 148, 149, 150, 151, 152, 153, 154, 155, 156, 157, 158, 159, 160, 161, 162, 163, 164, 165, 166, 167, 168, 169, 170, 171, 172, 173, 174, 175, 176, 177, 178, 179, 180, 181, 182, 183, 184, 185, 186, 187, 188, 189, 190, 191, 192, 193, 194, 195, 196, 197, 198, 199, 200, 201, 202, 203, 204, 205, 206, 207, 208, 209, 210, 211, 212, 213, 214] (by decide +kernel) (by decide +kernel)
set_option maxRecDepth 20000 in
theorem gX7_carryOut_X7_carry : GoodIn wsX7_carryOut (wsV RX7 245 RX7 yX7_carry wsX7_carry) := goodIn_app (goodIn_of _ (by decide +kernel)) ggX7_carryOut_X7_carry
theorem dX7_carryOut_0 : decode cX7_carryOut 0 = .ok (.aload_n 0, 1) := by decide +kernel
theorem dX7_carryOut_1 : decode cX7_carryOut 1 = .ok (.invokevirtual 242, 3) := by decide +kernel
theorem dX7_carryOut_4 : decode cX7_carryOut 4 = .ok (.ifCond .lt 6, 3) := by decide +kernel
theorem dX7_carryOut_7 : decode cX7_carryOut 7 = .ok (.bipush (-3), 2) := by decide +kernel
theorem dX7_carryOut_9 : decode cX7_carryOut 9 = .ok (.ireturn, 1) := by decide +kernel
theorem dX7_carryOut_10 : decode cX7_carryOut 10 = .ok (.aload_n 0, 1) := by decide +kernel
theorem dX7_carryOut_11 : decode cX7_carryOut 11 = .ok (.invokevirtual 53, 3) := by decide +kernel
theorem dX7_carryOut_14 : decode cX7_carryOut 14 = .ok (.iconst 0, 1) := by decide +kernel
theorem dX7_carryOut_15 : decode cX7_carryOut 15 = .ok (.istore_n 1, 1) := by decide +kernel
theorem dX7_carryOut_16 : decode cX7_carryOut 16 = .ok (.iload_n 1, 1) := by decide +kernel
theorem dX7_carryOut_17 : decode cX7_carryOut 17 = .ok (.aload_n 0, 1) := by decide +kernel
theorem dX7_carryOut_18 : decode cX7_carryOut 18 = .ok (.getfield 197, 3) := by decide +kernel
theorem dX7_carryOut_21 : decode cX7_carryOut 21 = .ok (.if_icmp .ge 17, 3) := by decide +kernel
theorem dX7_carryOut_24 : decode cX7_carryOut 24 = .ok (.aload_n 0, 1) := by decide +kernel
theorem dX7_carryOut_25 : decode cX7_carryOut 25 = .ok (.iload_n 1, 1) := by decide +kernel
theorem dX7_carryOut_26 : decode cX7_carryOut 26 = .ok (.invokevirtual 245, 3) := by decide +kernel
theorem dX7_carryOut_29 : decode cX7_carryOut 29 = .ok (.ifCond .lt 9, 3) := by decide +kernel
theorem dX7_carryOut_32 : decode cX7_carryOut 32 = .ok (.iinc 1 1, 3) := by decide +kernel
theorem dX7_carryOut_35 : decode cX7_carryOut 35 = .ok (.goto (-19), 3) := by decide +kernel
theorem dX7_carryOut_38 : decode cX7_carryOut 38 = .ok (.aload_n 0, 1) := by decide +kernel
theorem dX7_carryOut_39 : decode cX7_carryOut 39 = .ok (.iconst 0, 1) := by decide +kernel
theorem dX7_carryOut_40 : decode cX7_carryOut 40 = .ok (.putfield 184, 3) := by decide +kernel
theorem dX7_carryOut_43 : decode cX7_carryOut 43 = .ok (.iload_n 1, 1) := by decide +kernel
theorem dX7_carryOut_44 : decode cX7_carryOut 44 = .ok (.ireturn, 1) := by decide +kernel
theorem dX7_undo_0 : decode cX7_undo 0 = .ok (.aload_n 0, 1) := by decide +kernel
theorem dX7_undo_1 : decode cX7_undo 1 = .ok (.getfield 46, 3) := by decide +kernel
theorem dX7_undo_4 : decode cX7_undo 4 = .ok (.ifCond .ne 6, 3) := by decide +kernel
theorem dX7_undo_7 : decode cX7_undo 7 = .ok (.bipush (-5), 2) := by decide +kernel
theorem dX7_undo_9 : decode cX7_undo 9 = .ok (.ireturn, 1) := by decide +kernel
theorem dX7_undo_10 : decode cX7_undo 10 = .ok (.aload_n 0, 1) := by decide +kernel
theorem dX7_undo_11 : decode cX7_undo 11 = .ok (.dup, 1) := by decide +kernel
theorem dX7_undo_12 : decode cX7_undo 12 = .ok (.getfield 46, 3) := by decide +kernel
theorem dX7_undo_15 : decode cX7_undo 15 = .ok (.iconst 1, 1) := by decide +kernel
theorem dX7_undo_16 : decode cX7_undo 16 = .ok (.isub, 1) := by decide +kernel
theorem dX7_undo_17 : decode cX7_undo 17 = .ok (.putfield 46, 3) := by decide +kernel
theorem dX7_undo_20 : decode cX7_undo 20 = .ok (.aload_n 0, 1) := by decide +kernel
theorem dX7_undo_21 : decode cX7_undo 21 = .ok (.getfield 50, 3) := by decide +kernel
theorem dX7_undo_24 : decode cX7_undo 24 = .ok (.aload_n 0, 1) := by decide +kernel
theorem dX7_undo_25 : decode cX7_undo 25 = .ok (.getfield 46, 3) := by decide +kernel
theorem dX7_undo_28 : decode cX7_undo 28 = .ok (.iadd, 1) := by decide +kernel
theorem dX7_undo_29 : decode cX7_undo 29 = .ok (.bipush 6, 2) := by decide +kernel
theorem dX7_undo_31 : decode cX7_undo 31 = .ok (.irem, 1) := by decide +kernel
theorem dX7_undo_32 : decode cX7_undo 32 = .ok (.istore_n 1, 1) := by decide +kernel
theorem dX7_undo_33 : decode cX7_undo 33 = .ok (.iconst 0, 1) := by decide +kernel
theorem dX7_undo_34 : decode cX7_undo 34 = .ok (.istore_n 2, 1) := by decide +kernel
theorem dX7_undo_35 : decode cX7_undo 35 = .ok (.iload_n 2, 1) := by decide +kernel
theorem dX7_undo_36 : decode cX7_undo 36 = .ok (.sipush 407, 3) := by decide +kernel
theorem dX7_undo_39 : decode cX7_undo 39 = .ok (.if_icmp .ge 27, 3) := by decide +kernel
theorem dX7_undo_42 : decode cX7_undo 42 = .ok (.aload_n 0, 1) := by decide +kernel
theorem dX7_undo_43 : decode cX7_undo 43 = .ok (.getfield 7, 3) := by decide +kernel
theorem dX7_undo_46 : decode cX7_undo 46 = .ok (.iload_n 2, 1) := by decide +kernel
theorem dX7_undo_47 : decode cX7_undo 47 = .ok (.aload_n 0, 1) := by decide +kernel
theorem dX7_undo_48 : decode cX7_undo 48 = .ok (.getfield 13, 3) := by decide +kernel
theorem dX7_undo_51 : decode cX7_undo 51 = .ok (.sipush 407, 3) := by decide +kernel
theorem dX7_undo_54 : decode cX7_undo 54 = .ok (.iload_n 1, 1) := by decide +kernel
theorem dX7_undo_55 : decode cX7_undo 55 = .ok (.imul, 1) := by decide +kernel
theorem dX7_undo_56 : decode cX7_undo 56 = .ok (.iload_n 2, 1) := by decide +kernel
theorem dX7_undo_57 : decode cX7_undo 57 = .ok (.iadd, 1) := by decide +kernel
theorem dX7_undo_58 : decode cX7_undo 58 = .ok (.iaload, 1) := by decide +kernel
theorem dX7_undo_59 : decode cX7_undo 59 = .ok (.iastore, 1) := by decide +kernel
theorem dX7_undo_60 : decode cX7_undo 60 = .ok (.iinc 2 1, 3) := by decide +kernel
theorem dX7_undo_63 : decode cX7_undo 63 = .ok (.goto (-28), 3) := by decide +kernel
theorem dX7_undo_66 : decode cX7_undo 66 = .ok (.aload_n 0, 1) := by decide +kernel
theorem dX7_undo_67 : decode cX7_undo 67 = .ok (.getfield 46, 3) := by decide +kernel
theorem dX7_undo_70 : decode cX7_undo 70 = .ok (.ireturn, 1) := by decide +kernel
set_option maxRecDepth 20000 in
theorem ggX7_save_X7_in : GoodIn wsX7_save wsX7_in := goodIn_r _ [7] (by decide +kernel) (by decide +kernel)
set_option maxRecDepth 20000 in
theorem gX7_save_X7_in : GoodIn wsX7_save (va_wsS RX7 38 yX7_in wsX7_in) := goodIn_app (goodIn_of _ (by decide +kernel)) ggX7_save_X7_in
theorem dX7_save_0 : decode cX7_save 0 = .ok (.iload_n 1, 1) := by decide +kernel
theorem dX7_save_1 : decode cX7_save 1 = .ok (.iconst 0, 1) := by decide +kernel
theorem dX7_save_2 : decode cX7_save 2 = .ok (.iconst 1, 1) := by decide +kernel
theorem dX7_save_3 : decode cX7_save 3 = .ok (.invokestatic 38, 3) := by decide +kernel
theorem dX7_save_6 : decode cX7_save 6 = .ok (.ifCond .ne 6, 3) := by decide +kernel
theorem dX7_save_9 : decode cX7_save 9 = .ok (.bipush (-2), 2) := by decide +kernel
theorem dX7_save_11 : decode cX7_save 11 = .ok (.ireturn, 1) := by decide +kernel
theorem dX7_save_12 : decode cX7_save 12 = .ok (.iconst 0, 1) := by decide +kernel
theorem dX7_save_13 : decode cX7_save 13 = .ok (.istore_n 2, 1) := by decide +kernel
theorem dX7_save_14 : decode cX7_save 14 = .ok (.iload_n 2, 1) := by decide +kernel
theorem dX7_save_15 : decode cX7_save 15 = .ok (.sipush 407, 3) := by decide +kernel
theorem dX7_save_18 : decode cX7_save 18 = .ok (.if_icmp .ge 27, 3) := by decide +kernel
theorem dX7_save_21 : decode cX7_save 21 = .ok (.aload_n 0, 1) := by decide +kernel
theorem dX7_save_22 : decode cX7_save 22 = .ok (.getfield 16, 3) := by decide +kernel
theorem dX7_save_25 : decode cX7_save 25 = .ok (.sipush 407, 3) := by decide +kernel
theorem dX7_save_28 : decode cX7_save 28 = .ok (.iload_n 1, 1) := by decide +kernel
theorem dX7_save_29 : decode cX7_save 29 = .ok (.imul, 1) := by decide +kernel
theorem dX7_save_30 : decode cX7_save 30 = .ok (.iload_n 2, 1) := by decide +kernel
theorem dX7_save_31 : decode cX7_save 31 = .ok (.iadd, 1) := by decide +kernel
theorem dX7_save_32 : decode cX7_save 32 = .ok (.aload_n 0, 1) := by decide +kernel
theorem dX7_save_33 : decode cX7_save 33 = .ok (.getfield 7, 3) := by decide +kernel
theorem dX7_save_36 : decode cX7_save 36 = .ok (.iload_n 2, 1) := by decide +kernel
theorem dX7_save_37 : decode cX7_save 37 = .ok (.iaload, 1) := by decide +kernel
theorem dX7_save_38 : decode cX7_save 38 = .ok (.iastore, 1) := by decide +kernel
theorem dX7_save_39 : decode cX7_save 39 = .ok (.iinc 2 1, 3) := by decide +kernel
theorem dX7_save_42 : decode cX7_save 42 = .ok (.goto (-28), 3) := by decide +kernel
theorem dX7_save_45 : decode cX7_save 45 = .ok (.aload_n 0, 1) := by decide +kernel
theorem dX7_save_46 : decode cX7_save 46 = .ok (.getfield 19, 3) := by decide +kernel
theorem dX7_save_49 : decode cX7_save 49 = .ok (.iload_n 1, 1) := by decide +kernel
theorem dX7_save_50 : decode cX7_save 50 = .ok (.iconst 1, 1) := by decide +kernel
theorem dX7_save_51 : decode cX7_save 51 = .ok (.bastore, 1) := by decide +kernel
theorem dX7_save_52 : decode cX7_save 52 = .ok (.aload_n 0, 1) := by decide +kernel
theorem dX7_save_53 : decode cX7_save 53 = .ok (.getfield 7, 3) := by decide +kernel
theorem dX7_save_56 : decode cX7_save 56 = .ok (.bipush 76, 2) := by decide +kernel
theorem dX7_save_58 : decode cX7_save 58 = .ok (.iaload, 1) := by decide +kernel
theorem dX7_save_59 : decode cX7_save 59 = .ok (.ireturn, 1) := by decide +kernel
set_option maxRecDepth 20000 in
theorem ggX7_restore_X7_in : GoodIn wsX7_restore wsX7_in := goodIn_r _ [7] (by decide +kernel) (by decide +kernel)
set_option maxRecDepth 20000 in
theorem gX7_restore_X7_in : GoodIn wsX7_restore (va_wsS RX7 38 yX7_in wsX7_in) := goodIn_app (goodIn_of _ (by decide +kernel)) ggX7_restore_X7_in
set_option maxRecDepth 20000 in
theorem ggX7_restore_X7_keep : GoodIn wsX7_restore wsX7_keep := goodIn_r _ [11, 12, 13, 14, 2, 15, 16, 17, 18, 19, 20, 21, 22, 23, 24, 25, 26, 27, 28, 29, 30] (by decide +kernel) (by decide +kernel)
set_option maxRecDepth 20000 in
theorem gX7_restore_X7_keep : GoodIn wsX7_restore (wsV RX7 53 RX7 yX7_keep wsX7_keep) := goodIn_app (goodIn_of _ (by decide +kernel)) ggX7_restore_X7_keep
theorem dX7_restore_0 : decode cX7_restore 0 = .ok (.iload_n 1, 1) := by decide +kernel
theorem dX7_restore_1 : decode cX7_restore 1 = .ok (.iconst 0, 1) := by decide +kernel
theorem dX7_restore_2 : decode cX7_restore 2 = .ok (.iconst 1, 1) := by decide +kernel
theorem dX7_restore_3 : decode cX7_restore 3 = .ok (.invokestatic 38, 3) := by decide +kernel
theorem dX7_restore_6 : decode cX7_restore 6 = .ok (.ifCond .ne 6, 3) := by decide +kernel
theorem dX7_restore_9 : decode cX7_restore 9 = .ok (.bipush (-2), 2) := by decide +kernel
theorem dX7_restore_11 : decode cX7_restore 11 = .ok (.ireturn, 1) := by decide +kernel
theorem dX7_restore_12 : decode cX7_restore 12 = .ok (.aload_n 0, 1) := by decide +kernel
theorem dX7_restore_13 : decode cX7_restore 13 = .ok (.getfield 19, 3) := by decide +kernel
theorem dX7_restore_16 : decode cX7_restore 16 = .ok (.iload_n 1, 1) := by decide +kernel
theorem dX7_restore_17 : decode cX7_restore 17 = .ok (.baload, 1) := by decide +kernel
theorem dX7_restore_18 : decode cX7_restore 18 = .ok (.ifCond .ne 6, 3) := by decide +kernel
theorem dX7_restore_21 : decode cX7_restore 21 = .ok (.bipush (-5), 2) := by decide +kernel
theorem dX7_restore_23 : decode cX7_restore 23 = .ok (.ireturn, 1) := by decide +kernel
theorem dX7_restore_24 : decode cX7_restore 24 = .ok (.aload_n 0, 1) := by decide +kernel
theorem dX7_restore_25 : decode cX7_restore 25 = .ok (.invokevirtual 53, 3) := by decide +kernel
theorem dX7_restore_28 : decode cX7_restore 28 = .ok (.iconst 0, 1) := by decide +kernel
theorem dX7_restore_29 : decode cX7_restore 29 = .ok (.istore_n 2, 1) := by decide +kernel
theorem dX7_restore_30 : decode cX7_restore 30 = .ok (.iload_n 2, 1) := by decide +kernel
theorem dX7_restore_31 : decode cX7_restore 31 = .ok (.sipush 407, 3) := by decide +kernel
theorem dX7_restore_34 : decode cX7_restore 34 = .ok (.if_icmp .ge 27, 3) := by decide +kernel
theorem dX7_restore_37 : decode cX7_restore 37 = .ok (.aload_n 0, 1) := by decide +kernel
theorem dX7_restore_38 : decode cX7_restore 38 = .ok (.getfield 7, 3) := by decide +kernel
theorem dX7_restore_41 : decode cX7_restore 41 = .ok (.iload_n 2, 1) := by decide +kernel
theorem dX7_restore_42 : decode cX7_restore 42 = .ok (.aload_n 0, 1) := by decide +kernel
theorem dX7_restore_43 : decode cX7_restore 43 = .ok (.getfield 16, 3) := by decide +kernel
theorem dX7_restore_46 : decode cX7_restore 46 = .ok (.sipush 407, 3) := by decide +kernel
theorem dX7_restore_49 : decode cX7_restore 49 = .ok (.iload_n 1, 1) := by decide +kernel
theorem dX7_restore_50 : decode cX7_restore 50 = .ok (.imul, 1) := by decide +kernel
theorem dX7_restore_51 : decode cX7_restore 51 = .ok (.iload_n 2, 1) := by decide +kernel
theorem dX7_restore_52 : decode cX7_restore 52 = .ok (.iadd, 1) := by decide +kernel
theorem dX7_restore_53 : decode cX7_restore 53 = .ok (.iaload, 1) := by decide +kernel
theorem dX7_restore_54 : decode cX7_restore 54 = .ok (.iastore, 1) := by decide +kernel
theorem dX7_restore_55 : decode cX7_restore 55 = .ok (.iinc 2 1, 3) := by decide +kernel
theorem dX7_restore_58 : decode cX7_restore 58 = .ok (.goto (-28), 3) := by decide +kernel
theorem dX7_restore_61 : decode cX7_restore 61 = .ok (.aload_n 0, 1) := by decide +kernel
theorem dX7_restore_62 : decode cX7_restore 62 = .ok (.getfield 7, 3) := by decide +kernel
theorem dX7_restore_65 : decode cX7_restore 65 = .ok (.bipush 76, 2) := by decide +kernel
theorem dX7_restore_67 : decode cX7_restore 67 = .ok (.iaload, 1) := by decide +kernel
theorem dX7_restore_68 : decode cX7_restore 68 = .ok (.ireturn, 1) := by decide +kernel
theorem dJ13_bitCount_95d88_0 : decode cJ13_bitCount_95d88 0 = .ok (.lload_n 0, 1) := by decide +kernel
theorem dJ13_bitCount_95d88_1 : decode cJ13_bitCount_95d88 1 = .ok (.lload_n 0, 1) := by decide +kernel
theorem dJ13_bitCount_95d88_2 : decode cJ13_bitCount_95d88 2 = .ok (.iconst 1, 1) := by decide +kernel
theorem dJ13_bitCount_95d88_3 : decode cJ13_bitCount_95d88 3 = .ok (.lushr, 1) := by decide +kernel
theorem dJ13_bitCount_95d88_4 : decode cJ13_bitCount_95d88 4 = .ok (.ldc2_w 314, 3) := by decide +kernel
theorem dJ13_bitCount_95d88_7 : decode cJ13_bitCount_95d88 7 = .ok (.land, 1) := by decide +kernel
theorem dJ13_bitCount_95d88_8 : decode cJ13_bitCount_95d88 8 = .ok (.lsub, 1) := by decide +kernel
theorem dJ13_bitCount_95d88_9 : decode cJ13_bitCount_95d88 9 = .ok (.lstore_n 0, 1) := by decide +kernel
theorem dJ13_bitCount_95d88_10 : decode cJ13_bitCount_95d88 10 = .ok (.lload_n 0, 1) := by decide +kernel
theorem dJ13_bitCount_95d88_11 : decode cJ13_bitCount_95d88 11 = .ok (.ldc2_w 316, 3) := by decide +kernel
theorem dJ13_bitCount_95d88_14 : decode cJ13_bitCount_95d88 14 = .ok (.land, 1) := by decide +kernel
theorem dJ13_bitCount_95d88_15 : decode cJ13_bitCount_95d88 15 = .ok (.lload_n 0, 1) := by decide +kernel
theorem dJ13_bitCount_95d88_16 : decode cJ13_bitCount_95d88 16 = .ok (.iconst 2, 1) := by decide +kernel
theorem dJ13_bitCount_95d88_17 : decode cJ13_bitCount_95d88 17 = .ok (.lushr, 1) := by decide +kernel
theorem dJ13_bitCount_95d88_18 : decode cJ13_bitCount_95d88 18 = .ok (.ldc2_w 316, 3) := by decide +kernel
theorem dJ13_bitCount_95d88_21 : decode cJ13_bitCount_95d88 21 = .ok (.land, 1) := by decide +kernel
theorem dJ13_bitCount_95d88_22 : decode cJ13_bitCount_95d88 22 = .ok (.ladd, 1) := by decide +kernel
theorem dJ13_bitCount_95d88_23 : decode cJ13_bitCount_95d88 23 = .ok (.lstore_n 0, 1) := by decide +kernel
theorem dJ13_bitCount_95d88_24 : decode cJ13_bitCount_95d88 24 = .ok (.lload_n 0, 1) := by decide +kernel
theorem dJ13_bitCount_95d88_25 : decode cJ13_bitCount_95d88 25 = .ok (.lload_n 0, 1) := by decide +kernel
theorem dJ13_bitCount_95d88_26 : decode cJ13_bitCount_95d88 26 = .ok (.iconst 4, 1) := by decide +kernel
theorem dJ13_bitCount_95d88_27 : decode cJ13_bitCount_95d88 27 = .ok (.lushr, 1) := by decide +kernel
theorem dJ13_bitCount_95d88_28 : decode cJ13_bitCount_95d88 28 = .ok (.ladd, 1) := by decide +kernel
theorem dJ13_bitCount_95d88_29 : decode cJ13_bitCount_95d88 29 = .ok (.ldc2_w 318, 3) := by decide +kernel
theorem dJ13_bitCount_95d88_32 : decode cJ13_bitCount_95d88 32 = .ok (.land, 1) := by decide +kernel
theorem dJ13_bitCount_95d88_33 : decode cJ13_bitCount_95d88 33 = .ok (.lstore_n 0, 1) := by decide +kernel
theorem dJ13_bitCount_95d88_34 : decode cJ13_bitCount_95d88 34 = .ok (.lload_n 0, 1) := by decide +kernel
theorem dJ13_bitCount_95d88_35 : decode cJ13_bitCount_95d88 35 = .ok (.lload_n 0, 1) := by decide +kernel
theorem dJ13_bitCount_95d88_36 : decode cJ13_bitCount_95d88 36 = .ok (.bipush 8, 2) := by decide +kernel
theorem dJ13_bitCount_95d88_38 : decode cJ13_bitCount_95d88 38 = .ok (.lushr, 1) := by decide +kernel
theorem dJ13_bitCount_95d88_39 : decode cJ13_bitCount_95d88 39 = .ok (.ladd, 1) := by decide +kernel
theorem dJ13_bitCount_95d88_40 : decode cJ13_bitCount_95d88 40 = .ok (.lstore_n 0, 1) := by decide +kernel
theorem dJ13_bitCount_95d88_41 : decode cJ13_bitCount_95d88 41 = .ok (.lload_n 0, 1) := by decide +kernel
theorem dJ13_bitCount_95d88_42 : decode cJ13_bitCount_95d88 42 = .ok (.lload_n 0, 1) := by decide +kernel
theorem dJ13_bitCount_95d88_43 : decode cJ13_bitCount_95d88 43 = .ok (.bipush 16, 2) := by decide +kernel
theorem dJ13_bitCount_95d88_45 : decode cJ13_bitCount_95d88 45 = .ok (.lushr, 1) := by decide +kernel
theorem dJ13_bitCount_95d88_46 : decode cJ13_bitCount_95d88 46 = .ok (.ladd, 1) := by decide +kernel
theorem dJ13_bitCount_95d88_47 : decode cJ13_bitCount_95d88 47 = .ok (.lstore_n 0, 1) := by decide +kernel
theorem dJ13_bitCount_95d88_48 : decode cJ13_bitCount_95d88 48 = .ok (.lload_n 0, 1) := by decide +kernel
theorem dJ13_bitCount_95d88_49 : decode cJ13_bitCount_95d88 49 = .ok (.lload_n 0, 1) := by decide +kernel
theorem dJ13_bitCount_95d88_50 : decode cJ13_bitCount_95d88 50 = .ok (.bipush 32, 2) := by decide +kernel
theorem dJ13_bitCount_95d88_52 : decode cJ13_bitCount_95d88 52 = .ok (.lushr, 1) := by decide +kernel
theorem dJ13_bitCount_95d88_53 : decode cJ13_bitCount_95d88 53 = .ok (.ladd, 1) := by decide +kernel
theorem dJ13_bitCount_95d88_54 : decode cJ13_bitCount_95d88 54 = .ok (.lstore_n 0, 1) := by decide +kernel
theorem dJ13_bitCount_95d88_55 : decode cJ13_bitCount_95d88 55 = .ok (.lload_n 0, 1) := by decide +kernel
theorem dJ13_bitCount_95d88_56 : decode cJ13_bitCount_95d88 56 = .ok (.l2i, 1) := by decide +kernel
theorem dJ13_bitCount_95d88_57 : decode cJ13_bitCount_95d88 57 = .ok (.bipush 127, 2) := by decide +kernel
theorem dJ13_bitCount_95d88_59 : decode cJ13_bitCount_95d88 59 = .ok (.iand, 1) := by decide +kernel
theorem dJ13_bitCount_95d88_60 : decode cJ13_bitCount_95d88 60 = .ok (.ireturn, 1) := by decide +kernel
set_option maxRecDepth 20000 in
theorem ggJ0_length_8abf5_J0_coder_7d493 : GoodIn wsJ0_length_8abf5 wsJ0_coder_7d493 := goodIn_r _ [6, 7, 8] (by decide +kernel) (by decide +kernel)
set_option maxRecDepth 20000 in
theorem gJ0_length_8abf5_J0_coder_7d493 : GoodIn wsJ0_length_8abf5 (wsV RJ0 335 RJ0 yJ0_coder_7d493 wsJ0_coder_7d493) := goodIn_app (goodIn_of _ (by decide +kernel)) ggJ0_length_8abf5_J0_coder_7d493
theorem dJ0_length_8abf5_0 : decode cJ0_length_8abf5 0 = .ok (.aload_n 0, 1) := by decide +kernel
theorem dJ0_length_8abf5_1 : decode cJ0_length_8abf5 1 = .ok (.getfield 9, 3) := by decide +kernel
theorem dJ0_length_8abf5_4 : decode cJ0_length_8abf5 4 = .ok (.arraylength, 1) := by decide +kernel
theorem dJ0_length_8abf5_5 : decode cJ0_length_8abf5 5 = .ok (.aload_n 0, 1) := by decide +kernel
theorem dJ0_length_8abf5_6 : decode cJ0_length_8abf5 6 = .ok (.invokevirtual 335, 3) := by decide +kernel
theorem dJ0_length_8abf5_9 : decode cJ0_length_8abf5 9 = .ok (.ishr, 1) := by decide +kernel
theorem dJ0_length_8abf5_10 : decode cJ0_length_8abf5 10 = .ok (.ireturn, 1) := by decide +kernel
theorem dJ0_isEmpty_aae02_0 : decode cJ0_isEmpty_aae02 0 = .ok (.aload_n 0, 1) := by decide +kernel
theorem dJ0_isEmpty_aae02_1 : decode cJ0_isEmpty_aae02 1 = .ok (.getfield 9, 3) := by decide +kernel
theorem dJ0_isEmpty_aae02_4 : decode cJ0_isEmpty_aae02 4 = .ok (.arraylength, 1) := by decide +kernel
theorem dJ0_isEmpty_aae02_5 : decode cJ0_isEmpty_aae02 5 = .ok (.ifCond .ne 7, 3) := by decide +kernel
theorem dJ0_isEmpty_aae02_8 : decode cJ0_isEmpty_aae02 8 = .ok (.iconst 1, 1) := by decide +kernel
theorem dJ0_isEmpty_aae02_9 : decode cJ0_isEmpty_aae02 9 = .ok (.goto 4, 3) := by decide +kernel
theorem dJ0_isEmpty_aae02_12 : decode cJ0_isEmpty_aae02 12 = .ok (.iconst 0, 1) := by decide +kernel
theorem dJ0_isEmpty_aae02_13 : decode cJ0_isEmpty_aae02 13 = .ok (.ireturn, 1) := by decide +kernel
set_option maxRecDepth 20000 in
theorem ggJ0_charAt_5068e_J0_isLatin1_aae02 : GoodIn wsJ0_charAt_5068e wsJ0_isLatin1_aae02 := goodIn_r _ [6, 7, 8] (by decide +kernel) (by decide +kernel)
set_option maxRecDepth 20000 in
theorem gJ0_charAt_5068e_J0_isLatin1_aae02 : GoodIn wsJ0_charAt_5068e (wsV RJ0 492 RJ0 yJ0_isLatin1_aae02 wsJ0_isLatin1_aae02) := goodIn_app (goodIn_of _ (by decide +kernel)) ggJ0_charAt_5068e_J0_isLatin1_aae02
set_option maxRecDepth 20000 in
theorem ggJ0_charAt_5068e_J1_charAt_3b067 : GoodIn wsJ0_charAt_5068e wsJ1_charAt_3b067 := goodIn_r _ [12, 13, 14, 5, 15, 16, 17, 18, 19, 20] (by decide +kernel) (by decide +kernel)
set_option maxRecDepth 20000 in
theorem gJ0_charAt_5068e_J1_charAt_3b067 : GoodIn wsJ0_charAt_5068e (va_wsS RJ0 495 yJ1_charAt_3b067 wsJ1_charAt_3b067) := goodIn_app (goodIn_of _ (by decide +kernel)) ggJ0_charAt_5068e_J1_charAt_3b067
set_option maxRecDepth 20000 in
theorem ggJ0_charAt_5068e_J2_charAt_3b067 : GoodIn wsJ0_charAt_5068e wsJ2_charAt_3b067 := goodIn_r _ [24, 25, 26, 23, 27, 28, 29, 30, 31, 14, 5, 15, 16, 17, 18, 19, 20, 32, 33, 34, 35, 36, 37] (by decide +kernel) (by decide +kernel)
set_option maxRecDepth 20000 in
theorem gJ0_charAt_5068e_J2_charAt_3b067 : GoodIn wsJ0_charAt_5068e (va_wsS RJ0 498 yJ2_charAt_3b067 wsJ2_charAt_3b067) := goodIn_app (goodIn_of _ (by decide +kernel)) ggJ0_charAt_5068e_J2_charAt_3b067
theorem dJ0_charAt_5068e_0 : decode cJ0_charAt_5068e 0 = .ok (.aload_n 0, 1) := by decide +kernel
theorem dJ0_charAt_5068e_1 : decode cJ0_charAt_5068e 1 = .ok (.invokevirtual 492, 3) := by decide +kernel
theorem dJ0_charAt_5068e_4 : decode cJ0_charAt_5068e 4 = .ok (.ifCond .eq 12, 3) := by decide +kernel
theorem dJ0_charAt_5068e_7 : decode cJ0_charAt_5068e 7 = .ok (.aload_n 0, 1) := by decide +kernel
theorem dJ0_charAt_5068e_8 : decode cJ0_charAt_5068e 8 = .ok (.getfield 9, 3) := by decide +kernel
theorem dJ0_charAt_5068e_11 : decode cJ0_charAt_5068e 11 = .ok (.iload_n 1, 1) := by decide +kernel
theorem dJ0_charAt_5068e_12 : decode cJ0_charAt_5068e 12 = .ok (.invokestatic 495, 3) := by decide +kernel
theorem dJ0_charAt_5068e_15 : decode cJ0_charAt_5068e 15 = .ok (.ireturn, 1) := by decide +kernel
theorem dJ0_charAt_5068e_16 : decode cJ0_charAt_5068e 16 = .ok (.aload_n 0, 1) := by decide +kernel
theorem dJ0_charAt_5068e_17 : decode cJ0_charAt_5068e 17 = .ok (.getfield 9, 3) := by decide +kernel
theorem dJ0_charAt_5068e_20 : decode cJ0_charAt_5068e 20 = .ok (.iload_n 1, 1) := by decide +kernel
theorem dJ0_charAt_5068e_21 : decode cJ0_charAt_5068e 21 = .ok (.invokestatic 498, 3) := by decide +kernel
theorem dJ0_charAt_5068e_24 : decode cJ0_charAt_5068e 24 = .ok (.ireturn, 1) := by decide +kernel
theorem dJ0_coder_7d493_0 : decode cJ0_coder_7d493 0 = .ok (.getstatic 38, 3) := by decide +kernel
theorem dJ0_coder_7d493_3 : decode cJ0_coder_7d493 3 = .ok (.ifCond .eq 10, 3) := by decide +kernel
theorem dJ0_coder_7d493_6 : decode cJ0_coder_7d493 6 = .ok (.aload_n 0, 1) := by decide +kernel
theorem dJ0_coder_7d493_7 : decode cJ0_coder_7d493 7 = .ok (.getfield 15, 3) := by decide +kernel
theorem dJ0_coder_7d493_10 : decode cJ0_coder_7d493 10 = .ok (.goto 4, 3) := by decide +kernel
theorem dJ0_coder_7d493_13 : decode cJ0_coder_7d493 13 = .ok (.iconst 1, 1) := by decide +kernel
theorem dJ0_coder_7d493_14 : decode cJ0_coder_7d493 14 = .ok (.ireturn, 1) := by decide +kernel
theorem dJ0_isLatin1_aae02_0 : decode cJ0_isLatin1_aae02 0 = .ok (.getstatic 38, 3) := by decide +kernel
theorem dJ0_isLatin1_aae02_3 : decode cJ0_isLatin1_aae02 3 = .ok (.ifCond .eq 14, 3) := by decide +kernel
theorem dJ0_isLatin1_aae02_6 : decode cJ0_isLatin1_aae02 6 = .ok (.aload_n 0, 1) := by decide +kernel
theorem dJ0_isLatin1_aae02_7 : decode cJ0_isLatin1_aae02 7 = .ok (.getfield 15, 3) := by decide +kernel
theorem dJ0_isLatin1_aae02_10 : decode cJ0_isLatin1_aae02 10 = .ok (.ifCond .ne 7, 3) := by decide +kernel
theorem dJ0_isLatin1_aae02_13 : decode cJ0_isLatin1_aae02 13 = .ok (.iconst 1, 1) := by decide +kernel
theorem dJ0_isLatin1_aae02_14 : decode cJ0_isLatin1_aae02 14 = .ok (.goto 4, 3) := by decide +kernel
theorem dJ0_isLatin1_aae02_17 : decode cJ0_isLatin1_aae02 17 = .ok (.iconst 0, 1) := by decide +kernel
theorem dJ0_isLatin1_aae02_18 : decode cJ0_isLatin1_aae02 18 = .ok (.ireturn, 1) := by decide +kernel
set_option maxRecDepth 20000 in
theorem ggJ0_checkIndex_df160_J3_checkIndex_8e157 : GoodIn wsJ0_checkIndex_df160 wsJ3_checkIndex_8e157 := goodIn_r _ [5] (by decide +kernel) (by decide +kernel)
set_option maxRecDepth 20000 in
theorem gJ0_checkIndex_df160_J3_checkIndex_8e157 : GoodIn wsJ0_checkIndex_df160 (va_wsS RJ0 1059 yJ3_checkIndex_8e157 wsJ3_checkIndex_8e157) := goodIn_app (goodIn_of _ (by decide +kernel)) ggJ0_checkIndex_df160_J3_checkIndex_8e157
theorem dJ0_checkIndex_df160_0 : decode cJ0_checkIndex_df160 0 = .ok (.iload_n 0, 1) := by decide +kernel
theorem dJ0_checkIndex_df160_1 : decode cJ0_checkIndex_df160 1 = .ok (.iload_n 1, 1) := by decide +kernel
theorem dJ0_checkIndex_df160_2 : decode cJ0_checkIndex_df160 2 = .ok (.getstatic 1053, 3) := by decide +kernel
theorem dJ0_checkIndex_df160_5 : decode cJ0_checkIndex_df160 5 = .ok (.invokestatic 1059, 3) := by decide +kernel
theorem dJ0_checkIndex_df160_8 : decode cJ0_checkIndex_df160 8 = .ok (.pop, 1) := by decide +kernel
theorem dJ0_checkIndex_df160_9 : decode cJ0_checkIndex_df160 9 = .ok (.return_, 1) := by decide +kernel
set_option maxRecDepth 20000 in
theorem ggJ1_charAt_3b067_J0_checkIndex_df160 : GoodIn wsJ1_charAt_3b067 wsJ0_checkIndex_df160 := goodIn_r _ [4, 5, 6, 7, 8, 9] (by decide +kernel) (by decide +kernel)
set_option maxRecDepth 20000 in
theorem gJ1_charAt_3b067_J0_checkIndex_df160 : GoodIn wsJ1_charAt_3b067 (va_wsS RJ1 9 yJ0_checkIndex_df160 wsJ0_checkIndex_df160) := goodIn_app (goodIn_of _ (by decide +kernel)) ggJ1_charAt_3b067_J0_checkIndex_df160
theorem dJ1_charAt_3b067_0 : decode cJ1_charAt_3b067 0 = .ok (.iload_n 1, 1) := by decide +kernel
theorem dJ1_charAt_3b067_1 : decode cJ1_charAt_3b067 1 = .ok (.aload_n 0, 1) := by decide +kernel
theorem dJ1_charAt_3b067_2 : decode cJ1_charAt_3b067 2 = .ok (.arraylength, 1) := by decide +kernel
theorem dJ1_charAt_3b067_3 : decode cJ1_charAt_3b067 3 = .ok (.invokestatic 9, 3) := by decide +kernel
theorem dJ1_charAt_3b067_6 : decode cJ1_charAt_3b067 6 = .ok (.aload_n 0, 1) := by decide +kernel
theorem dJ1_charAt_3b067_7 : decode cJ1_charAt_3b067 7 = .ok (.iload_n 1, 1) := by decide +kernel
theorem dJ1_charAt_3b067_8 : decode cJ1_charAt_3b067 8 = .ok (.baload, 1) := by decide +kernel
theorem dJ1_charAt_3b067_9 : decode cJ1_charAt_3b067 9 = .ok (.sipush 255, 3) := by decide +kernel
theorem dJ1_charAt_3b067_12 : decode cJ1_charAt_3b067 12 = .ok (.iand, 1) := by decide +kernel
theorem dJ1_charAt_3b067_13 : decode cJ1_charAt_3b067 13 = .ok (.i2c, 1) := by decide +kernel
theorem dJ1_charAt_3b067_14 : decode cJ1_charAt_3b067 14 = .ok (.ireturn, 1) := by decide +kernel
set_option maxRecDepth 20000 in
theorem ggJ2_getChar_3b067_J2_length_9d52b : GoodIn wsJ2_getChar_3b067 wsJ2_length_9d52b := goodIn_r _ [7] (by decide +kernel) (by decide +kernel)
set_option maxRecDepth 20000 in
theorem gJ2_getChar_3b067_J2_length_9d52b : GoodIn wsJ2_getChar_3b067 (va_wsS RJ2 48 yJ2_length_9d52b wsJ2_length_9d52b) := goodIn_app (goodIn_of _ (by decide +kernel)) ggJ2_getChar_3b067_J2_length_9d52b
theorem dJ2_getChar_3b067_0 : decode cJ2_getChar_3b067 0 = .ok (.getstatic 44, 3) := by decide +kernel
theorem dJ2_getChar_3b067_3 : decode cJ2_getChar_3b067 3 = .ok (.ifCond .ne 25, 3) := by decide +kernel
theorem dJ2_getChar_3b067_6 : decode cJ2_getChar_3b067 6 = .ok (.iload_n 1, 1) := by decide +kernel
theorem dJ2_getChar_3b067_7 : decode cJ2_getChar_3b067 7 = .ok (.ifCond .lt 11, 3) := by decide +kernel
theorem dJ2_getChar_3b067_10 : decode cJ2_getChar_3b067 10 = .ok (.iload_n 1, 1) := by decide +kernel
theorem dJ2_getChar_3b067_11 : decode cJ2_getChar_3b067 11 = .ok (.aload_n 0, 1) := by decide +kernel
theorem dJ2_getChar_3b067_12 : decode cJ2_getChar_3b067 12 = .ok (.invokestatic 48, 3) := by decide +kernel
theorem dJ2_getChar_3b067_15 : decode cJ2_getChar_3b067 15 = .ok (.if_icmp .lt 13, 3) := by decide +kernel
theorem dJ2_getChar_3b067_18 : decode cJ2_getChar_3b067 18 = .ok (.new 52, 3) := by decide +kernel
theorem dJ2_getChar_3b067_21 : decode cJ2_getChar_3b067 21 = .ok (.dup, 1) := by decide +kernel
theorem dJ2_getChar_3b067_22 : decode cJ2_getChar_3b067 22 = .ok (.ldc 54, 2) := by decide +kernel
theorem dJ2_getChar_3b067_24 : decode cJ2_getChar_3b067 24 = .ok (.invokespecial 56, 3) := by decide +kernel
theorem dJ2_getChar_3b067_27 : decode cJ2_getChar_3b067 27 = .ok (.athrow, 1) := by decide +kernel
theorem dJ2_getChar_3b067_28 : decode cJ2_getChar_3b067 28 = .ok (.iload_n 1, 1) := by decide +kernel
theorem dJ2_getChar_3b067_29 : decode cJ2_getChar_3b067 29 = .ok (.iconst 1, 1) := by decide +kernel
theorem dJ2_getChar_3b067_30 : decode cJ2_getChar_3b067 30 = .ok (.ishl, 1) := by decide +kernel
theorem dJ2_getChar_3b067_31 : decode cJ2_getChar_3b067 31 = .ok (.istore_n 1, 1) := by decide +kernel
theorem dJ2_getChar_3b067_32 : decode cJ2_getChar_3b067 32 = .ok (.aload_n 0, 1) := by decide +kernel
theorem dJ2_getChar_3b067_33 : decode cJ2_getChar_3b067 33 = .ok (.iload_n 1, 1) := by decide +kernel
theorem dJ2_getChar_3b067_34 : decode cJ2_getChar_3b067 34 = .ok (.iinc 1 1, 3) := by decide +kernel
theorem dJ2_getChar_3b067_37 : decode cJ2_getChar_3b067 37 = .ok (.baload, 1) := by decide +kernel
theorem dJ2_getChar_3b067_38 : decode cJ2_getChar_3b067 38 = .ok (.sipush 255, 3) := by decide +kernel
theorem dJ2_getChar_3b067_41 : decode cJ2_getChar_3b067 41 = .ok (.iand, 1) := by decide +kernel
theorem dJ2_getChar_3b067_42 : decode cJ2_getChar_3b067 42 = .ok (.getstatic 59, 3) := by decide +kernel
theorem dJ2_getChar_3b067_45 : decode cJ2_getChar_3b067 45 = .ok (.ishl, 1) := by decide +kernel
theorem dJ2_getChar_3b067_46 : decode cJ2_getChar_3b067 46 = .ok (.aload_n 0, 1) := by decide +kernel
theorem dJ2_getChar_3b067_47 : decode cJ2_getChar_3b067 47 = .ok (.iload_n 1, 1) := by decide +kernel
theorem dJ2_getChar_3b067_48 : decode cJ2_getChar_3b067 48 = .ok (.baload, 1) := by decide +kernel
theorem dJ2_getChar_3b067_49 : decode cJ2_getChar_3b067 49 = .ok (.sipush 255, 3) := by decide +kernel
theorem dJ2_getChar_3b067_52 : decode cJ2_getChar_3b067 52 = .ok (.iand, 1) := by decide +kernel
theorem dJ2_getChar_3b067_53 : decode cJ2_getChar_3b067 53 = .ok (.getstatic 63, 3) := by decide +kernel
theorem dJ2_getChar_3b067_56 : decode cJ2_getChar_3b067 56 = .ok (.ishl, 1) := by decide +kernel
theorem dJ2_getChar_3b067_57 : decode cJ2_getChar_3b067 57 = .ok (.ior, 1) := by decide +kernel
theorem dJ2_getChar_3b067_58 : decode cJ2_getChar_3b067 58 = .ok (.i2c, 1) := by decide +kernel
theorem dJ2_getChar_3b067_59 : decode cJ2_getChar_3b067 59 = .ok (.ireturn, 1) := by decide +kernel
theorem dJ2_length_9d52b_0 : decode cJ2_length_9d52b 0 = .ok (.aload_n 0, 1) := by decide +kernel
theorem dJ2_length_9d52b_1 : decode cJ2_length_9d52b 1 = .ok (.arraylength, 1) := by decide +kernel
theorem dJ2_length_9d52b_2 : decode cJ2_length_9d52b 2 = .ok (.iconst 1, 1) := by decide +kernel
theorem dJ2_length_9d52b_3 : decode cJ2_length_9d52b 3 = .ok (.ishr, 1) := by decide +kernel
theorem dJ2_length_9d52b_4 : decode cJ2_length_9d52b 4 = .ok (.ireturn, 1) := by decide +kernel
set_option maxRecDepth 20000 in
theorem ggJ2_charAt_3b067_J2_checkIndex_2214a : GoodIn wsJ2_charAt_3b067 wsJ2_checkIndex_2214a := goodIn_r _ [4, 5, 6, 3, 7, 8, 9, 10, 11, 12, 13, 14, 15, 16] (by decide +kernel) (by decide +kernel)
set_option maxRecDepth 20000 in
theorem gJ2_charAt_3b067_J2_checkIndex_2214a : GoodIn wsJ2_charAt_3b067 (va_wsS RJ2 67 yJ2_checkIndex_2214a wsJ2_checkIndex_2214a) := goodIn_app (goodIn_of _ (by decide +kernel)) ggJ2_charAt_3b067_J2_checkIndex_2214a
set_option maxRecDepth 20000 in
theorem ggJ2_charAt_3b067_J2_getChar_3b067 : GoodIn wsJ2_charAt_3b067 wsJ2_getChar_3b067 := goodIn_r _ [19, 20, 21, 22, 5, 6, 3, 7] (by decide +kernel) (by decide +kernel)
set_option maxRecDepth 20000 in
theorem gJ2_charAt_3b067_J2_getChar_3b067 : GoodIn wsJ2_charAt_3b067 (va_wsS RJ2 71 yJ2_getChar_3b067 wsJ2_getChar_3b067) := goodIn_app (goodIn_of _ (by decide +kernel)) ggJ2_charAt_3b067_J2_getChar_3b067
theorem dJ2_charAt_3b067_0 : decode cJ2_charAt_3b067 0 = .ok (.iload_n 1, 1) := by decide +kernel
theorem dJ2_charAt_3b067_1 : decode cJ2_charAt_3b067 1 = .ok (.aload_n 0, 1) := by decide +kernel
theorem dJ2_charAt_3b067_2 : decode cJ2_charAt_3b067 2 = .ok (.invokestatic 67, 3) := by decide +kernel
theorem dJ2_charAt_3b067_5 : decode cJ2_charAt_3b067 5 = .ok (.aload_n 0, 1) := by decide +kernel
theorem dJ2_charAt_3b067_6 : decode cJ2_charAt_3b067 6 = .ok (.iload_n 1, 1) := by decide +kernel
theorem dJ2_charAt_3b067_7 : decode cJ2_charAt_3b067 7 = .ok (.invokestatic 71, 3) := by decide +kernel
theorem dJ2_charAt_3b067_10 : decode cJ2_charAt_3b067 10 = .ok (.ireturn, 1) := by decide +kernel
set_option maxRecDepth 20000 in
theorem ggJ2_checkIndex_2214a_J2_length_9d52b : GoodIn wsJ2_checkIndex_2214a wsJ2_length_9d52b := goodIn_r _ [4] (by decide +kernel) (by decide +kernel)
set_option maxRecDepth 20000 in
theorem gJ2_checkIndex_2214a_J2_length_9d52b : GoodIn wsJ2_checkIndex_2214a (va_wsS RJ2 48 yJ2_length_9d52b wsJ2_length_9d52b) := goodIn_app (goodIn_of _ (by decide +kernel)) ggJ2_checkIndex_2214a_J2_length_9d52b
set_option maxRecDepth 20000 in
theorem ggJ2_checkIndex_2214a_J0_checkIndex_df160 : GoodIn wsJ2_checkIndex_2214a wsJ0_checkIndex_df160 := goodIn_r _ [8, 9, 10, 11, 12, 13] (by decide +kernel) (by decide +kernel)
set_option maxRecDepth 20000 in
theorem gJ2_checkIndex_2214a_J0_checkIndex_df160 : GoodIn wsJ2_checkIndex_2214a (va_wsS RJ2 414 yJ0_checkIndex_df160 wsJ0_checkIndex_df160) := goodIn_app (goodIn_of _ (by decide +kernel)) ggJ2_checkIndex_2214a_J0_checkIndex_df160
theorem dJ2_checkIndex_2214a_0 : decode cJ2_checkIndex_2214a 0 = .ok (.iload_n 0, 1) := by decide +kernel
theorem dJ2_checkIndex_2214a_1 : decode cJ2_checkIndex_2214a 1 = .ok (.aload_n 1, 1) := by decide +kernel
theorem dJ2_checkIndex_2214a_2 : decode cJ2_checkIndex_2214a 2 = .ok (.invokestatic 48, 3) := by decide +kernel
theorem dJ2_checkIndex_2214a_5 : decode cJ2_checkIndex_2214a 5 = .ok (.invokestatic 414, 3) := by decide +kernel
theorem dJ2_checkIndex_2214a_8 : decode cJ2_checkIndex_2214a 8 = .ok (.return_, 1) := by decide +kernel
theorem dJ7_fill_53178_0 : decode cJ7_fill_53178 0 = .ok (.iconst 0, 1) := by decide +kernel
theorem dJ7_fill_53178_1 : decode cJ7_fill_53178 1 = .ok (.istore_n 2, 1) := by decide +kernel
theorem dJ7_fill_53178_2 : decode cJ7_fill_53178 2 = .ok (.aload_n 0, 1) := by decide +kernel
theorem dJ7_fill_53178_3 : decode cJ7_fill_53178 3 = .ok (.arraylength, 1) := by decide +kernel
theorem dJ7_fill_53178_4 : decode cJ7_fill_53178 4 = .ok (.istore_n 3, 1) := by decide +kernel
theorem dJ7_fill_53178_5 : decode cJ7_fill_53178 5 = .ok (.iload_n 2, 1) := by decide +kernel
theorem dJ7_fill_53178_6 : decode cJ7_fill_53178 6 = .ok (.iload_n 3, 1) := by decide +kernel
theorem dJ7_fill_53178_7 : decode cJ7_fill_53178 7 = .ok (.if_icmp .ge 13, 3) := by decide +kernel
theorem dJ7_fill_53178_10 : decode cJ7_fill_53178 10 = .ok (.aload_n 0, 1) := by decide +kernel
theorem dJ7_fill_53178_11 : decode cJ7_fill_53178 11 = .ok (.iload_n 2, 1) := by decide +kernel
theorem dJ7_fill_53178_12 : decode cJ7_fill_53178 12 = .ok (.iload_n 1, 1) := by decide +kernel
theorem dJ7_fill_53178_13 : decode cJ7_fill_53178 13 = .ok (.iastore, 1) := by decide +kernel
theorem dJ7_fill_53178_14 : decode cJ7_fill_53178 14 = .ok (.iinc 2 1, 3) := by decide +kernel
theorem dJ7_fill_53178_17 : decode cJ7_fill_53178 17 = .ok (.goto (-12), 3) := by decide +kernel
theorem dJ7_fill_53178_20 : decode cJ7_fill_53178 20 = .ok (.return_, 1) := by decide +kernel
theorem dJ3_checkIndex_8e157_0 : decode cJ3_checkIndex_8e157 0 = .ok (.iload_n 0, 1) := by decide +kernel
theorem dJ3_checkIndex_8e157_1 : decode cJ3_checkIndex_8e157 1 = .ok (.ifCond .lt 8, 3) := by decide +kernel
theorem dJ3_checkIndex_8e157_4 : decode cJ3_checkIndex_8e157 4 = .ok (.iload_n 0, 1) := by decide +kernel
theorem dJ3_checkIndex_8e157_5 : decode cJ3_checkIndex_8e157 5 = .ok (.iload_n 1, 1) := by decide +kernel
theorem dJ3_checkIndex_8e157_6 : decode cJ3_checkIndex_8e157 6 = .ok (.if_icmp .lt 10, 3) := by decide +kernel
theorem dJ3_checkIndex_8e157_9 : decode cJ3_checkIndex_8e157 9 = .ok (.aload_n 2, 1) := by decide +kernel
theorem dJ3_checkIndex_8e157_10 : decode cJ3_checkIndex_8e157 10 = .ok (.iload_n 0, 1) := by decide +kernel
theorem dJ3_checkIndex_8e157_11 : decode cJ3_checkIndex_8e157 11 = .ok (.iload_n 1, 1) := by decide +kernel
theorem dJ3_checkIndex_8e157_12 : decode cJ3_checkIndex_8e157 12 = .ok (.invokestatic 95, 3) := by decide +kernel
theorem dJ3_checkIndex_8e157_15 : decode cJ3_checkIndex_8e157 15 = .ok (.athrow, 1) := by decide +kernel
theorem dJ3_checkIndex_8e157_16 : decode cJ3_checkIndex_8e157 16 = .ok (.iload_n 0, 1) := by decide +kernel
theorem dJ3_checkIndex_8e157_17 : decode cJ3_checkIndex_8e157 17 = .ok (.ireturn, 1) := by decide +kernel
