set_option maxRecDepth 20000 in
theorem ggX7_wipeOfDoor_X7_ofNote : GoodIn wsX7_wipeOfDoor wsX7_ofNote := goodIn_r _ [6, 1, 11, 12, 13, 14, 15, 16, 17, 18, 19, 20, 21, 22, 23, 24, 25, 26] (by decide +kernel) (by decide +kernel)
set_option maxRecDepth 20000 in
theorem gX7_wipeOfDoor_X7_ofNote : GoodIn wsX7_wipeOfDoor (wsV RX7 73 RX7 yX7_ofNote wsX7_ofNote) := goodIn_app (goodIn_of _ (by decide +kernel)) ggX7_wipeOfDoor_X7_ofNote
set_option maxRecDepth 20000 in
theorem ggX7_wipeOfDoor_X7_takeNote : GoodIn wsX7_wipeOfDoor wsX7_takeNote := goodIn_r _ [10, 1, 11, 12, 13, 14, 15, 16, 17, 18, 19, 20, 21, 22, 23, 24, 25, 26] (by decide +kernel) (by decide +kernel)
set_option maxRecDepth 20000 in
theorem gX7_wipeOfDoor_X7_takeNote : GoodIn wsX7_wipeOfDoor (wsV RX7 76 RX7 yX7_takeNote wsX7_takeNote) := goodIn_app (goodIn_of _ (by decide +kernel)) ggX7_wipeOfDoor_X7_takeNote
theorem dX7_wipeOfDoor_0 : decode cX7_wipeOfDoor 0 = .ok (.iconst 0, 1) := by decide +kernel
theorem dX7_wipeOfDoor_1 : decode cX7_wipeOfDoor 1 = .ok (.istore_n 3, 1) := by decide +kernel
theorem dX7_wipeOfDoor_2 : decode cX7_wipeOfDoor 2 = .ok (.aload_n 0, 1) := by decide +kernel
theorem dX7_wipeOfDoor_3 : decode cX7_wipeOfDoor 3 = .ok (.getfield 7, 3) := by decide +kernel
theorem dX7_wipeOfDoor_6 : decode cX7_wipeOfDoor 6 = .ok (.bipush 90, 2) := by decide +kernel
theorem dX7_wipeOfDoor_8 : decode cX7_wipeOfDoor 8 = .ok (.iaload, 1) := by decide +kernel
theorem dX7_wipeOfDoor_9 : decode cX7_wipeOfDoor 9 = .ok (.iconst 1, 1) := by decide +kernel
theorem dX7_wipeOfDoor_10 : decode cX7_wipeOfDoor 10 = .ok (.isub, 1) := by decide +kernel
theorem dX7_wipeOfDoor_11 : decode cX7_wipeOfDoor 11 = .ok (.istore 4, 2) := by decide +kernel
theorem dX7_wipeOfDoor_13 : decode cX7_wipeOfDoor 13 = .ok (.iload 4, 2) := by decide +kernel
theorem dX7_wipeOfDoor_15 : decode cX7_wipeOfDoor 15 = .ok (.ifCond .lt 40, 3) := by decide +kernel
theorem dX7_wipeOfDoor_18 : decode cX7_wipeOfDoor 18 = .ok (.aload_n 0, 1) := by decide +kernel
theorem dX7_wipeOfDoor_19 : decode cX7_wipeOfDoor 19 = .ok (.iload 4, 2) := by decide +kernel
theorem dX7_wipeOfDoor_21 : decode cX7_wipeOfDoor 21 = .ok (.iconst 0, 1) := by decide +kernel
theorem dX7_wipeOfDoor_22 : decode cX7_wipeOfDoor 22 = .ok (.invokevirtual 73, 3) := by decide +kernel
theorem dX7_wipeOfDoor_25 : decode cX7_wipeOfDoor 25 = .ok (.iload_n 1, 1) := by decide +kernel
theorem dX7_wipeOfDoor_26 : decode cX7_wipeOfDoor 26 = .ok (.if_icmp .ne 23, 3) := by decide +kernel
theorem dX7_wipeOfDoor_29 : decode cX7_wipeOfDoor 29 = .ok (.aload_n 0, 1) := by decide +kernel
theorem dX7_wipeOfDoor_30 : decode cX7_wipeOfDoor 30 = .ok (.iload 4, 2) := by decide +kernel
theorem dX7_wipeOfDoor_32 : decode cX7_wipeOfDoor 32 = .ok (.iconst 1, 1) := by decide +kernel
theorem dX7_wipeOfDoor_33 : decode cX7_wipeOfDoor 33 = .ok (.invokevirtual 73, 3) := by decide +kernel
theorem dX7_wipeOfDoor_36 : decode cX7_wipeOfDoor 36 = .ok (.iload_n 2, 1) := by decide +kernel
theorem dX7_wipeOfDoor_37 : decode cX7_wipeOfDoor 37 = .ok (.if_icmp .ne 12, 3) := by decide +kernel
theorem dX7_wipeOfDoor_40 : decode cX7_wipeOfDoor 40 = .ok (.aload_n 0, 1) := by decide +kernel
theorem dX7_wipeOfDoor_41 : decode cX7_wipeOfDoor 41 = .ok (.iload 4, 2) := by decide +kernel
theorem dX7_wipeOfDoor_43 : decode cX7_wipeOfDoor 43 = .ok (.invokevirtual 76, 3) := by decide +kernel
theorem dX7_wipeOfDoor_46 : decode cX7_wipeOfDoor 46 = .ok (.iinc 3 1, 3) := by decide +kernel
theorem dX7_wipeOfDoor_49 : decode cX7_wipeOfDoor 49 = .ok (.iinc 4 (-1), 3) := by decide +kernel
theorem dX7_wipeOfDoor_52 : decode cX7_wipeOfDoor 52 = .ok (.goto (-39), 3) := by decide +kernel
theorem dX7_wipeOfDoor_55 : decode cX7_wipeOfDoor 55 = .ok (.aload_n 0, 1) := by decide +kernel
theorem dX7_wipeOfDoor_56 : decode cX7_wipeOfDoor 56 = .ok (.getfield 7, 3) := by decide +kernel
theorem dX7_wipeOfDoor_59 : decode cX7_wipeOfDoor 59 = .ok (.bipush 81, 2) := by decide +kernel
theorem dX7_wipeOfDoor_61 : decode cX7_wipeOfDoor 61 = .ok (.dup2, 1) := by decide +kernel
theorem dX7_wipeOfDoor_62 : decode cX7_wipeOfDoor 62 = .ok (.iaload, 1) := by decide +kernel
theorem dX7_wipeOfDoor_63 : decode cX7_wipeOfDoor 63 = .ok (.iload_n 3, 1) := by decide +kernel
theorem dX7_wipeOfDoor_64 : decode cX7_wipeOfDoor 64 = .ok (.iadd, 1) := by decide +kernel
theorem dX7_wipeOfDoor_65 : decode cX7_wipeOfDoor 65 = .ok (.iastore, 1) := by decide +kernel
theorem dX7_wipeOfDoor_66 : decode cX7_wipeOfDoor 66 = .ok (.iload_n 3, 1) := by decide +kernel
theorem dX7_wipeOfDoor_67 : decode cX7_wipeOfDoor 67 = .ok (.ireturn, 1) := by decide +kernel
set_option maxRecDepth 20000 in
theorem ggX7_layGood_X7_findGood : GoodIn wsX7_layGood wsX7_findGood := goodIn_r _ [8, 1, 3, 9, 10, 11, 7, 12, 13, 14, 15, 16, 17, 18, 19, 20, 21, 22, 23, 24, 25, 26, 27, 28, 29, 30, 31, 32] (by decide +kernel) (by decide +kernel)
set_option maxRecDepth 20000 in
theorem gX7_layGood_X7_findGood : GoodIn wsX7_layGood (wsV RX7 80 RX7 yX7_findGood wsX7_findGood) := goodIn_app (goodIn_of _ (by decide +kernel)) ggX7_layGood_X7_findGood
theorem dX7_layGood_0 : decode cX7_layGood 0 = .ok (.aload_n 0, 1) := by decide +kernel
theorem dX7_layGood_1 : decode cX7_layGood 1 = .ok (.invokevirtual 80, 3) := by decide +kernel
theorem dX7_layGood_4 : decode cX7_layGood 4 = .ok (.iconst 0, 1) := by decide +kernel
theorem dX7_layGood_5 : decode cX7_layGood 5 = .ok (.istore_n 1, 1) := by decide +kernel
theorem dX7_layGood_6 : decode cX7_layGood 6 = .ok (.iload_n 1, 1) := by decide +kernel
theorem dX7_layGood_7 : decode cX7_layGood 7 = .ok (.aload_n 0, 1) := by decide +kernel
theorem dX7_layGood_8 : decode cX7_layGood 8 = .ok (.getfield 7, 3) := by decide +kernel
theorem dX7_layGood_11 : decode cX7_layGood 11 = .ok (.bipush 76, 2) := by decide +kernel
theorem dX7_layGood_13 : decode cX7_layGood 13 = .ok (.iaload, 1) := by decide +kernel
theorem dX7_layGood_14 : decode cX7_layGood 14 = .ok (.if_icmp .ge 21, 3) := by decide +kernel
theorem dX7_layGood_17 : decode cX7_layGood 17 = .ok (.aload_n 0, 1) := by decide +kernel
theorem dX7_layGood_18 : decode cX7_layGood 18 = .ok (.getfield 26, 3) := by decide +kernel
theorem dX7_layGood_21 : decode cX7_layGood 21 = .ok (.iload_n 1, 1) := by decide +kernel
theorem dX7_layGood_22 : decode cX7_layGood 22 = .ok (.aload_n 0, 1) := by decide +kernel
theorem dX7_layGood_23 : decode cX7_layGood 23 = .ok (.getfield 23, 3) := by decide +kernel
theorem dX7_layGood_26 : decode cX7_layGood 26 = .ok (.iload_n 1, 1) := by decide +kernel
theorem dX7_layGood_27 : decode cX7_layGood 27 = .ok (.baload, 1) := by decide +kernel
theorem dX7_layGood_28 : decode cX7_layGood 28 = .ok (.bastore, 1) := by decide +kernel
theorem dX7_layGood_29 : decode cX7_layGood 29 = .ok (.iinc 1 1, 3) := by decide +kernel
theorem dX7_layGood_32 : decode cX7_layGood 32 = .ok (.goto (-26), 3) := by decide +kernel
theorem dX7_layGood_35 : decode cX7_layGood 35 = .ok (.return_, 1) := by decide +kernel
set_option maxRecDepth 20000 in
theorem ggX7_goes_X7_ofNote : GoodIn wsX7_goes wsX7_ofNote := goodIn_r _ [8, 1, 13, 14, 15, 16, 17, 18, 19, 20, 21, 22, 23, 24, 25, 26, 27, 28] (by decide +kernel) (by decide +kernel)
set_option maxRecDepth 20000 in
theorem gX7_goes_X7_ofNote : GoodIn wsX7_goes (wsV RX7 73 RX7 yX7_ofNote wsX7_ofNote) := goodIn_app (goodIn_of _ (by decide +kernel)) ggX7_goes_X7_ofNote
set_option maxRecDepth 20000 in
theorem ggX7_goes_X7_leadsBy : GoodIn wsX7_goes wsX7_leadsBy := goodIn_r _ [12, 1, 13, 14, 15, 16, 17, 18, 19, 20, 21, 22, 23, 24, 25, 26, 27, 28] (by decide +kernel) (by decide +kernel)
set_option maxRecDepth 20000 in
theorem gX7_goes_X7_leadsBy : GoodIn wsX7_goes (wsV RX7 63 RX7 yX7_leadsBy wsX7_leadsBy) := goodIn_app (goodIn_of _ (by decide +kernel)) ggX7_goes_X7_leadsBy
theorem dX7_goes_0 : decode cX7_goes 0 = .ok (.aload_n 0, 1) := by decide +kernel
theorem dX7_goes_1 : decode cX7_goes 1 = .ok (.aload_n 0, 1) := by decide +kernel
theorem dX7_goes_2 : decode cX7_goes 2 = .ok (.iload_n 1, 1) := by decide +kernel
theorem dX7_goes_3 : decode cX7_goes 3 = .ok (.iconst 0, 1) := by decide +kernel
theorem dX7_goes_4 : decode cX7_goes 4 = .ok (.invokevirtual 73, 3) := by decide +kernel
theorem dX7_goes_7 : decode cX7_goes 7 = .ok (.aload_n 0, 1) := by decide +kernel
theorem dX7_goes_8 : decode cX7_goes 8 = .ok (.iload_n 1, 1) := by decide +kernel
theorem dX7_goes_9 : decode cX7_goes 9 = .ok (.iconst 1, 1) := by decide +kernel
theorem dX7_goes_10 : decode cX7_goes 10 = .ok (.invokevirtual 73, 3) := by decide +kernel
theorem dX7_goes_13 : decode cX7_goes 13 = .ok (.invokevirtual 63, 3) := by decide +kernel
theorem dX7_goes_16 : decode cX7_goes 16 = .ok (.istore_n 3, 1) := by decide +kernel
theorem dX7_goes_17 : decode cX7_goes 17 = .ok (.aload_n 0, 1) := by decide +kernel
theorem dX7_goes_18 : decode cX7_goes 18 = .ok (.getfield 7, 3) := by decide +kernel
theorem dX7_goes_21 : decode cX7_goes 21 = .ok (.iconst 2, 1) := by decide +kernel
theorem dX7_goes_22 : decode cX7_goes 22 = .ok (.iaload, 1) := by decide +kernel
theorem dX7_goes_23 : decode cX7_goes 23 = .ok (.ifCond .eq 48, 3) := by decide +kernel
theorem dX7_goes_26 : decode cX7_goes 26 = .ok (.aload_n 0, 1) := by decide +kernel
theorem dX7_goes_27 : decode cX7_goes 27 = .ok (.getfield 7, 3) := by decide +kernel
theorem dX7_goes_30 : decode cX7_goes 30 = .ok (.iconst 2, 1) := by decide +kernel
theorem dX7_goes_31 : decode cX7_goes 31 = .ok (.iaload, 1) := by decide +kernel
theorem dX7_goes_32 : decode cX7_goes 32 = .ok (.iconst 1, 1) := by decide +kernel
theorem dX7_goes_33 : decode cX7_goes 33 = .ok (.if_icmp .ne 16, 3) := by decide +kernel
theorem dX7_goes_36 : decode cX7_goes 36 = .ok (.aload_n 0, 1) := by decide +kernel
theorem dX7_goes_37 : decode cX7_goes 37 = .ok (.iload_n 1, 1) := by decide +kernel
theorem dX7_goes_38 : decode cX7_goes 38 = .ok (.iconst 3, 1) := by decide +kernel
theorem dX7_goes_39 : decode cX7_goes 39 = .ok (.invokevirtual 73, 3) := by decide +kernel
theorem dX7_goes_42 : decode cX7_goes 42 = .ok (.iload_n 2, 1) := by decide +kernel
theorem dX7_goes_43 : decode cX7_goes 43 = .ok (.if_icmp .ne 32, 3) := by decide +kernel
theorem dX7_goes_46 : decode cX7_goes 46 = .ok (.goto 25, 3) := by decide +kernel
theorem dX7_goes_49 : decode cX7_goes 49 = .ok (.iload_n 3, 1) := by decide +kernel
theorem dX7_goes_50 : decode cX7_goes 50 = .ok (.ifCond .lt 25, 3) := by decide +kernel
theorem dX7_goes_53 : decode cX7_goes 53 = .ok (.aload_n 0, 1) := by decide +kernel
theorem dX7_goes_54 : decode cX7_goes 54 = .ok (.getfield 26, 3) := by decide +kernel
theorem dX7_goes_57 : decode cX7_goes 57 = .ok (.iload_n 3, 1) := by decide +kernel
theorem dX7_goes_58 : decode cX7_goes 58 = .ok (.baload, 1) := by decide +kernel
theorem dX7_goes_59 : decode cX7_goes 59 = .ok (.ifCond .eq 16, 3) := by decide +kernel
theorem dX7_goes_62 : decode cX7_goes 62 = .ok (.aload_n 0, 1) := by decide +kernel
theorem dX7_goes_63 : decode cX7_goes 63 = .ok (.getfield 23, 3) := by decide +kernel
theorem dX7_goes_66 : decode cX7_goes 66 = .ok (.iload_n 3, 1) := by decide +kernel
theorem dX7_goes_67 : decode cX7_goes 67 = .ok (.baload, 1) := by decide +kernel
theorem dX7_goes_68 : decode cX7_goes 68 = .ok (.ifCond .ne 7, 3) := by decide +kernel
theorem dX7_goes_71 : decode cX7_goes 71 = .ok (.iconst 1, 1) := by decide +kernel
theorem dX7_goes_72 : decode cX7_goes 72 = .ok (.goto 4, 3) := by decide +kernel
theorem dX7_goes_75 : decode cX7_goes 75 = .ok (.iconst 0, 1) := by decide +kernel
theorem dX7_goes_76 : decode cX7_goes 76 = .ok (.ireturn, 1) := by decide +kernel
set_option maxRecDepth 20000 in
theorem ggX7_wipeBy_X7_findGood : GoodIn wsX7_wipeBy wsX7_findGood := goodIn_r _ [6, 1, 7, 8, 9, 10, 5, 11, 12, 13, 14, 15, 33, 34, 35, 36, 37, 38, 39, 40, 41, 42, 43, 44, 45, 46, 47, 48] (by decide +kernel) (by decide +kernel)
set_option maxRecDepth 20000 in
theorem gX7_wipeBy_X7_findGood : GoodIn wsX7_wipeBy (wsV RX7 80 RX7 yX7_findGood wsX7_findGood) := goodIn_app (goodIn_of _ (by decide +kernel)) ggX7_wipeBy_X7_findGood
set_option maxRecDepth 20000 in
theorem ggX7_wipeBy_X7_goes : GoodIn wsX7_wipeBy wsX7_goes := goodIn_r _ [19, 1, 20, 7, 21, 22, 23, 5, 24, 25, 26, 27, 28, 33, 34, 35, 36, 37, 38, 39, 40, 41, 42, 43, 44, 45, 46, 47, 48] (by decide +kernel) (by decide +kernel)
set_option maxRecDepth 20000 in
theorem gX7_wipeBy_X7_goes : GoodIn wsX7_wipeBy (wsV RX7 83 RX7 yX7_goes wsX7_goes) := goodIn_app (goodIn_of _ (by decide +kernel)) ggX7_wipeBy_X7_goes
set_option maxRecDepth 20000 in
theorem ggX7_wipeBy_X7_takeNote : GoodIn wsX7_wipeBy wsX7_takeNote := goodIn_r _ [32, 1, 33, 34, 35, 36, 37, 38, 39, 40, 41, 42, 43, 44, 45, 46, 47, 48] (by decide +kernel) (by decide +kernel)
set_option maxRecDepth 20000 in
theorem gX7_wipeBy_X7_takeNote : GoodIn wsX7_wipeBy (wsV RX7 76 RX7 yX7_takeNote wsX7_takeNote) := goodIn_app (goodIn_of _ (by decide +kernel)) ggX7_wipeBy_X7_takeNote
theorem dX7_wipeBy_0 : decode cX7_wipeBy 0 = .ok (.aload_n 0, 1) := by decide +kernel
theorem dX7_wipeBy_1 : decode cX7_wipeBy 1 = .ok (.invokevirtual 80, 3) := by decide +kernel
theorem dX7_wipeBy_4 : decode cX7_wipeBy 4 = .ok (.iconst 0, 1) := by decide +kernel
theorem dX7_wipeBy_5 : decode cX7_wipeBy 5 = .ok (.istore_n 2, 1) := by decide +kernel
theorem dX7_wipeBy_6 : decode cX7_wipeBy 6 = .ok (.aload_n 0, 1) := by decide +kernel
theorem dX7_wipeBy_7 : decode cX7_wipeBy 7 = .ok (.getfield 7, 3) := by decide +kernel
theorem dX7_wipeBy_10 : decode cX7_wipeBy 10 = .ok (.bipush 90, 2) := by decide +kernel
theorem dX7_wipeBy_12 : decode cX7_wipeBy 12 = .ok (.iaload, 1) := by decide +kernel
theorem dX7_wipeBy_13 : decode cX7_wipeBy 13 = .ok (.iconst 1, 1) := by decide +kernel
theorem dX7_wipeBy_14 : decode cX7_wipeBy 14 = .ok (.isub, 1) := by decide +kernel
theorem dX7_wipeBy_15 : decode cX7_wipeBy 15 = .ok (.istore_n 3, 1) := by decide +kernel
theorem dX7_wipeBy_16 : decode cX7_wipeBy 16 = .ok (.iload_n 3, 1) := by decide +kernel
theorem dX7_wipeBy_17 : decode cX7_wipeBy 17 = .ok (.ifCond .lt 26, 3) := by decide +kernel
theorem dX7_wipeBy_20 : decode cX7_wipeBy 20 = .ok (.aload_n 0, 1) := by decide +kernel
theorem dX7_wipeBy_21 : decode cX7_wipeBy 21 = .ok (.iload_n 3, 1) := by decide +kernel
theorem dX7_wipeBy_22 : decode cX7_wipeBy 22 = .ok (.iload_n 1, 1) := by decide +kernel
theorem dX7_wipeBy_23 : decode cX7_wipeBy 23 = .ok (.invokevirtual 83, 3) := by decide +kernel
theorem dX7_wipeBy_26 : decode cX7_wipeBy 26 = .ok (.ifCond .eq 11, 3) := by decide +kernel
theorem dX7_wipeBy_29 : decode cX7_wipeBy 29 = .ok (.aload_n 0, 1) := by decide +kernel
theorem dX7_wipeBy_30 : decode cX7_wipeBy 30 = .ok (.iload_n 3, 1) := by decide +kernel
theorem dX7_wipeBy_31 : decode cX7_wipeBy 31 = .ok (.invokevirtual 76, 3) := by decide +kernel
theorem dX7_wipeBy_34 : decode cX7_wipeBy 34 = .ok (.iinc 2 1, 3) := by decide +kernel
theorem dX7_wipeBy_37 : decode cX7_wipeBy 37 = .ok (.iinc 3 (-1), 3) := by decide +kernel
theorem dX7_wipeBy_40 : decode cX7_wipeBy 40 = .ok (.goto (-24), 3) := by decide +kernel
theorem dX7_wipeBy_43 : decode cX7_wipeBy 43 = .ok (.aload_n 0, 1) := by decide +kernel
theorem dX7_wipeBy_44 : decode cX7_wipeBy 44 = .ok (.getfield 7, 3) := by decide +kernel
theorem dX7_wipeBy_47 : decode cX7_wipeBy 47 = .ok (.bipush 81, 2) := by decide +kernel
theorem dX7_wipeBy_49 : decode cX7_wipeBy 49 = .ok (.dup2, 1) := by decide +kernel
theorem dX7_wipeBy_50 : decode cX7_wipeBy 50 = .ok (.iaload, 1) := by decide +kernel
theorem dX7_wipeBy_51 : decode cX7_wipeBy 51 = .ok (.iload_n 2, 1) := by decide +kernel
theorem dX7_wipeBy_52 : decode cX7_wipeBy 52 = .ok (.iadd, 1) := by decide +kernel
theorem dX7_wipeBy_53 : decode cX7_wipeBy 53 = .ok (.iastore, 1) := by decide +kernel
theorem dX7_wipeBy_54 : decode cX7_wipeBy 54 = .ok (.iload_n 2, 1) := by decide +kernel
theorem dX7_wipeBy_55 : decode cX7_wipeBy 55 = .ok (.ireturn, 1) := by decide +kernel
set_option maxRecDepth 20000 in
theorem ggX7_set_X7_in : GoodIn wsX7_set wsX7_in := goodIn_r _ [5] (by decide +kernel) (by decide +kernel)
set_option maxRecDepth 20000 in
theorem gX7_set_X7_in : GoodIn wsX7_set (va_wsS RX7 38 yX7_in wsX7_in) := goodIn_app (goodIn_of _ (by decide +kernel)) ggX7_set_X7_in
set_option maxRecDepth 20000 in
theorem ggX7_set_X7_keep : GoodIn wsX7_set wsX7_keep := goodIn_r _ [9, 10, 11, 12, 1, 21, 22, 23, 24, 25, 26, 27, 28, 29, 30, 31, 32, 33, 34, 35, 36] (by decide +kernel) (by decide +kernel)
set_option maxRecDepth 20000 in
theorem gX7_set_X7_keep : GoodIn wsX7_set (wsV RX7 53 RX7 yX7_keep wsX7_keep) := goodIn_app (goodIn_of _ (by decide +kernel)) ggX7_set_X7_keep
set_option maxRecDepth 20000 in
theorem ggX7_set_X7_dropOver : GoodIn wsX7_set wsX7_dropOver := goodIn_r _ [16, 1, 17, 18, 19, 4, 20, 21, 22, 23, 24, 25, 26, 27, 28, 29, 30, 31, 32, 33, 34, 35, 36] (by decide +kernel) (by decide +kernel)
set_option maxRecDepth 20000 in
theorem gX7_set_X7_dropOver : GoodIn wsX7_set (wsV RX7 87 RX7 yX7_dropOver wsX7_dropOver) := goodIn_app (goodIn_of _ (by decide +kernel)) ggX7_set_X7_dropOver
theorem dX7_set_0 : decode cX7_set 0 = .ok (.iload_n 1, 1) := by decide +kernel
theorem dX7_set_1 : decode cX7_set 1 = .ok (.ifCond .ne 8, 3) := by decide +kernel
theorem dX7_set_4 : decode cX7_set 4 = .ok (.bipush 8, 2) := by decide +kernel
theorem dX7_set_6 : decode cX7_set 6 = .ok (.goto 13, 3) := by decide +kernel
theorem dX7_set_9 : decode cX7_set 9 = .ok (.iload_n 1, 1) := by decide +kernel
theorem dX7_set_10 : decode cX7_set 10 = .ok (.iconst 2, 1) := by decide +kernel
theorem dX7_set_11 : decode cX7_set 11 = .ok (.if_icmp .ne 7, 3) := by decide +kernel
theorem dX7_set_14 : decode cX7_set 14 = .ok (.iconst 2, 1) := by decide +kernel
theorem dX7_set_15 : decode cX7_set 15 = .ok (.goto 4, 3) := by decide +kernel
theorem dX7_set_18 : decode cX7_set 18 = .ok (.iconst 1, 1) := by decide +kernel
theorem dX7_set_19 : decode cX7_set 19 = .ok (.istore_n 3, 1) := by decide +kernel
theorem dX7_set_20 : decode cX7_set 20 = .ok (.iload_n 1, 1) := by decide +kernel
theorem dX7_set_21 : decode cX7_set 21 = .ok (.iconst 0, 1) := by decide +kernel
theorem dX7_set_22 : decode cX7_set 22 = .ok (.iconst 3, 1) := by decide +kernel
theorem dX7_set_23 : decode cX7_set 23 = .ok (.invokestatic 38, 3) := by decide +kernel
theorem dX7_set_26 : decode cX7_set 26 = .ok (.ifCond .eq 20, 3) := by decide +kernel
theorem dX7_set_29 : decode cX7_set 29 = .ok (.iload_n 2, 1) := by decide +kernel
theorem dX7_set_30 : decode cX7_set 30 = .ok (.iload_n 1, 1) := by decide +kernel
theorem dX7_set_31 : decode cX7_set 31 = .ok (.ifCond .ne 7, 3) := by decide +kernel
theorem dX7_set_34 : decode cX7_set 34 = .ok (.iconst 1, 1) := by decide +kernel
theorem dX7_set_35 : decode cX7_set 35 = .ok (.goto 4, 3) := by decide +kernel
theorem dX7_set_38 : decode cX7_set 38 = .ok (.iconst 0, 1) := by decide +kernel
theorem dX7_set_39 : decode cX7_set 39 = .ok (.iload_n 3, 1) := by decide +kernel
theorem dX7_set_40 : decode cX7_set 40 = .ok (.invokestatic 38, 3) := by decide +kernel
theorem dX7_set_43 : decode cX7_set 43 = .ok (.ifCond .ne 6, 3) := by decide +kernel
theorem dX7_set_46 : decode cX7_set 46 = .ok (.bipush (-2), 2) := by decide +kernel
theorem dX7_set_48 : decode cX7_set 48 = .ok (.ireturn, 1) := by decide +kernel
theorem dX7_set_49 : decode cX7_set 49 = .ok (.aload_n 0, 1) := by decide +kernel
theorem dX7_set_50 : decode cX7_set 50 = .ok (.invokevirtual 53, 3) := by decide +kernel
theorem dX7_set_53 : decode cX7_set 53 = .ok (.aload_n 0, 1) := by decide +kernel
theorem dX7_set_54 : decode cX7_set 54 = .ok (.getfield 7, 3) := by decide +kernel
theorem dX7_set_57 : decode cX7_set 57 = .ok (.iload_n 1, 1) := by decide +kernel
theorem dX7_set_58 : decode cX7_set 58 = .ok (.iaload, 1) := by decide +kernel
theorem dX7_set_59 : decode cX7_set 59 = .ok (.istore 4, 2) := by decide +kernel
theorem dX7_set_61 : decode cX7_set 61 = .ok (.aload_n 0, 1) := by decide +kernel
theorem dX7_set_62 : decode cX7_set 62 = .ok (.getfield 7, 3) := by decide +kernel
theorem dX7_set_65 : decode cX7_set 65 = .ok (.iload_n 1, 1) := by decide +kernel
theorem dX7_set_66 : decode cX7_set 66 = .ok (.iload_n 2, 1) := by decide +kernel
theorem dX7_set_67 : decode cX7_set 67 = .ok (.iastore, 1) := by decide +kernel
theorem dX7_set_68 : decode cX7_set 68 = .ok (.aload_n 0, 1) := by decide +kernel
theorem dX7_set_69 : decode cX7_set 69 = .ok (.invokevirtual 87, 3) := by decide +kernel
theorem dX7_set_72 : decode cX7_set 72 = .ok (.iload 4, 2) := by decide +kernel
theorem dX7_set_74 : decode cX7_set 74 = .ok (.ireturn, 1) := by decide +kernel
set_option maxRecDepth 20000 in
theorem ggX7_tryOwn_X7_isPage : GoodIn wsX7_tryOwn wsX7_isPage := goodIn_r _ [5, 6, 7, 4, 8] (by decide +kernel) (by decide +kernel)
set_option maxRecDepth 20000 in
theorem gX7_tryOwn_X7_isPage : GoodIn wsX7_tryOwn (va_wsS RX7 90 yX7_isPage wsX7_isPage) := goodIn_app (goodIn_of _ (by decide +kernel)) ggX7_tryOwn_X7_isPage
set_option maxRecDepth 20000 in
theorem ggX7_tryOwn_X7_isGuest : GoodIn wsX7_tryOwn wsX7_isGuest := goodIn_r _ [11, 6, 7, 4, 8] (by decide +kernel) (by decide +kernel)
set_option maxRecDepth 20000 in
theorem gX7_tryOwn_X7_isGuest : GoodIn wsX7_tryOwn (va_wsS RX7 42 yX7_isGuest wsX7_isGuest) := goodIn_app (goodIn_of _ (by decide +kernel)) ggX7_tryOwn_X7_isGuest
set_option maxRecDepth 20000 in
theorem ggX7_tryOwn_X7_keepIf : GoodIn wsX7_tryOwn wsX7_keepIf := goodIn_r _ [15, 16, 17, 18, 4, 19, 20, 21, 22, 1, 61, 62, 63, 64, 65, 66, 67, 68, 69, 70, 71, 72, 73, 74, 75, 76] (by decide +kernel) (by decide +kernel)
set_option maxRecDepth 20000 in
theorem gX7_tryOwn_X7_keepIf : GoodIn wsX7_tryOwn (wsV RX7 93 RX7 yX7_keepIf wsX7_keepIf) := goodIn_app (goodIn_of _ (by decide +kernel)) ggX7_tryOwn_X7_keepIf
set_option maxRecDepth 20000 in
theorem ggX7_tryOwn_X7_layGood : GoodIn wsX7_tryOwn wsX7_layGood := goodIn_r _ [26, 1, 27, 28, 29, 30, 31, 4, 32, 33, 34, 35, 36, 37, 38, 39, 40, 61, 62, 63, 64, 65, 66, 67, 68, 69, 70, 71, 72, 73, 74, 75, 76] (by decide +kernel) (by decide +kernel)
set_option maxRecDepth 20000 in
theorem gX7_tryOwn_X7_layGood : GoodIn wsX7_tryOwn (wsV RX7 97 RX7 yX7_layGood wsX7_layGood) := goodIn_app (goodIn_of _ (by decide +kernel)) ggX7_tryOwn_X7_layGood
set_option maxRecDepth 20000 in
theorem ggX7_tryOwn_X7_wipeBy : GoodIn wsX7_tryOwn wsX7_wipeBy := goodIn_r _ [44, 1, 29, 30, 31, 4, 32, 28, 33, 34, 35, 36, 37, 38, 39, 40, 45, 46, 47, 48, 27, 49, 50, 51, 52, 53, 54, 55, 56, 57, 58, 59, 60, 61, 62, 63, 64, 65, 66, 67, 68, 69, 70, 71, 72, 73, 74, 75, 76] (by decide +kernel) (by decide +kernel)
set_option maxRecDepth 20000 in
theorem gX7_tryOwn_X7_wipeBy : GoodIn wsX7_tryOwn (wsV RX7 100 RX7 yX7_wipeBy wsX7_wipeBy) := goodIn_app (goodIn_of _ (by decide +kernel)) ggX7_tryOwn_X7_wipeBy
theorem dX7_tryOwn_0 : decode cX7_tryOwn 0 = .ok (.iload_n 1, 1) := by decide +kernel
theorem dX7_tryOwn_1 : decode cX7_tryOwn 1 = .ok (.invokestatic 90, 3) := by decide +kernel
theorem dX7_tryOwn_4 : decode cX7_tryOwn 4 = .ok (.ifCond .eq 16, 3) := by decide +kernel
theorem dX7_tryOwn_7 : decode cX7_tryOwn 7 = .ok (.iload_n 2, 1) := by decide +kernel
theorem dX7_tryOwn_8 : decode cX7_tryOwn 8 = .ok (.bipush (-6), 2) := by decide +kernel
theorem dX7_tryOwn_10 : decode cX7_tryOwn 10 = .ok (.if_icmp .eq 12, 3) := by decide +kernel
theorem dX7_tryOwn_13 : decode cX7_tryOwn 13 = .ok (.iload_n 2, 1) := by decide +kernel
theorem dX7_tryOwn_14 : decode cX7_tryOwn 14 = .ok (.invokestatic 42, 3) := by decide +kernel
theorem dX7_tryOwn_17 : decode cX7_tryOwn 17 = .ok (.ifCond .ne 5, 3) := by decide +kernel
theorem dX7_tryOwn_20 : decode cX7_tryOwn 20 = .ok (.iconst (-1), 1) := by decide +kernel
theorem dX7_tryOwn_21 : decode cX7_tryOwn 21 = .ok (.ireturn, 1) := by decide +kernel
theorem dX7_tryOwn_22 : decode cX7_tryOwn 22 = .ok (.aload_n 0, 1) := by decide +kernel
theorem dX7_tryOwn_23 : decode cX7_tryOwn 23 = .ok (.iload_n 3, 1) := by decide +kernel
theorem dX7_tryOwn_24 : decode cX7_tryOwn 24 = .ok (.invokevirtual 93, 3) := by decide +kernel
theorem dX7_tryOwn_27 : decode cX7_tryOwn 27 = .ok (.aload_n 0, 1) := by decide +kernel
theorem dX7_tryOwn_28 : decode cX7_tryOwn 28 = .ok (.getfield 7, 3) := by decide +kernel
theorem dX7_tryOwn_31 : decode cX7_tryOwn 31 = .ok (.iconst 4, 1) := by decide +kernel
theorem dX7_tryOwn_32 : decode cX7_tryOwn 32 = .ok (.iload_n 1, 1) := by decide +kernel
theorem dX7_tryOwn_33 : decode cX7_tryOwn 33 = .ok (.iadd, 1) := by decide +kernel
theorem dX7_tryOwn_34 : decode cX7_tryOwn 34 = .ok (.iaload, 1) := by decide +kernel
theorem dX7_tryOwn_35 : decode cX7_tryOwn 35 = .ok (.iload_n 2, 1) := by decide +kernel
theorem dX7_tryOwn_36 : decode cX7_tryOwn 36 = .ok (.if_icmp .ne 5, 3) := by decide +kernel
theorem dX7_tryOwn_39 : decode cX7_tryOwn 39 = .ok (.iconst 0, 1) := by decide +kernel
theorem dX7_tryOwn_40 : decode cX7_tryOwn 40 = .ok (.ireturn, 1) := by decide +kernel
theorem dX7_tryOwn_41 : decode cX7_tryOwn 41 = .ok (.aload_n 0, 1) := by decide +kernel
theorem dX7_tryOwn_42 : decode cX7_tryOwn 42 = .ok (.invokevirtual 97, 3) := by decide +kernel
theorem dX7_tryOwn_45 : decode cX7_tryOwn 45 = .ok (.aload_n 0, 1) := by decide +kernel
theorem dX7_tryOwn_46 : decode cX7_tryOwn 46 = .ok (.getfield 7, 3) := by decide +kernel
theorem dX7_tryOwn_49 : decode cX7_tryOwn 49 = .ok (.iconst 4, 1) := by decide +kernel
theorem dX7_tryOwn_50 : decode cX7_tryOwn 50 = .ok (.iload_n 1, 1) := by decide +kernel
theorem dX7_tryOwn_51 : decode cX7_tryOwn 51 = .ok (.iadd, 1) := by decide +kernel
theorem dX7_tryOwn_52 : decode cX7_tryOwn 52 = .ok (.iload_n 2, 1) := by decide +kernel
theorem dX7_tryOwn_53 : decode cX7_tryOwn 53 = .ok (.iastore, 1) := by decide +kernel
theorem dX7_tryOwn_54 : decode cX7_tryOwn 54 = .ok (.aload_n 0, 1) := by decide +kernel
theorem dX7_tryOwn_55 : decode cX7_tryOwn 55 = .ok (.iload_n 1, 1) := by decide +kernel
theorem dX7_tryOwn_56 : decode cX7_tryOwn 56 = .ok (.invokevirtual 100, 3) := by decide +kernel
theorem dX7_tryOwn_59 : decode cX7_tryOwn 59 = .ok (.ireturn, 1) := by decide +kernel
set_option maxRecDepth 20000 in
theorem ggX7_own_X7_tryOwn : GoodIn wsX7_own wsX7_tryOwn := goodIn_r _ [5, 6, 7, 8, 4, 9, 10, 11, 12, 13, 14, 15, 16, 17, 18, 19, 20, 21, 22, 23, 24, 25, 26, 27, 28, 29, 30, 31, 32, 33, 34, 35, 36, 37, 38, 39, 40, 41, 42, 43, 44, 45, 46, 47, 48, 49, 50, 51, 52, 53, 54, 55, 56, 57, 58, 59, 60, 61, 62, 63, 64, 65, 66, 67, 68, 69, 70, 71, 72, 73, 74, 75, 76, 77, 78, 79, 80] (by decide +kernel) (by decide +kernel)
set_option maxRecDepth 20000 in
theorem gX7_own_X7_tryOwn : GoodIn wsX7_own (wsV RX7 104 RX7 yX7_tryOwn wsX7_tryOwn) := goodIn_app (goodIn_of _ (by decide +kernel)) ggX7_own_X7_tryOwn
theorem dX7_own_0 : decode cX7_own 0 = .ok (.aload_n 0, 1) := by decide +kernel
theorem dX7_own_1 : decode cX7_own 1 = .ok (.iload_n 1, 1) := by decide +kernel
theorem dX7_own_2 : decode cX7_own 2 = .ok (.iload_n 2, 1) := by decide +kernel
theorem dX7_own_3 : decode cX7_own 3 = .ok (.iconst 1, 1) := by decide +kernel
theorem dX7_own_4 : decode cX7_own 4 = .ok (.invokevirtual 104, 3) := by decide +kernel
theorem dX7_own_7 : decode cX7_own 7 = .ok (.ireturn, 1) := by decide +kernel
theorem dX7_make_0 : decode cX7_make 0 = .ok (.bipush 127, 2) := by decide +kernel
theorem dX7_make_2 : decode cX7_make 2 = .ok (.bipush 7, 2) := by decide +kernel
theorem dX7_make_4 : decode cX7_make 4 = .ok (.aload_n 0, 1) := by decide +kernel
theorem dX7_make_5 : decode cX7_make 5 = .ok (.getfield 7, 3) := by decide +kernel
theorem dX7_make_8 : decode cX7_make 8 = .ok (.bipush 76, 2) := by decide +kernel
theorem dX7_make_10 : decode cX7_make 10 = .ok (.iaload, 1) := by decide +kernel
theorem dX7_make_11 : decode cX7_make 11 = .ok (.imul, 1) := by decide +kernel
theorem dX7_make_12 : decode cX7_make 12 = .ok (.iadd, 1) := by decide +kernel
theorem dX7_make_13 : decode cX7_make 13 = .ok (.istore 7, 2) := by decide +kernel
theorem dX7_make_15 : decode cX7_make 15 = .ok (.aload_n 0, 1) := by decide +kernel
theorem dX7_make_16 : decode cX7_make 16 = .ok (.getfield 7, 3) := by decide +kernel
theorem dX7_make_19 : decode cX7_make 19 = .ok (.iload 7, 2) := by decide +kernel
theorem dX7_make_21 : decode cX7_make 21 = .ok (.iconst 0, 1) := by decide +kernel
theorem dX7_make_22 : decode cX7_make 22 = .ok (.iadd, 1) := by decide +kernel
theorem dX7_make_23 : decode cX7_make 23 = .ok (.iload_n 3, 1) := by decide +kernel
theorem dX7_make_24 : decode cX7_make 24 = .ok (.iastore, 1) := by decide +kernel
theorem dX7_make_25 : decode cX7_make 25 = .ok (.aload_n 0, 1) := by decide +kernel
theorem dX7_make_26 : decode cX7_make 26 = .ok (.getfield 7, 3) := by decide +kernel
theorem dX7_make_29 : decode cX7_make 29 = .ok (.iload 7, 2) := by decide +kernel
theorem dX7_make_31 : decode cX7_make 31 = .ok (.iconst 1, 1) := by decide +kernel
theorem dX7_make_32 : decode cX7_make 32 = .ok (.iadd, 1) := by decide +kernel
theorem dX7_make_33 : decode cX7_make 33 = .ok (.iload_n 1, 1) := by decide +kernel
theorem dX7_make_34 : decode cX7_make 34 = .ok (.iastore, 1) := by decide +kernel
theorem dX7_make_35 : decode cX7_make 35 = .ok (.aload_n 0, 1) := by decide +kernel
theorem dX7_make_36 : decode cX7_make 36 = .ok (.getfield 7, 3) := by decide +kernel
theorem dX7_make_39 : decode cX7_make 39 = .ok (.iload 7, 2) := by decide +kernel
theorem dX7_make_41 : decode cX7_make 41 = .ok (.iconst 2, 1) := by decide +kernel
theorem dX7_make_42 : decode cX7_make 42 = .ok (.iadd, 1) := by decide +kernel
theorem dX7_make_43 : decode cX7_make 43 = .ok (.iload_n 2, 1) := by decide +kernel
theorem dX7_make_44 : decode cX7_make 44 = .ok (.iastore, 1) := by decide +kernel
theorem dX7_make_45 : decode cX7_make 45 = .ok (.aload_n 0, 1) := by decide +kernel
theorem dX7_make_46 : decode cX7_make 46 = .ok (.getfield 7, 3) := by decide +kernel
theorem dX7_make_49 : decode cX7_make 49 = .ok (.iload 7, 2) := by decide +kernel
theorem dX7_make_51 : decode cX7_make 51 = .ok (.iconst 3, 1) := by decide +kernel
theorem dX7_make_52 : decode cX7_make 52 = .ok (.iadd, 1) := by decide +kernel
theorem dX7_make_53 : decode cX7_make 53 = .ok (.iload 4, 2) := by decide +kernel
theorem dX7_make_55 : decode cX7_make 55 = .ok (.iastore, 1) := by decide +kernel
theorem dX7_make_56 : decode cX7_make 56 = .ok (.aload_n 0, 1) := by decide +kernel
theorem dX7_make_57 : decode cX7_make 57 = .ok (.getfield 7, 3) := by decide +kernel
theorem dX7_make_60 : decode cX7_make 60 = .ok (.iload 7, 2) := by decide +kernel
theorem dX7_make_62 : decode cX7_make 62 = .ok (.iconst 4, 1) := by decide +kernel
theorem dX7_make_63 : decode cX7_make 63 = .ok (.iadd, 1) := by decide +kernel
theorem dX7_make_64 : decode cX7_make 64 = .ok (.iload 5, 2) := by decide +kernel
theorem dX7_make_66 : decode cX7_make 66 = .ok (.iastore, 1) := by decide +kernel
theorem dX7_make_67 : decode cX7_make 67 = .ok (.aload_n 0, 1) := by decide +kernel
theorem dX7_make_68 : decode cX7_make 68 = .ok (.getfield 7, 3) := by decide +kernel
theorem dX7_make_71 : decode cX7_make 71 = .ok (.iload 7, 2) := by decide +kernel
theorem dX7_make_73 : decode cX7_make 73 = .ok (.iconst 5, 1) := by decide +kernel
theorem dX7_make_74 : decode cX7_make 74 = .ok (.iadd, 1) := by decide +kernel
theorem dX7_make_75 : decode cX7_make 75 = .ok (.iload 6, 2) := by decide +kernel
theorem dX7_make_77 : decode cX7_make 77 = .ok (.iastore, 1) := by decide +kernel
theorem dX7_make_78 : decode cX7_make 78 = .ok (.aload_n 0, 1) := by decide +kernel
theorem dX7_make_79 : decode cX7_make 79 = .ok (.getfield 7, 3) := by decide +kernel
theorem dX7_make_82 : decode cX7_make 82 = .ok (.iload 7, 2) := by decide +kernel
theorem dX7_make_84 : decode cX7_make 84 = .ok (.bipush 6, 2) := by decide +kernel
theorem dX7_make_86 : decode cX7_make 86 = .ok (.iadd, 1) := by decide +kernel
theorem dX7_make_87 : decode cX7_make 87 = .ok (.iconst 0, 1) := by decide +kernel
theorem dX7_make_88 : decode cX7_make 88 = .ok (.iastore, 1) := by decide +kernel
theorem dX7_make_89 : decode cX7_make 89 = .ok (.aload_n 0, 1) := by decide +kernel
theorem dX7_make_90 : decode cX7_make 90 = .ok (.getfield 7, 3) := by decide +kernel
theorem dX7_make_93 : decode cX7_make 93 = .ok (.bipush 76, 2) := by decide +kernel
theorem dX7_make_95 : decode cX7_make 95 = .ok (.dup2, 1) := by decide +kernel
theorem dX7_make_96 : decode cX7_make 96 = .ok (.iaload, 1) := by decide +kernel
theorem dX7_make_97 : decode cX7_make 97 = .ok (.iconst 1, 1) := by decide +kernel
theorem dX7_make_98 : decode cX7_make 98 = .ok (.iadd, 1) := by decide +kernel
theorem dX7_make_99 : decode cX7_make 99 = .ok (.iastore, 1) := by decide +kernel
theorem dX7_make_100 : decode cX7_make 100 = .ok (.aload_n 0, 1) := by decide +kernel
theorem dX7_make_101 : decode cX7_make 101 = .ok (.getfield 7, 3) := by decide +kernel
theorem dX7_make_104 : decode cX7_make 104 = .ok (.bipush 76, 2) := by decide +kernel
theorem dX7_make_106 : decode cX7_make 106 = .ok (.iaload, 1) := by decide +kernel
theorem dX7_make_107 : decode cX7_make 107 = .ok (.iconst 1, 1) := by decide +kernel
theorem dX7_make_108 : decode cX7_make 108 = .ok (.isub, 1) := by decide +kernel
theorem dX7_make_109 : decode cX7_make 109 = .ok (.ireturn, 1) := by decide +kernel
set_option maxRecDepth 20000 in
theorem ggX7_tryStamp_X7_isGuest : GoodIn wsX7_tryStamp wsX7_isGuest := goodIn_r _ [5, 6, 7, 4, 8] (by decide +kernel) (by decide +kernel)
set_option maxRecDepth 20000 in
theorem gX7_tryStamp_X7_isGuest : GoodIn wsX7_tryStamp (va_wsS RX7 42 yX7_isGuest wsX7_isGuest) := goodIn_app (goodIn_of _ (by decide +kernel)) ggX7_tryStamp_X7_isGuest
set_option maxRecDepth 20000 in
theorem ggX7_tryStamp_X7_isPage : GoodIn wsX7_tryStamp wsX7_isPage := goodIn_r _ [11, 6, 7, 4, 8] (by decide +kernel) (by decide +kernel)
set_option maxRecDepth 20000 in
theorem gX7_tryStamp_X7_isPage : GoodIn wsX7_tryStamp (va_wsS RX7 90 yX7_isPage wsX7_isPage) := goodIn_app (goodIn_of _ (by decide +kernel)) ggX7_tryStamp_X7_isPage
set_option maxRecDepth 20000 in
theorem ggX7_tryStamp_X7_areRights : GoodIn wsX7_tryStamp wsX7_areRights := goodIn_r _ [14, 6, 7, 4, 8] (by decide +kernel) (by decide +kernel)
set_option maxRecDepth 20000 in
theorem gX7_tryStamp_X7_areRights : GoodIn wsX7_tryStamp (va_wsS RX7 108 yX7_areRights wsX7_areRights) := goodIn_app (goodIn_of _ (by decide +kernel)) ggX7_tryStamp_X7_areRights
set_option maxRecDepth 20000 in
theorem ggX7_tryStamp_X7_keepIf : GoodIn wsX7_tryStamp wsX7_keepIf := goodIn_r _ [18, 19, 20, 21, 4, 22, 23, 24, 25, 1, 30, 31, 32, 33, 34, 35, 36, 37, 38, 39, 40, 41, 42, 43, 44, 45] (by decide +kernel) (by decide +kernel)
set_option maxRecDepth 20000 in
theorem gX7_tryStamp_X7_keepIf : GoodIn wsX7_tryStamp (wsV RX7 93 RX7 yX7_keepIf wsX7_keepIf) := goodIn_app (goodIn_of _ (by decide +kernel)) ggX7_tryStamp_X7_keepIf
set_option maxRecDepth 20000 in
theorem ggX7_tryStamp_X7_make : GoodIn wsX7_tryStamp wsX7_make := goodIn_r _ [29, 1, 30, 31, 32, 33, 34, 35, 36, 37, 38, 39, 40, 41, 42, 43, 44, 45] (by decide +kernel) (by decide +kernel)
set_option maxRecDepth 20000 in
theorem gX7_tryStamp_X7_make : GoodIn wsX7_tryStamp (wsV RX7 111 RX7 yX7_make wsX7_make) := goodIn_app (goodIn_of _ (by decide +kernel)) ggX7_tryStamp_X7_make
theorem dX7_tryStamp_0 : decode cX7_tryStamp 0 = .ok (.iload_n 1, 1) := by decide +kernel
theorem dX7_tryStamp_1 : decode cX7_tryStamp 1 = .ok (.invokestatic 42, 3) := by decide +kernel
theorem dX7_tryStamp_4 : decode cX7_tryStamp 4 = .ok (.ifCond .eq 17, 3) := by decide +kernel
theorem dX7_tryStamp_7 : decode cX7_tryStamp 7 = .ok (.iload_n 2, 1) := by decide +kernel
theorem dX7_tryStamp_8 : decode cX7_tryStamp 8 = .ok (.invokestatic 42, 3) := by decide +kernel
theorem dX7_tryStamp_11 : decode cX7_tryStamp 11 = .ok (.ifCond .eq 10, 3) := by decide +kernel
theorem dX7_tryStamp_14 : decode cX7_tryStamp 14 = .ok (.iload_n 3, 1) := by decide +kernel
theorem dX7_tryStamp_15 : decode cX7_tryStamp 15 = .ok (.invokestatic 90, 3) := by decide +kernel
theorem dX7_tryStamp_18 : decode cX7_tryStamp 18 = .ok (.ifCond .ne 5, 3) := by decide +kernel
theorem dX7_tryStamp_21 : decode cX7_tryStamp 21 = .ok (.iconst (-1), 1) := by decide +kernel
theorem dX7_tryStamp_22 : decode cX7_tryStamp 22 = .ok (.ireturn, 1) := by decide +kernel
theorem dX7_tryStamp_23 : decode cX7_tryStamp 23 = .ok (.iload 4, 2) := by decide +kernel
theorem dX7_tryStamp_25 : decode cX7_tryStamp 25 = .ok (.invokestatic 108, 3) := by decide +kernel
theorem dX7_tryStamp_28 : decode cX7_tryStamp 28 = .ok (.ifCond .ne 6, 3) := by decide +kernel
theorem dX7_tryStamp_31 : decode cX7_tryStamp 31 = .ok (.bipush (-2), 2) := by decide +kernel
theorem dX7_tryStamp_33 : decode cX7_tryStamp 33 = .ok (.ireturn, 1) := by decide +kernel
theorem dX7_tryStamp_34 : decode cX7_tryStamp 34 = .ok (.aload_n 0, 1) := by decide +kernel
theorem dX7_tryStamp_35 : decode cX7_tryStamp 35 = .ok (.getfield 7, 3) := by decide +kernel
theorem dX7_tryStamp_38 : decode cX7_tryStamp 38 = .ok (.bipush 76, 2) := by decide +kernel
theorem dX7_tryStamp_40 : decode cX7_tryStamp 40 = .ok (.iaload, 1) := by decide +kernel
theorem dX7_tryStamp_41 : decode cX7_tryStamp 41 = .ok (.bipush 40, 2) := by decide +kernel
theorem dX7_tryStamp_43 : decode cX7_tryStamp 43 = .ok (.if_icmp .ne 6, 3) := by decide +kernel
theorem dX7_tryStamp_46 : decode cX7_tryStamp 46 = .ok (.bipush (-4), 2) := by decide +kernel
theorem dX7_tryStamp_48 : decode cX7_tryStamp 48 = .ok (.ireturn, 1) := by decide +kernel
theorem dX7_tryStamp_49 : decode cX7_tryStamp 49 = .ok (.aload_n 0, 1) := by decide +kernel
theorem dX7_tryStamp_50 : decode cX7_tryStamp 50 = .ok (.getfield 7, 3) := by decide +kernel
theorem dX7_tryStamp_53 : decode cX7_tryStamp 53 = .ok (.iconst 4, 1) := by decide +kernel
theorem dX7_tryStamp_54 : decode cX7_tryStamp 54 = .ok (.iload_n 3, 1) := by decide +kernel
theorem dX7_tryStamp_55 : decode cX7_tryStamp 55 = .ok (.iadd, 1) := by decide +kernel
theorem dX7_tryStamp_56 : decode cX7_tryStamp 56 = .ok (.iaload, 1) := by decide +kernel
theorem dX7_tryStamp_57 : decode cX7_tryStamp 57 = .ok (.iload_n 1, 1) := by decide +kernel
theorem dX7_tryStamp_58 : decode cX7_tryStamp 58 = .ok (.if_icmp .eq 6, 3) := by decide +kernel
theorem dX7_tryStamp_61 : decode cX7_tryStamp 61 = .ok (.bipush (-5), 2) := by decide +kernel
theorem dX7_tryStamp_63 : decode cX7_tryStamp 63 = .ok (.ireturn, 1) := by decide +kernel
theorem dX7_tryStamp_64 : decode cX7_tryStamp 64 = .ok (.aload_n 0, 1) := by decide +kernel
theorem dX7_tryStamp_65 : decode cX7_tryStamp 65 = .ok (.iload 5, 2) := by decide +kernel
theorem dX7_tryStamp_67 : decode cX7_tryStamp 67 = .ok (.invokevirtual 93, 3) := by decide +kernel
theorem dX7_tryStamp_70 : decode cX7_tryStamp 70 = .ok (.aload_n 0, 1) := by decide +kernel
theorem dX7_tryStamp_71 : decode cX7_tryStamp 71 = .ok (.iload_n 1, 1) := by decide +kernel
theorem dX7_tryStamp_72 : decode cX7_tryStamp 72 = .ok (.iload_n 2, 1) := by decide +kernel
theorem dX7_tryStamp_73 : decode cX7_tryStamp 73 = .ok (.iload_n 3, 1) := by decide +kernel
theorem dX7_tryStamp_74 : decode cX7_tryStamp 74 = .ok (.iload 4, 2) := by decide +kernel
theorem dX7_tryStamp_76 : decode cX7_tryStamp 76 = .ok (.bipush (-6), 2) := by decide +kernel
theorem dX7_tryStamp_78 : decode cX7_tryStamp 78 = .ok (.iconst 0, 1) := by decide +kernel
theorem dX7_tryStamp_79 : decode cX7_tryStamp 79 = .ok (.invokevirtual 111, 3) := by decide +kernel
theorem dX7_tryStamp_82 : decode cX7_tryStamp 82 = .ok (.ireturn, 1) := by decide +kernel
set_option maxRecDepth 20000 in
theorem ggX7_stamp_X7_tryStamp : GoodIn wsX7_stamp wsX7_tryStamp := goodIn_r _ [5, 6, 7, 8, 4, 9, 10, 11, 12, 13, 14, 15, 16, 17, 18, 19, 20, 21, 22, 23, 24, 25, 26, 27, 28, 29, 30, 31, 32, 33, 34, 35, 36, 37, 38, 39, 40, 41, 42, 43, 44, 45, 46, 47, 48, 49] (by decide +kernel) (by decide +kernel)
set_option maxRecDepth 20000 in
theorem gX7_stamp_X7_tryStamp : GoodIn wsX7_stamp (wsV RX7 115 RX7 yX7_tryStamp wsX7_tryStamp) := goodIn_app (goodIn_of _ (by decide +kernel)) ggX7_stamp_X7_tryStamp
theorem dX7_stamp_0 : decode cX7_stamp 0 = .ok (.aload_n 0, 1) := by decide +kernel
theorem dX7_stamp_1 : decode cX7_stamp 1 = .ok (.iload_n 1, 1) := by decide +kernel
theorem dX7_stamp_2 : decode cX7_stamp 2 = .ok (.iload_n 2, 1) := by decide +kernel
theorem dX7_stamp_3 : decode cX7_stamp 3 = .ok (.iload_n 3, 1) := by decide +kernel
theorem dX7_stamp_4 : decode cX7_stamp 4 = .ok (.iload 4, 2) := by decide +kernel
theorem dX7_stamp_6 : decode cX7_stamp 6 = .ok (.iconst 1, 1) := by decide +kernel
theorem dX7_stamp_7 : decode cX7_stamp 7 = .ok (.invokevirtual 115, 3) := by decide +kernel
theorem dX7_stamp_10 : decode cX7_stamp 10 = .ok (.ireturn, 1) := by decide +kernel
set_option maxRecDepth 20000 in
theorem ggX7_tryPass_X7_isStamp : GoodIn wsX7_tryPass wsX7_isStamp := goodIn_r _ [7, 1, 8, 9, 6, 10, 44, 45, 46, 47, 48, 49, 50, 51, 52, 53, 54, 55, 56, 57, 58, 59] (by decide +kernel) (by decide +kernel)
set_option maxRecDepth 20000 in
theorem gX7_tryPass_X7_isStamp : GoodIn wsX7_tryPass (wsV RX7 119 RX7 yX7_isStamp wsX7_isStamp) := goodIn_app (goodIn_of _ (by decide +kernel)) ggX7_tryPass_X7_isStamp
set_option maxRecDepth 20000 in
theorem ggX7_tryPass_X7_isGuest : GoodIn wsX7_tryPass wsX7_isGuest := goodIn_r _ [13, 8, 9, 6, 10] (by decide +kernel) (by decide +kernel)
set_option maxRecDepth 20000 in
theorem gX7_tryPass_X7_isGuest : GoodIn wsX7_tryPass (va_wsS RX7 42 yX7_isGuest wsX7_isGuest) := goodIn_app (goodIn_of _ (by decide +kernel)) ggX7_tryPass_X7_isGuest
set_option maxRecDepth 20000 in
theorem ggX7_tryPass_X7_areRights : GoodIn wsX7_tryPass wsX7_areRights := goodIn_r _ [16, 8, 9, 6, 10] (by decide +kernel) (by decide +kernel)
set_option maxRecDepth 20000 in
theorem gX7_tryPass_X7_areRights : GoodIn wsX7_tryPass (va_wsS RX7 108 yX7_areRights wsX7_areRights) := goodIn_app (goodIn_of _ (by decide +kernel)) ggX7_tryPass_X7_areRights
set_option maxRecDepth 20000 in
theorem ggX7_tryPass_X7_findGood : GoodIn wsX7_tryPass wsX7_findGood := goodIn_r _ [20, 1, 2, 21, 22, 23, 6, 24, 25, 26, 27, 28, 44, 45, 46, 47, 48, 49, 50, 51, 52, 53, 54, 55, 56, 57, 58, 59] (by decide +kernel) (by decide +kernel)
set_option maxRecDepth 20000 in
theorem gX7_tryPass_X7_findGood : GoodIn wsX7_tryPass (wsV RX7 80 RX7 yX7_findGood wsX7_findGood) := goodIn_app (goodIn_of _ (by decide +kernel)) ggX7_tryPass_X7_findGood
set_option maxRecDepth 20000 in
theorem ggX7_tryPass_X7_of : GoodIn wsX7_tryPass wsX7_of := goodIn_r _ [24, 1, 44, 45, 46, 47, 48, 49, 50, 51, 52, 53, 54, 55, 56, 57, 58, 59] (by decide +kernel) (by decide +kernel)
set_option maxRecDepth 20000 in
theorem gX7_tryPass_X7_of : GoodIn wsX7_tryPass (wsV RX7 56 RX7 yX7_of wsX7_of) := goodIn_app (goodIn_of _ (by decide +kernel)) ggX7_tryPass_X7_of
set_option maxRecDepth 20000 in
theorem ggX7_tryPass_X7_keepIf : GoodIn wsX7_tryPass wsX7_keepIf := goodIn_r _ [32, 33, 34, 35, 6, 36, 37, 38, 39, 1, 44, 45, 46, 47, 48, 49, 50, 51, 52, 53, 54, 55, 56, 57, 58, 59] (by decide +kernel) (by decide +kernel)
set_option maxRecDepth 20000 in
theorem gX7_tryPass_X7_keepIf : GoodIn wsX7_tryPass (wsV RX7 93 RX7 yX7_keepIf wsX7_keepIf) := goodIn_app (goodIn_of _ (by decide +kernel)) ggX7_tryPass_X7_keepIf
set_option maxRecDepth 20000 in
theorem ggX7_tryPass_X7_make : GoodIn wsX7_tryPass wsX7_make := goodIn_r _ [43, 1, 44, 45, 46, 47, 48, 49, 50, 51, 52, 53, 54, 55, 56, 57, 58, 59] (by decide +kernel) (by decide +kernel)
set_option maxRecDepth 20000 in
theorem gX7_tryPass_X7_make : GoodIn wsX7_tryPass (wsV RX7 111 RX7 yX7_make wsX7_make) := goodIn_app (goodIn_of _ (by decide +kernel)) ggX7_tryPass_X7_make
theorem dX7_tryPass_0 : decode cX7_tryPass 0 = .ok (.aload_n 0, 1) := by decide +kernel
theorem dX7_tryPass_1 : decode cX7_tryPass 1 = .ok (.iload_n 1, 1) := by decide +kernel
theorem dX7_tryPass_2 : decode cX7_tryPass 2 = .ok (.invokevirtual 119, 3) := by decide +kernel
theorem dX7_tryPass_5 : decode cX7_tryPass 5 = .ok (.ifCond .eq 10, 3) := by decide +kernel
theorem dX7_tryPass_8 : decode cX7_tryPass 8 = .ok (.iload_n 2, 1) := by decide +kernel
theorem dX7_tryPass_9 : decode cX7_tryPass 9 = .ok (.invokestatic 42, 3) := by decide +kernel
theorem dX7_tryPass_12 : decode cX7_tryPass 12 = .ok (.ifCond .ne 5, 3) := by decide +kernel
theorem dX7_tryPass_15 : decode cX7_tryPass 15 = .ok (.iconst (-1), 1) := by decide +kernel
theorem dX7_tryPass_16 : decode cX7_tryPass 16 = .ok (.ireturn, 1) := by decide +kernel
theorem dX7_tryPass_17 : decode cX7_tryPass 17 = .ok (.iload_n 3, 1) := by decide +kernel
theorem dX7_tryPass_18 : decode cX7_tryPass 18 = .ok (.invokestatic 108, 3) := by decide +kernel
theorem dX7_tryPass_21 : decode cX7_tryPass 21 = .ok (.ifCond .ne 6, 3) := by decide +kernel
theorem dX7_tryPass_24 : decode cX7_tryPass 24 = .ok (.bipush (-2), 2) := by decide +kernel
theorem dX7_tryPass_26 : decode cX7_tryPass 26 = .ok (.ireturn, 1) := by decide +kernel
theorem dX7_tryPass_27 : decode cX7_tryPass 27 = .ok (.aload_n 0, 1) := by decide +kernel
theorem dX7_tryPass_28 : decode cX7_tryPass 28 = .ok (.getfield 7, 3) := by decide +kernel
theorem dX7_tryPass_31 : decode cX7_tryPass 31 = .ok (.bipush 76, 2) := by decide +kernel
theorem dX7_tryPass_33 : decode cX7_tryPass 33 = .ok (.iaload, 1) := by decide +kernel
theorem dX7_tryPass_34 : decode cX7_tryPass 34 = .ok (.bipush 40, 2) := by decide +kernel
theorem dX7_tryPass_36 : decode cX7_tryPass 36 = .ok (.if_icmp .ne 6, 3) := by decide +kernel
theorem dX7_tryPass_39 : decode cX7_tryPass 39 = .ok (.bipush (-4), 2) := by decide +kernel
theorem dX7_tryPass_41 : decode cX7_tryPass 41 = .ok (.ireturn, 1) := by decide +kernel
theorem dX7_tryPass_42 : decode cX7_tryPass 42 = .ok (.aload_n 0, 1) := by decide +kernel
theorem dX7_tryPass_43 : decode cX7_tryPass 43 = .ok (.invokevirtual 80, 3) := by decide +kernel
theorem dX7_tryPass_46 : decode cX7_tryPass 46 = .ok (.aload_n 0, 1) := by decide +kernel
theorem dX7_tryPass_47 : decode cX7_tryPass 47 = .ok (.iload_n 1, 1) := by decide +kernel
theorem dX7_tryPass_48 : decode cX7_tryPass 48 = .ok (.iconst 3, 1) := by decide +kernel
theorem dX7_tryPass_49 : decode cX7_tryPass 49 = .ok (.invokevirtual 56, 3) := by decide +kernel
theorem dX7_tryPass_52 : decode cX7_tryPass 52 = .ok (.istore 5, 2) := by decide +kernel
theorem dX7_tryPass_54 : decode cX7_tryPass 54 = .ok (.aload_n 0, 1) := by decide +kernel
theorem dX7_tryPass_55 : decode cX7_tryPass 55 = .ok (.getfield 23, 3) := by decide +kernel
theorem dX7_tryPass_58 : decode cX7_tryPass 58 = .ok (.iload_n 1, 1) := by decide +kernel
theorem dX7_tryPass_59 : decode cX7_tryPass 59 = .ok (.baload, 1) := by decide +kernel
theorem dX7_tryPass_60 : decode cX7_tryPass 60 = .ok (.ifCond .eq 18, 3) := by decide +kernel
theorem dX7_tryPass_63 : decode cX7_tryPass 63 = .ok (.iload 5, 2) := by decide +kernel
theorem dX7_tryPass_65 : decode cX7_tryPass 65 = .ok (.iconst 4, 1) := by decide +kernel
theorem dX7_tryPass_66 : decode cX7_tryPass 66 = .ok (.iand, 1) := by decide +kernel
theorem dX7_tryPass_67 : decode cX7_tryPass 67 = .ok (.ifCond .eq 11, 3) := by decide +kernel
theorem dX7_tryPass_70 : decode cX7_tryPass 70 = .ok (.iload 5, 2) := by decide +kernel
theorem dX7_tryPass_72 : decode cX7_tryPass 72 = .ok (.iload_n 3, 1) := by decide +kernel
theorem dX7_tryPass_73 : decode cX7_tryPass 73 = .ok (.iand, 1) := by decide +kernel
theorem dX7_tryPass_74 : decode cX7_tryPass 74 = .ok (.iload_n 3, 1) := by decide +kernel
theorem dX7_tryPass_75 : decode cX7_tryPass 75 = .ok (.if_icmp .eq 6, 3) := by decide +kernel
theorem dX7_tryPass_78 : decode cX7_tryPass 78 = .ok (.bipush (-5), 2) := by decide +kernel
theorem dX7_tryPass_80 : decode cX7_tryPass 80 = .ok (.ireturn, 1) := by decide +kernel
theorem dX7_tryPass_81 : decode cX7_tryPass 81 = .ok (.aload_n 0, 1) := by decide +kernel
theorem dX7_tryPass_82 : decode cX7_tryPass 82 = .ok (.iload 4, 2) := by decide +kernel
theorem dX7_tryPass_84 : decode cX7_tryPass 84 = .ok (.invokevirtual 93, 3) := by decide +kernel
theorem dX7_tryPass_87 : decode cX7_tryPass 87 = .ok (.aload_n 0, 1) := by decide +kernel
theorem dX7_tryPass_88 : decode cX7_tryPass 88 = .ok (.aload_n 0, 1) := by decide +kernel
theorem dX7_tryPass_89 : decode cX7_tryPass 89 = .ok (.iload_n 1, 1) := by decide +kernel
theorem dX7_tryPass_90 : decode cX7_tryPass 90 = .ok (.iconst 2, 1) := by decide +kernel
theorem dX7_tryPass_91 : decode cX7_tryPass 91 = .ok (.invokevirtual 56, 3) := by decide +kernel
theorem dX7_tryPass_94 : decode cX7_tryPass 94 = .ok (.iload_n 2, 1) := by decide +kernel
theorem dX7_tryPass_95 : decode cX7_tryPass 95 = .ok (.aload_n 0, 1) := by decide +kernel
theorem dX7_tryPass_96 : decode cX7_tryPass 96 = .ok (.iload_n 1, 1) := by decide +kernel
theorem dX7_tryPass_97 : decode cX7_tryPass 97 = .ok (.iconst 0, 1) := by decide +kernel
theorem dX7_tryPass_98 : decode cX7_tryPass 98 = .ok (.invokevirtual 56, 3) := by decide +kernel
theorem dX7_tryPass_101 : decode cX7_tryPass 101 = .ok (.iload_n 3, 1) := by decide +kernel
theorem dX7_tryPass_102 : decode cX7_tryPass 102 = .ok (.iload_n 1, 1) := by decide +kernel
theorem dX7_tryPass_103 : decode cX7_tryPass 103 = .ok (.iconst 0, 1) := by decide +kernel
theorem dX7_tryPass_104 : decode cX7_tryPass 104 = .ok (.invokevirtual 111, 3) := by decide +kernel
theorem dX7_tryPass_107 : decode cX7_tryPass 107 = .ok (.ireturn, 1) := by decide +kernel
set_option maxRecDepth 20000 in
theorem ggX7_pass_X7_tryPass : GoodIn wsX7_pass wsX7_tryPass := goodIn_r _ [5, 6, 7, 8, 9, 10, 4, 11, 12, 13, 14, 15, 16, 17, 18, 19, 20, 21, 22, 23, 24, 25, 26, 27, 28, 29, 30, 31, 32, 33, 34, 35, 36, 37, 38, 39, 40, 41, 42, 43, 44, 45, 46, 47, 48, 49, 50, 51, 52, 53, 54, 55, 56, 57, 58, 59, 60, 61, 62, 63] (by decide +kernel) (by decide +kernel)
set_option maxRecDepth 20000 in
theorem gX7_pass_X7_tryPass : GoodIn wsX7_pass (wsV RX7 122 RX7 yX7_tryPass wsX7_tryPass) := goodIn_app (goodIn_of _ (by decide +kernel)) ggX7_pass_X7_tryPass
theorem dX7_pass_0 : decode cX7_pass 0 = .ok (.aload_n 0, 1) := by decide +kernel
theorem dX7_pass_1 : decode cX7_pass 1 = .ok (.iload_n 1, 1) := by decide +kernel
theorem dX7_pass_2 : decode cX7_pass 2 = .ok (.iload_n 2, 1) := by decide +kernel
theorem dX7_pass_3 : decode cX7_pass 3 = .ok (.iload_n 3, 1) := by decide +kernel
theorem dX7_pass_4 : decode cX7_pass 4 = .ok (.iconst 1, 1) := by decide +kernel
theorem dX7_pass_5 : decode cX7_pass 5 = .ok (.invokevirtual 122, 3) := by decide +kernel
theorem dX7_pass_8 : decode cX7_pass 8 = .ok (.ireturn, 1) := by decide +kernel
set_option maxRecDepth 20000 in
theorem ggX7_forge_X7_isGuest : GoodIn wsX7_forge wsX7_isGuest := goodIn_r _ [5, 6, 7, 4, 8] (by decide +kernel) (by decide +kernel)
set_option maxRecDepth 20000 in
theorem gX7_forge_X7_isGuest : GoodIn wsX7_forge (va_wsS RX7 42 yX7_isGuest wsX7_isGuest) := goodIn_app (goodIn_of _ (by decide +kernel)) ggX7_forge_X7_isGuest
set_option maxRecDepth 20000 in
theorem ggX7_forge_X7_isPage : GoodIn wsX7_forge wsX7_isPage := goodIn_r _ [11, 6, 7, 4, 8] (by decide +kernel) (by decide +kernel)
set_option maxRecDepth 20000 in
theorem gX7_forge_X7_isPage : GoodIn wsX7_forge (va_wsS RX7 90 yX7_isPage wsX7_isPage) := goodIn_app (goodIn_of _ (by decide +kernel)) ggX7_forge_X7_isPage
set_option maxRecDepth 20000 in
theorem ggX7_forge_X7_isStamp : GoodIn wsX7_forge wsX7_isStamp := goodIn_r _ [15, 1, 6, 7, 4, 8, 30, 31, 32, 33, 34, 35, 36, 37, 38, 39, 40, 41, 42, 43, 44, 45] (by decide +kernel) (by decide +kernel)
set_option maxRecDepth 20000 in
theorem gX7_forge_X7_isStamp : GoodIn wsX7_forge (wsV RX7 119 RX7 yX7_isStamp wsX7_isStamp) := goodIn_app (goodIn_of _ (by decide +kernel)) ggX7_forge_X7_isStamp
set_option maxRecDepth 20000 in
theorem ggX7_forge_X7_areRights : GoodIn wsX7_forge wsX7_areRights := goodIn_r _ [18, 6, 7, 4, 8] (by decide +kernel) (by decide +kernel)
set_option maxRecDepth 20000 in
theorem gX7_forge_X7_areRights : GoodIn wsX7_forge (va_wsS RX7 108 yX7_areRights wsX7_areRights) := goodIn_app (goodIn_of _ (by decide +kernel)) ggX7_forge_X7_areRights
set_option maxRecDepth 20000 in
theorem ggX7_forge_X7_keep : GoodIn wsX7_forge wsX7_keep := goodIn_r _ [22, 23, 24, 25, 1, 30, 31, 32, 33, 34, 35, 36, 37, 38, 39, 40, 41, 42, 43, 44, 45] (by decide +kernel) (by decide +kernel)
set_option maxRecDepth 20000 in
theorem gX7_forge_X7_keep : GoodIn wsX7_forge (wsV RX7 53 RX7 yX7_keep wsX7_keep) := goodIn_app (goodIn_of _ (by decide +kernel)) ggX7_forge_X7_keep
set_option maxRecDepth 20000 in
theorem ggX7_forge_X7_make : GoodIn wsX7_forge wsX7_make := goodIn_r _ [29, 1, 30, 31, 32, 33, 34, 35, 36, 37, 38, 39, 40, 41, 42, 43, 44, 45] (by decide +kernel) (by decide +kernel)
set_option maxRecDepth 20000 in
theorem gX7_forge_X7_make : GoodIn wsX7_forge (wsV RX7 111 RX7 yX7_make wsX7_make) := goodIn_app (goodIn_of _ (by decide +kernel)) ggX7_forge_X7_make
theorem dX7_forge_0 : decode cX7_forge 0 = .ok (.iload_n 1, 1) := by decide +kernel
theorem dX7_forge_1 : decode cX7_forge 1 = .ok (.invokestatic 42, 3) := by decide +kernel
theorem dX7_forge_4 : decode cX7_forge 4 = .ok (.ifCond .eq 33, 3) := by decide +kernel
theorem dX7_forge_7 : decode cX7_forge 7 = .ok (.iload_n 2, 1) := by decide +kernel
theorem dX7_forge_8 : decode cX7_forge 8 = .ok (.invokestatic 42, 3) := by decide +kernel
theorem dX7_forge_11 : decode cX7_forge 11 = .ok (.ifCond .eq 26, 3) := by decide +kernel
theorem dX7_forge_14 : decode cX7_forge 14 = .ok (.iload_n 3, 1) := by decide +kernel
theorem dX7_forge_15 : decode cX7_forge 15 = .ok (.invokestatic 90, 3) := by decide +kernel
theorem dX7_forge_18 : decode cX7_forge 18 = .ok (.ifCond .eq 19, 3) := by decide +kernel
theorem dX7_forge_21 : decode cX7_forge 21 = .ok (.iload 5, 2) := by decide +kernel
theorem dX7_forge_23 : decode cX7_forge 23 = .ok (.bipush (-6), 2) := by decide +kernel
theorem dX7_forge_25 : decode cX7_forge 25 = .ok (.if_icmp .eq 14, 3) := by decide +kernel
theorem dX7_forge_28 : decode cX7_forge 28 = .ok (.aload_n 0, 1) := by decide +kernel
theorem dX7_forge_29 : decode cX7_forge 29 = .ok (.iload 5, 2) := by decide +kernel
theorem dX7_forge_31 : decode cX7_forge 31 = .ok (.invokevirtual 119, 3) := by decide +kernel
theorem dX7_forge_34 : decode cX7_forge 34 = .ok (.ifCond .ne 5, 3) := by decide +kernel
theorem dX7_forge_37 : decode cX7_forge 37 = .ok (.iconst (-1), 1) := by decide +kernel
theorem dX7_forge_38 : decode cX7_forge 38 = .ok (.ireturn, 1) := by decide +kernel
theorem dX7_forge_39 : decode cX7_forge 39 = .ok (.iload 4, 2) := by decide +kernel
theorem dX7_forge_41 : decode cX7_forge 41 = .ok (.invokestatic 108, 3) := by decide +kernel
theorem dX7_forge_44 : decode cX7_forge 44 = .ok (.ifCond .ne 6, 3) := by decide +kernel
theorem dX7_forge_47 : decode cX7_forge 47 = .ok (.bipush (-2), 2) := by decide +kernel
theorem dX7_forge_49 : decode cX7_forge 49 = .ok (.ireturn, 1) := by decide +kernel
theorem dX7_forge_50 : decode cX7_forge 50 = .ok (.aload_n 0, 1) := by decide +kernel
theorem dX7_forge_51 : decode cX7_forge 51 = .ok (.getfield 7, 3) := by decide +kernel
theorem dX7_forge_54 : decode cX7_forge 54 = .ok (.bipush 76, 2) := by decide +kernel
theorem dX7_forge_56 : decode cX7_forge 56 = .ok (.iaload, 1) := by decide +kernel
theorem dX7_forge_57 : decode cX7_forge 57 = .ok (.bipush 40, 2) := by decide +kernel
theorem dX7_forge_59 : decode cX7_forge 59 = .ok (.if_icmp .ne 6, 3) := by decide +kernel
theorem dX7_forge_62 : decode cX7_forge 62 = .ok (.bipush (-4), 2) := by decide +kernel
theorem dX7_forge_64 : decode cX7_forge 64 = .ok (.ireturn, 1) := by decide +kernel
theorem dX7_forge_65 : decode cX7_forge 65 = .ok (.aload_n 0, 1) := by decide +kernel
theorem dX7_forge_66 : decode cX7_forge 66 = .ok (.invokevirtual 53, 3) := by decide +kernel
theorem dX7_forge_69 : decode cX7_forge 69 = .ok (.aload_n 0, 1) := by decide +kernel
theorem dX7_forge_70 : decode cX7_forge 70 = .ok (.iload_n 1, 1) := by decide +kernel
theorem dX7_forge_71 : decode cX7_forge 71 = .ok (.iload_n 2, 1) := by decide +kernel
theorem dX7_forge_72 : decode cX7_forge 72 = .ok (.iload_n 3, 1) := by decide +kernel
theorem dX7_forge_73 : decode cX7_forge 73 = .ok (.iload 4, 2) := by decide +kernel
theorem dX7_forge_75 : decode cX7_forge 75 = .ok (.iload 5, 2) := by decide +kernel
theorem dX7_forge_77 : decode cX7_forge 77 = .ok (.iconst 1, 1) := by decide +kernel
theorem dX7_forge_78 : decode cX7_forge 78 = .ok (.invokevirtual 111, 3) := by decide +kernel
theorem dX7_forge_81 : decode cX7_forge 81 = .ok (.ireturn, 1) := by decide +kernel
set_option maxRecDepth 20000 in
theorem ggX7_tryTakeBack_X7_isStamp : GoodIn wsX7_tryTakeBack wsX7_isStamp := goodIn_r _ [6, 1, 7, 8, 5, 9, 59, 60, 61, 62, 63, 64, 65, 66, 67, 68, 69, 70, 71, 72, 73, 74] (by decide +kernel) (by decide +kernel)
set_option maxRecDepth 20000 in
theorem gX7_tryTakeBack_X7_isStamp : GoodIn wsX7_tryTakeBack (wsV RX7 119 RX7 yX7_isStamp wsX7_isStamp) := goodIn_app (goodIn_of _ (by decide +kernel)) ggX7_tryTakeBack_X7_isStamp
set_option maxRecDepth 20000 in
theorem ggX7_tryTakeBack_X7_of : GoodIn wsX7_tryTakeBack wsX7_of := goodIn_r _ [13, 1, 59, 60, 61, 62, 63, 64, 65, 66, 67, 68, 69, 70, 71, 72, 73, 74] (by decide +kernel) (by decide +kernel)
set_option maxRecDepth 20000 in
theorem gX7_tryTakeBack_X7_of : GoodIn wsX7_tryTakeBack (wsV RX7 56 RX7 yX7_of wsX7_of) := goodIn_app (goodIn_of _ (by decide +kernel)) ggX7_tryTakeBack_X7_of
set_option maxRecDepth 20000 in
theorem ggX7_tryTakeBack_X7_keepIf : GoodIn wsX7_tryTakeBack wsX7_keepIf := goodIn_r _ [17, 18, 19, 20, 5, 21, 22, 23, 24, 1, 59, 60, 61, 62, 63, 64, 65, 66, 67, 68, 69, 70, 71, 72, 73, 74] (by decide +kernel) (by decide +kernel)
set_option maxRecDepth 20000 in
theorem gX7_tryTakeBack_X7_keepIf : GoodIn wsX7_tryTakeBack (wsV RX7 93 RX7 yX7_keepIf wsX7_keepIf) := goodIn_app (goodIn_of _ (by decide +kernel)) ggX7_tryTakeBack_X7_keepIf
set_option maxRecDepth 20000 in
theorem ggX7_tryTakeBack_X7_layGood : GoodIn wsX7_tryTakeBack wsX7_layGood := goodIn_r _ [28, 1, 29, 30, 31, 32, 33, 5, 34, 10, 11, 12, 13, 35, 36, 37, 38, 59, 60, 61, 62, 63, 64, 65, 66, 67, 68, 69, 70, 71, 72, 73, 74] (by decide +kernel) (by decide +kernel)
set_option maxRecDepth 20000 in
theorem gX7_tryTakeBack_X7_layGood : GoodIn wsX7_tryTakeBack (wsV RX7 97 RX7 yX7_layGood wsX7_layGood) := goodIn_app (goodIn_of _ (by decide +kernel)) ggX7_tryTakeBack_X7_layGood
set_option maxRecDepth 20000 in
theorem ggX7_tryTakeBack_X7_wipeBy : GoodIn wsX7_tryTakeBack wsX7_wipeBy := goodIn_r _ [42, 1, 31, 32, 33, 5, 34, 30, 10, 11, 12, 13, 35, 36, 37, 38, 43, 44, 45, 46, 29, 47, 48, 49, 50, 51, 52, 53, 54, 55, 56, 57, 58, 59, 60, 61, 62, 63, 64, 65, 66, 67, 68, 69, 70, 71, 72, 73, 74] (by decide +kernel) (by decide +kernel)
set_option maxRecDepth 20000 in
theorem gX7_tryTakeBack_X7_wipeBy : GoodIn wsX7_tryTakeBack (wsV RX7 100 RX7 yX7_wipeBy wsX7_wipeBy) := goodIn_app (goodIn_of _ (by decide +kernel)) ggX7_tryTakeBack_X7_wipeBy
theorem dX7_tryTakeBack_0 : decode cX7_tryTakeBack 0 = .ok (.aload_n 0, 1) := by decide +kernel
theorem dX7_tryTakeBack_1 : decode cX7_tryTakeBack 1 = .ok (.iload_n 1, 1) := by decide +kernel
theorem dX7_tryTakeBack_2 : decode cX7_tryTakeBack 2 = .ok (.invokevirtual 119, 3) := by decide +kernel
theorem dX7_tryTakeBack_5 : decode cX7_tryTakeBack 5 = .ok (.ifCond .ne 5, 3) := by decide +kernel
theorem dX7_tryTakeBack_8 : decode cX7_tryTakeBack 8 = .ok (.iconst (-1), 1) := by decide +kernel
theorem dX7_tryTakeBack_9 : decode cX7_tryTakeBack 9 = .ok (.ireturn, 1) := by decide +kernel
theorem dX7_tryTakeBack_10 : decode cX7_tryTakeBack 10 = .ok (.aload_n 0, 1) := by decide +kernel
theorem dX7_tryTakeBack_11 : decode cX7_tryTakeBack 11 = .ok (.iload_n 1, 1) := by decide +kernel
theorem dX7_tryTakeBack_12 : decode cX7_tryTakeBack 12 = .ok (.bipush 6, 2) := by decide +kernel
theorem dX7_tryTakeBack_14 : decode cX7_tryTakeBack 14 = .ok (.invokevirtual 56, 3) := by decide +kernel
theorem dX7_tryTakeBack_17 : decode cX7_tryTakeBack 17 = .ok (.iconst 1, 1) := by decide +kernel
theorem dX7_tryTakeBack_18 : decode cX7_tryTakeBack 18 = .ok (.if_icmp .ne 6, 3) := by decide +kernel
theorem dX7_tryTakeBack_21 : decode cX7_tryTakeBack 21 = .ok (.bipush (-5), 2) := by decide +kernel
theorem dX7_tryTakeBack_23 : decode cX7_tryTakeBack 23 = .ok (.ireturn, 1) := by decide +kernel
theorem dX7_tryTakeBack_24 : decode cX7_tryTakeBack 24 = .ok (.aload_n 0, 1) := by decide +kernel
theorem dX7_tryTakeBack_25 : decode cX7_tryTakeBack 25 = .ok (.iload_n 2, 1) := by decide +kernel
theorem dX7_tryTakeBack_26 : decode cX7_tryTakeBack 26 = .ok (.invokevirtual 93, 3) := by decide +kernel
theorem dX7_tryTakeBack_29 : decode cX7_tryTakeBack 29 = .ok (.aload_n 0, 1) := by decide +kernel
theorem dX7_tryTakeBack_30 : decode cX7_tryTakeBack 30 = .ok (.invokevirtual 97, 3) := by decide +kernel
theorem dX7_tryTakeBack_33 : decode cX7_tryTakeBack 33 = .ok (.aload_n 0, 1) := by decide +kernel
theorem dX7_tryTakeBack_34 : decode cX7_tryTakeBack 34 = .ok (.getfield 7, 3) := by decide +kernel
theorem dX7_tryTakeBack_37 : decode cX7_tryTakeBack 37 = .ok (.bipush 127, 2) := by decide +kernel
theorem dX7_tryTakeBack_39 : decode cX7_tryTakeBack 39 = .ok (.bipush 7, 2) := by decide +kernel
theorem dX7_tryTakeBack_41 : decode cX7_tryTakeBack 41 = .ok (.iload_n 1, 1) := by decide +kernel
theorem dX7_tryTakeBack_42 : decode cX7_tryTakeBack 42 = .ok (.imul, 1) := by decide +kernel
theorem dX7_tryTakeBack_43 : decode cX7_tryTakeBack 43 = .ok (.iadd, 1) := by decide +kernel
theorem dX7_tryTakeBack_44 : decode cX7_tryTakeBack 44 = .ok (.bipush 6, 2) := by decide +kernel
theorem dX7_tryTakeBack_46 : decode cX7_tryTakeBack 46 = .ok (.iadd, 1) := by decide +kernel
theorem dX7_tryTakeBack_47 : decode cX7_tryTakeBack 47 = .ok (.iconst 1, 1) := by decide +kernel
theorem dX7_tryTakeBack_48 : decode cX7_tryTakeBack 48 = .ok (.iastore, 1) := by decide +kernel
theorem dX7_tryTakeBack_49 : decode cX7_tryTakeBack 49 = .ok (.aload_n 0, 1) := by decide +kernel
theorem dX7_tryTakeBack_50 : decode cX7_tryTakeBack 50 = .ok (.aload_n 0, 1) := by decide +kernel
theorem dX7_tryTakeBack_51 : decode cX7_tryTakeBack 51 = .ok (.iload_n 1, 1) := by decide +kernel
theorem dX7_tryTakeBack_52 : decode cX7_tryTakeBack 52 = .ok (.iconst 0, 1) := by decide +kernel
theorem dX7_tryTakeBack_53 : decode cX7_tryTakeBack 53 = .ok (.invokevirtual 56, 3) := by decide +kernel
theorem dX7_tryTakeBack_56 : decode cX7_tryTakeBack 56 = .ok (.invokevirtual 100, 3) := by decide +kernel
theorem dX7_tryTakeBack_59 : decode cX7_tryTakeBack 59 = .ok (.ireturn, 1) := by decide +kernel
set_option maxRecDepth 20000 in
theorem ggX7_takeBack_X7_tryTakeBack : GoodIn wsX7_takeBack wsX7_tryTakeBack := goodIn_r _ [5, 6, 7, 8, 9, 4, 10, 11, 12, 13, 14, 15, 16, 17, 18, 19, 20, 21, 22, 23, 24, 25, 26, 27, 28, 29, 30, 31, 32, 33, 34, 35, 36, 37, 38, 39, 40, 41, 42, 43, 44, 45, 46, 47, 48, 49, 50, 51, 52, 53, 54, 55, 56, 57, 58, 59, 60, 61, 62, 63, 64, 65, 66, 67, 68, 69, 70, 71, 72, 73, 74, 75, 76, 77, 78] (by decide +kernel) (by decide +kernel)
set_option maxRecDepth 20000 in
theorem gX7_takeBack_X7_tryTakeBack : GoodIn wsX7_takeBack (wsV RX7 126 RX7 yX7_tryTakeBack wsX7_tryTakeBack) := goodIn_app (goodIn_of _ (by decide +kernel)) ggX7_takeBack_X7_tryTakeBack
theorem dX7_takeBack_0 : decode cX7_takeBack 0 = .ok (.aload_n 0, 1) := by decide +kernel
theorem dX7_takeBack_1 : decode cX7_takeBack 1 = .ok (.iload_n 1, 1) := by decide +kernel
theorem dX7_takeBack_2 : decode cX7_takeBack 2 = .ok (.iconst 1, 1) := by decide +kernel
theorem dX7_takeBack_3 : decode cX7_takeBack 3 = .ok (.invokevirtual 126, 3) := by decide +kernel
theorem dX7_takeBack_6 : decode cX7_takeBack 6 = .ok (.ireturn, 1) := by decide +kernel
set_option maxRecDepth 20000 in
theorem ggX7_tryDoor_X7_isDoor : GoodIn wsX7_tryDoor wsX7_isDoor := goodIn_r _ [5, 6, 7, 4, 8, 9, 10, 11] (by decide +kernel) (by decide +kernel)
set_option maxRecDepth 20000 in
theorem gX7_tryDoor_X7_isDoor : GoodIn wsX7_tryDoor (va_wsS RX7 130 yX7_isDoor wsX7_isDoor) := goodIn_app (goodIn_of _ (by decide +kernel)) ggX7_tryDoor_X7_isDoor
set_option maxRecDepth 20000 in
theorem ggX7_tryDoor_X7_isStamp : GoodIn wsX7_tryDoor wsX7_isStamp := goodIn_r _ [15, 1, 9, 10, 4, 11, 43, 44, 45, 46, 47, 48, 49, 50, 51, 52, 53, 54, 55, 56, 57, 58] (by decide +kernel) (by decide +kernel)
set_option maxRecDepth 20000 in
theorem gX7_tryDoor_X7_isStamp : GoodIn wsX7_tryDoor (wsV RX7 119 RX7 yX7_isStamp wsX7_isStamp) := goodIn_app (goodIn_of _ (by decide +kernel)) ggX7_tryDoor_X7_isStamp
set_option maxRecDepth 20000 in
theorem ggX7_tryDoor_X7_keepIf : GoodIn wsX7_tryDoor wsX7_keepIf := goodIn_r _ [19, 20, 21, 22, 4, 23, 24, 25, 26, 1, 43, 44, 45, 46, 47, 48, 49, 50, 51, 52, 53, 54, 55, 56, 57, 58] (by decide +kernel) (by decide +kernel)
set_option maxRecDepth 20000 in
theorem gX7_tryDoor_X7_keepIf : GoodIn wsX7_tryDoor (wsV RX7 93 RX7 yX7_keepIf wsX7_keepIf) := goodIn_app (goodIn_of _ (by decide +kernel)) ggX7_tryDoor_X7_keepIf
set_option maxRecDepth 20000 in
theorem ggX7_tryDoor_X7_leadsBy : GoodIn wsX7_tryDoor wsX7_leadsBy := goodIn_r _ [30, 1, 43, 44, 45, 46, 47, 48, 49, 50, 51, 52, 53, 54, 55, 56, 57, 58] (by decide +kernel) (by decide +kernel)
set_option maxRecDepth 20000 in
theorem gX7_tryDoor_X7_leadsBy : GoodIn wsX7_tryDoor (wsV RX7 63 RX7 yX7_leadsBy wsX7_leadsBy) := goodIn_app (goodIn_of _ (by decide +kernel)) ggX7_tryDoor_X7_leadsBy
set_option maxRecDepth 20000 in
theorem ggX7_tryDoor_X7_wipeOfDoor : GoodIn wsX7_tryDoor wsX7_wipeOfDoor := goodIn_r _ [34, 1, 35, 36, 37, 4, 38, 39, 40, 41, 42, 43, 44, 45, 46, 47, 48, 49, 50, 51, 52, 53, 54, 55, 56, 57, 58] (by decide +kernel) (by decide +kernel)
set_option maxRecDepth 20000 in
theorem gX7_tryDoor_X7_wipeOfDoor : GoodIn wsX7_tryDoor (wsV RX7 133 RX7 yX7_wipeOfDoor wsX7_wipeOfDoor) := goodIn_app (goodIn_of _ (by decide +kernel)) ggX7_tryDoor_X7_wipeOfDoor
theorem dX7_tryDoor_0 : decode cX7_tryDoor 0 = .ok (.iload_n 1, 1) := by decide +kernel
theorem dX7_tryDoor_1 : decode cX7_tryDoor 1 = .ok (.iload_n 2, 1) := by decide +kernel
theorem dX7_tryDoor_2 : decode cX7_tryDoor 2 = .ok (.invokestatic 130, 3) := by decide +kernel
theorem dX7_tryDoor_5 : decode cX7_tryDoor 5 = .ok (.ifCond .eq 17, 3) := by decide +kernel
theorem dX7_tryDoor_8 : decode cX7_tryDoor 8 = .ok (.iload_n 3, 1) := by decide +kernel
theorem dX7_tryDoor_9 : decode cX7_tryDoor 9 = .ok (.bipush (-6), 2) := by decide +kernel
theorem dX7_tryDoor_11 : decode cX7_tryDoor 11 = .ok (.if_icmp .eq 13, 3) := by decide +kernel
theorem dX7_tryDoor_14 : decode cX7_tryDoor 14 = .ok (.aload_n 0, 1) := by decide +kernel
theorem dX7_tryDoor_15 : decode cX7_tryDoor 15 = .ok (.iload_n 3, 1) := by decide +kernel
theorem dX7_tryDoor_16 : decode cX7_tryDoor 16 = .ok (.invokevirtual 119, 3) := by decide +kernel
theorem dX7_tryDoor_19 : decode cX7_tryDoor 19 = .ok (.ifCond .ne 5, 3) := by decide +kernel
theorem dX7_tryDoor_22 : decode cX7_tryDoor 22 = .ok (.iconst (-1), 1) := by decide +kernel
theorem dX7_tryDoor_23 : decode cX7_tryDoor 23 = .ok (.ireturn, 1) := by decide +kernel
theorem dX7_tryDoor_24 : decode cX7_tryDoor 24 = .ok (.aload_n 0, 1) := by decide +kernel
theorem dX7_tryDoor_25 : decode cX7_tryDoor 25 = .ok (.iload 4, 2) := by decide +kernel
theorem dX7_tryDoor_27 : decode cX7_tryDoor 27 = .ok (.invokevirtual 93, 3) := by decide +kernel
theorem dX7_tryDoor_30 : decode cX7_tryDoor 30 = .ok (.aload_n 0, 1) := by decide +kernel
theorem dX7_tryDoor_31 : decode cX7_tryDoor 31 = .ok (.iload_n 1, 1) := by decide +kernel
theorem dX7_tryDoor_32 : decode cX7_tryDoor 32 = .ok (.iload_n 2, 1) := by decide +kernel
theorem dX7_tryDoor_33 : decode cX7_tryDoor 33 = .ok (.invokevirtual 63, 3) := by decide +kernel
theorem dX7_tryDoor_36 : decode cX7_tryDoor 36 = .ok (.iload_n 3, 1) := by decide +kernel
theorem dX7_tryDoor_37 : decode cX7_tryDoor 37 = .ok (.if_icmp .ne 5, 3) := by decide +kernel
theorem dX7_tryDoor_40 : decode cX7_tryDoor 40 = .ok (.iconst 0, 1) := by decide +kernel
theorem dX7_tryDoor_41 : decode cX7_tryDoor 41 = .ok (.ireturn, 1) := by decide +kernel
theorem dX7_tryDoor_42 : decode cX7_tryDoor 42 = .ok (.aload_n 0, 1) := by decide +kernel
theorem dX7_tryDoor_43 : decode cX7_tryDoor 43 = .ok (.getfield 7, 3) := by decide +kernel
theorem dX7_tryDoor_46 : decode cX7_tryDoor 46 = .ok (.bipush 16, 2) := by decide +kernel
theorem dX7_tryDoor_48 : decode cX7_tryDoor 48 = .ok (.bipush 10, 2) := by decide +kernel
theorem dX7_tryDoor_50 : decode cX7_tryDoor 50 = .ok (.iload_n 1, 1) := by decide +kernel
theorem dX7_tryDoor_51 : decode cX7_tryDoor 51 = .ok (.imul, 1) := by decide +kernel
theorem dX7_tryDoor_52 : decode cX7_tryDoor 52 = .ok (.iadd, 1) := by decide +kernel
theorem dX7_tryDoor_53 : decode cX7_tryDoor 53 = .ok (.iload_n 2, 1) := by decide +kernel
theorem dX7_tryDoor_54 : decode cX7_tryDoor 54 = .ok (.iadd, 1) := by decide +kernel
theorem dX7_tryDoor_55 : decode cX7_tryDoor 55 = .ok (.iload_n 3, 1) := by decide +kernel
theorem dX7_tryDoor_56 : decode cX7_tryDoor 56 = .ok (.iastore, 1) := by decide +kernel
theorem dX7_tryDoor_57 : decode cX7_tryDoor 57 = .ok (.aload_n 0, 1) := by decide +kernel
theorem dX7_tryDoor_58 : decode cX7_tryDoor 58 = .ok (.iload_n 1, 1) := by decide +kernel
theorem dX7_tryDoor_59 : decode cX7_tryDoor 59 = .ok (.iload_n 2, 1) := by decide +kernel
theorem dX7_tryDoor_60 : decode cX7_tryDoor 60 = .ok (.invokevirtual 133, 3) := by decide +kernel
theorem dX7_tryDoor_63 : decode cX7_tryDoor 63 = .ok (.ireturn, 1) := by decide +kernel
set_option maxRecDepth 20000 in
theorem ggX7_door_X7_tryDoor : GoodIn wsX7_door wsX7_tryDoor := goodIn_r _ [5, 6, 7, 8, 4, 9, 10, 11, 12, 13, 14, 15, 16, 17, 18, 19, 20, 21, 22, 23, 24, 25, 26, 27, 28, 29, 30, 31, 32, 33, 34, 35, 36, 37, 38, 39, 40, 41, 42, 43, 44, 45, 46, 47, 48, 49, 50, 51, 52, 53, 54, 55, 56, 57, 58, 59, 60, 61, 62] (by decide +kernel) (by decide +kernel)
set_option maxRecDepth 20000 in
theorem gX7_door_X7_tryDoor : GoodIn wsX7_door (wsV RX7 136 RX7 yX7_tryDoor wsX7_tryDoor) := goodIn_app (goodIn_of _ (by decide +kernel)) ggX7_door_X7_tryDoor
theorem dX7_door_0 : decode cX7_door 0 = .ok (.aload_n 0, 1) := by decide +kernel
theorem dX7_door_1 : decode cX7_door 1 = .ok (.iload_n 1, 1) := by decide +kernel
theorem dX7_door_2 : decode cX7_door 2 = .ok (.iload_n 2, 1) := by decide +kernel
theorem dX7_door_3 : decode cX7_door 3 = .ok (.iload_n 3, 1) := by decide +kernel
theorem dX7_door_4 : decode cX7_door 4 = .ok (.iconst 1, 1) := by decide +kernel
theorem dX7_door_5 : decode cX7_door 5 = .ok (.invokevirtual 136, 3) := by decide +kernel
theorem dX7_door_8 : decode cX7_door 8 = .ok (.ireturn, 1) := by decide +kernel
set_option maxRecDepth 20000 in
theorem ggX7_enter_X7_wipeAll : GoodIn wsX7_enter wsX7_wipeAll := goodIn_r _ [6, 1, 7, 8, 9, 10, 11, 12, 13, 14, 15, 16, 17, 18, 19, 20, 21, 22] (by decide +kernel) (by decide +kernel)
set_option maxRecDepth 20000 in
theorem gX7_enter_X7_wipeAll : GoodIn wsX7_enter (wsV RX7 139 RX7 yX7_wipeAll wsX7_wipeAll) := goodIn_app (goodIn_of _ (by decide +kernel)) ggX7_enter_X7_wipeAll
theorem dX7_enter_0 : decode cX7_enter 0 = .ok (.aload_n 0, 1) := by decide +kernel
theorem dX7_enter_1 : decode cX7_enter 1 = .ok (.getfield 7, 3) := by decide +kernel
theorem dX7_enter_4 : decode cX7_enter 4 = .ok (.bipush 77, 2) := by decide +kernel
theorem dX7_enter_6 : decode cX7_enter 6 = .ok (.iaload, 1) := by decide +kernel
theorem dX7_enter_7 : decode cX7_enter 7 = .ok (.iload_n 1, 1) := by decide +kernel
theorem dX7_enter_8 : decode cX7_enter 8 = .ok (.if_icmp .eq 25, 3) := by decide +kernel
theorem dX7_enter_11 : decode cX7_enter 11 = .ok (.aload_n 0, 1) := by decide +kernel
theorem dX7_enter_12 : decode cX7_enter 12 = .ok (.getfield 7, 3) := by decide +kernel
theorem dX7_enter_15 : decode cX7_enter 15 = .ok (.bipush 77, 2) := by decide +kernel
theorem dX7_enter_17 : decode cX7_enter 17 = .ok (.iload_n 1, 1) := by decide +kernel
theorem dX7_enter_18 : decode cX7_enter 18 = .ok (.iastore, 1) := by decide +kernel
theorem dX7_enter_19 : decode cX7_enter 19 = .ok (.aload_n 0, 1) := by decide +kernel
theorem dX7_enter_20 : decode cX7_enter 20 = .ok (.getfield 7, 3) := by decide +kernel
theorem dX7_enter_23 : decode cX7_enter 23 = .ok (.iconst 1, 1) := by decide +kernel
theorem dX7_enter_24 : decode cX7_enter 24 = .ok (.iaload, 1) := by decide +kernel
theorem dX7_enter_25 : decode cX7_enter 25 = .ok (.ifCond .ne 8, 3) := by decide +kernel
theorem dX7_enter_28 : decode cX7_enter 28 = .ok (.aload_n 0, 1) := by decide +kernel
theorem dX7_enter_29 : decode cX7_enter 29 = .ok (.invokevirtual 139, 3) := by decide +kernel
theorem dX7_enter_32 : decode cX7_enter 32 = .ok (.pop, 1) := by decide +kernel
theorem dX7_enter_33 : decode cX7_enter 33 = .ok (.return_, 1) := by decide +kernel
set_option maxRecDepth 20000 in
theorem ggX7_seeByNote_X7_ofNote : GoodIn wsX7_seeByNote wsX7_ofNote := goodIn_r _ [6, 1, 15, 16, 17, 18, 19, 20, 21, 22, 23, 24, 25, 26, 27, 28, 29, 30] (by decide +kernel) (by decide +kernel)
set_option maxRecDepth 20000 in
theorem gX7_seeByNote_X7_ofNote : GoodIn wsX7_seeByNote (wsV RX7 73 RX7 yX7_ofNote wsX7_ofNote) := goodIn_app (goodIn_of _ (by decide +kernel)) ggX7_seeByNote_X7_ofNote
set_option maxRecDepth 20000 in
theorem ggX7_seeByNote_X7_takeNote : GoodIn wsX7_seeByNote wsX7_takeNote := goodIn_r _ [10, 1, 15, 16, 17, 18, 19, 20, 21, 22, 23, 24, 25, 26, 27, 28, 29, 30] (by decide +kernel) (by decide +kernel)
set_option maxRecDepth 20000 in
theorem gX7_seeByNote_X7_takeNote : GoodIn wsX7_seeByNote (wsV RX7 76 RX7 yX7_takeNote wsX7_takeNote) := goodIn_app (goodIn_of _ (by decide +kernel)) ggX7_seeByNote_X7_takeNote
set_option maxRecDepth 20000 in
theorem ggX7_seeByNote_X7_putNote : GoodIn wsX7_seeByNote wsX7_putNote := goodIn_r _ [14, 1, 15, 16, 17, 18, 19, 20, 21, 22, 23, 24, 25, 26, 27, 28, 29, 30] (by decide +kernel) (by decide +kernel)
set_option maxRecDepth 20000 in
theorem gX7_seeByNote_X7_putNote : GoodIn wsX7_seeByNote (wsV RX7 143 RX7 yX7_putNote wsX7_putNote) := goodIn_app (goodIn_of _ (by decide +kernel)) ggX7_seeByNote_X7_putNote
theorem dX7_seeByNote_0 : decode cX7_seeByNote 0 = .ok (.aload_n 0, 1) := by decide +kernel
theorem dX7_seeByNote_1 : decode cX7_seeByNote 1 = .ok (.iload_n 1, 1) := by decide +kernel
theorem dX7_seeByNote_2 : decode cX7_seeByNote 2 = .ok (.iconst 0, 1) := by decide +kernel
theorem dX7_seeByNote_3 : decode cX7_seeByNote 3 = .ok (.invokevirtual 73, 3) := by decide +kernel
theorem dX7_seeByNote_6 : decode cX7_seeByNote 6 = .ok (.istore_n 2, 1) := by decide +kernel
theorem dX7_seeByNote_7 : decode cX7_seeByNote 7 = .ok (.aload_n 0, 1) := by decide +kernel
theorem dX7_seeByNote_8 : decode cX7_seeByNote 8 = .ok (.iload_n 1, 1) := by decide +kernel
theorem dX7_seeByNote_9 : decode cX7_seeByNote 9 = .ok (.iconst 1, 1) := by decide +kernel
theorem dX7_seeByNote_10 : decode cX7_seeByNote 10 = .ok (.invokevirtual 73, 3) := by decide +kernel
theorem dX7_seeByNote_13 : decode cX7_seeByNote 13 = .ok (.istore_n 3, 1) := by decide +kernel
theorem dX7_seeByNote_14 : decode cX7_seeByNote 14 = .ok (.aload_n 0, 1) := by decide +kernel
theorem dX7_seeByNote_15 : decode cX7_seeByNote 15 = .ok (.iload_n 1, 1) := by decide +kernel
theorem dX7_seeByNote_16 : decode cX7_seeByNote 16 = .ok (.iconst 2, 1) := by decide +kernel
theorem dX7_seeByNote_17 : decode cX7_seeByNote 17 = .ok (.invokevirtual 73, 3) := by decide +kernel
theorem dX7_seeByNote_20 : decode cX7_seeByNote 20 = .ok (.istore 4, 2) := by decide +kernel
theorem dX7_seeByNote_22 : decode cX7_seeByNote 22 = .ok (.aload_n 0, 1) := by decide +kernel
theorem dX7_seeByNote_23 : decode cX7_seeByNote 23 = .ok (.iload_n 1, 1) := by decide +kernel
theorem dX7_seeByNote_24 : decode cX7_seeByNote 24 = .ok (.iconst 3, 1) := by decide +kernel
theorem dX7_seeByNote_25 : decode cX7_seeByNote 25 = .ok (.invokevirtual 73, 3) := by decide +kernel
theorem dX7_seeByNote_28 : decode cX7_seeByNote 28 = .ok (.istore 5, 2) := by decide +kernel
theorem dX7_seeByNote_30 : decode cX7_seeByNote 30 = .ok (.aload_n 0, 1) := by decide +kernel
theorem dX7_seeByNote_31 : decode cX7_seeByNote 31 = .ok (.getfield 7, 3) := by decide +kernel
theorem dX7_seeByNote_34 : decode cX7_seeByNote 34 = .ok (.bipush 79, 2) := by decide +kernel
theorem dX7_seeByNote_36 : decode cX7_seeByNote 36 = .ok (.dup2, 1) := by decide +kernel
theorem dX7_seeByNote_37 : decode cX7_seeByNote 37 = .ok (.iaload, 1) := by decide +kernel
theorem dX7_seeByNote_38 : decode cX7_seeByNote 38 = .ok (.iconst 1, 1) := by decide +kernel
theorem dX7_seeByNote_39 : decode cX7_seeByNote 39 = .ok (.iadd, 1) := by decide +kernel
theorem dX7_seeByNote_40 : decode cX7_seeByNote 40 = .ok (.iastore, 1) := by decide +kernel
theorem dX7_seeByNote_41 : decode cX7_seeByNote 41 = .ok (.aload_n 0, 1) := by decide +kernel
theorem dX7_seeByNote_42 : decode cX7_seeByNote 42 = .ok (.getfield 7, 3) := by decide +kernel
theorem dX7_seeByNote_45 : decode cX7_seeByNote 45 = .ok (.bipush 80, 2) := by decide +kernel
theorem dX7_seeByNote_47 : decode cX7_seeByNote 47 = .ok (.dup2, 1) := by decide +kernel
theorem dX7_seeByNote_48 : decode cX7_seeByNote 48 = .ok (.iaload, 1) := by decide +kernel
theorem dX7_seeByNote_49 : decode cX7_seeByNote 49 = .ok (.iconst 1, 1) := by decide +kernel
theorem dX7_seeByNote_50 : decode cX7_seeByNote 50 = .ok (.iadd, 1) := by decide +kernel
theorem dX7_seeByNote_51 : decode cX7_seeByNote 51 = .ok (.iastore, 1) := by decide +kernel
theorem dX7_seeByNote_52 : decode cX7_seeByNote 52 = .ok (.aload_n 0, 1) := by decide +kernel
theorem dX7_seeByNote_53 : decode cX7_seeByNote 53 = .ok (.getfield 7, 3) := by decide +kernel
theorem dX7_seeByNote_56 : decode cX7_seeByNote 56 = .ok (.bipush 83, 2) := by decide +kernel
theorem dX7_seeByNote_58 : decode cX7_seeByNote 58 = .ok (.dup2, 1) := by decide +kernel
theorem dX7_seeByNote_59 : decode cX7_seeByNote 59 = .ok (.iaload, 1) := by decide +kernel
theorem dX7_seeByNote_60 : decode cX7_seeByNote 60 = .ok (.iconst 1, 1) := by decide +kernel
theorem dX7_seeByNote_61 : decode cX7_seeByNote 61 = .ok (.iadd, 1) := by decide +kernel
theorem dX7_seeByNote_62 : decode cX7_seeByNote 62 = .ok (.iastore, 1) := by decide +kernel
theorem dX7_seeByNote_63 : decode cX7_seeByNote 63 = .ok (.aload_n 0, 1) := by decide +kernel
theorem dX7_seeByNote_64 : decode cX7_seeByNote 64 = .ok (.getfield 7, 3) := by decide +kernel
theorem dX7_seeByNote_67 : decode cX7_seeByNote 67 = .ok (.iconst 3, 1) := by decide +kernel
theorem dX7_seeByNote_68 : decode cX7_seeByNote 68 = .ok (.iaload, 1) := by decide +kernel
theorem dX7_seeByNote_69 : decode cX7_seeByNote 69 = .ok (.iconst 1, 1) := by decide +kernel
theorem dX7_seeByNote_70 : decode cX7_seeByNote 70 = .ok (.if_icmp .ne 18, 3) := by decide +kernel
theorem dX7_seeByNote_73 : decode cX7_seeByNote 73 = .ok (.aload_n 0, 1) := by decide +kernel
theorem dX7_seeByNote_74 : decode cX7_seeByNote 74 = .ok (.iload_n 1, 1) := by decide +kernel
theorem dX7_seeByNote_75 : decode cX7_seeByNote 75 = .ok (.invokevirtual 76, 3) := by decide +kernel
theorem dX7_seeByNote_78 : decode cX7_seeByNote 78 = .ok (.aload_n 0, 1) := by decide +kernel
theorem dX7_seeByNote_79 : decode cX7_seeByNote 79 = .ok (.iload_n 2, 1) := by decide +kernel
theorem dX7_seeByNote_80 : decode cX7_seeByNote 80 = .ok (.iload_n 3, 1) := by decide +kernel
theorem dX7_seeByNote_81 : decode cX7_seeByNote 81 = .ok (.iload 4, 2) := by decide +kernel
theorem dX7_seeByNote_83 : decode cX7_seeByNote 83 = .ok (.iload 5, 2) := by decide +kernel
theorem dX7_seeByNote_85 : decode cX7_seeByNote 85 = .ok (.invokevirtual 143, 3) := by decide +kernel
theorem dX7_seeByNote_88 : decode cX7_seeByNote 88 = .ok (.iconst 0, 1) := by decide +kernel
theorem dX7_seeByNote_89 : decode cX7_seeByNote 89 = .ok (.ireturn, 1) := by decide +kernel
set_option maxRecDepth 20000 in
theorem ggX7_tryCome_X7_isDoor : GoodIn wsX7_tryCome wsX7_isDoor := goodIn_r _ [6, 7, 8, 5, 9, 10, 11, 12] (by decide +kernel) (by decide +kernel)
set_option maxRecDepth 20000 in
theorem gX7_tryCome_X7_isDoor : GoodIn wsX7_tryCome (va_wsS RX7 130 yX7_isDoor wsX7_isDoor) := goodIn_app (goodIn_of _ (by decide +kernel)) ggX7_tryCome_X7_isDoor
set_option maxRecDepth 20000 in
theorem ggX7_tryCome_X7_keepIf : GoodIn wsX7_tryCome wsX7_keepIf := goodIn_r _ [16, 17, 18, 19, 5, 20, 21, 22, 23, 1, 76, 77, 78, 79, 80, 81, 82, 83, 84, 85, 86, 87, 88, 89, 90, 91] (by decide +kernel) (by decide +kernel)
set_option maxRecDepth 20000 in
theorem gX7_tryCome_X7_keepIf : GoodIn wsX7_tryCome (wsV RX7 93 RX7 yX7_keepIf wsX7_keepIf) := goodIn_app (goodIn_of _ (by decide +kernel)) ggX7_tryCome_X7_keepIf
set_option maxRecDepth 20000 in
theorem ggX7_tryCome_X7_enter : GoodIn wsX7_tryCome wsX7_enter := goodIn_r _ [27, 1, 28, 29, 30, 5, 31, 76, 77, 78, 79, 80, 81, 82, 83, 84, 85, 86, 87, 88, 89, 90, 91] (by decide +kernel) (by decide +kernel)
set_option maxRecDepth 20000 in
theorem gX7_tryCome_X7_enter : GoodIn wsX7_tryCome (wsV RX7 147 RX7 yX7_enter wsX7_enter) := goodIn_app (goodIn_of _ (by decide +kernel)) ggX7_tryCome_X7_enter
set_option maxRecDepth 20000 in
theorem ggX7_tryCome_X7_findNote : GoodIn wsX7_tryCome wsX7_findNote := goodIn_r _ [35, 1, 36, 37, 38, 5, 39, 76, 77, 78, 79, 80, 81, 82, 83, 84, 85, 86, 87, 88, 89, 90, 91] (by decide +kernel) (by decide +kernel)
set_option maxRecDepth 20000 in
theorem gX7_tryCome_X7_findNote : GoodIn wsX7_tryCome (wsV RX7 150 RX7 yX7_findNote wsX7_findNote) := goodIn_app (goodIn_of _ (by decide +kernel)) ggX7_tryCome_X7_findNote
set_option maxRecDepth 20000 in
theorem ggX7_tryCome_X7_seeByNote : GoodIn wsX7_tryCome wsX7_seeByNote := goodIn_r _ [43, 1, 36, 37, 38, 5, 39, 44, 45, 46, 47, 48, 49, 50, 51, 76, 77, 78, 79, 80, 81, 82, 83, 84, 85, 86, 87, 88, 89, 90, 91] (by decide +kernel) (by decide +kernel)
set_option maxRecDepth 20000 in
theorem gX7_tryCome_X7_seeByNote : GoodIn wsX7_tryCome (wsV RX7 154 RX7 yX7_seeByNote wsX7_seeByNote) := goodIn_app (goodIn_of _ (by decide +kernel)) ggX7_tryCome_X7_seeByNote
set_option maxRecDepth 20000 in
theorem ggX7_tryCome_X7_reasonOf : GoodIn wsX7_tryCome wsX7_reasonOf := goodIn_r _ [55, 2, 56, 57, 58, 5, 59, 1, 60, 61, 62, 63, 64, 65, 66, 67, 68, 69, 70, 71, 76, 77, 78, 79, 80, 81, 82, 83, 84, 85, 86, 87, 88, 89, 90, 91] (by decide +kernel) (by decide +kernel)
set_option maxRecDepth 20000 in
theorem gX7_tryCome_X7_reasonOf : GoodIn wsX7_tryCome (wsV RX7 157 RX7 yX7_reasonOf wsX7_reasonOf) := goodIn_app (goodIn_of _ (by decide +kernel)) ggX7_tryCome_X7_reasonOf
set_option maxRecDepth 20000 in
theorem ggX7_tryCome_X7_leadsBy : GoodIn wsX7_tryCome wsX7_leadsBy := goodIn_r _ [59, 1, 76, 77, 78, 79, 80, 81, 82, 83, 84, 85, 86, 87, 88, 89, 90, 91] (by decide +kernel) (by decide +kernel)
set_option maxRecDepth 20000 in
theorem gX7_tryCome_X7_leadsBy : GoodIn wsX7_tryCome (wsV RX7 63 RX7 yX7_leadsBy wsX7_leadsBy) := goodIn_app (goodIn_of _ (by decide +kernel)) ggX7_tryCome_X7_leadsBy
set_option maxRecDepth 20000 in
theorem ggX7_tryCome_X7_of : GoodIn wsX7_tryCome wsX7_of := goodIn_r _ [67, 1, 76, 77, 78, 79, 80, 81, 82, 83, 84, 85, 86, 87, 88, 89, 90, 91] (by decide +kernel) (by decide +kernel)
set_option maxRecDepth 20000 in
theorem gX7_tryCome_X7_of : GoodIn wsX7_tryCome (wsV RX7 56 RX7 yX7_of wsX7_of) := goodIn_app (goodIn_of _ (by decide +kernel)) ggX7_tryCome_X7_of
set_option maxRecDepth 20000 in
theorem ggX7_tryCome_X7_putNote : GoodIn wsX7_tryCome wsX7_putNote := goodIn_r _ [51, 1, 76, 77, 78, 79, 80, 81, 82, 83, 84, 85, 86, 87, 88, 89, 90, 91] (by decide +kernel) (by decide +kernel)
set_option maxRecDepth 20000 in
theorem gX7_tryCome_X7_putNote : GoodIn wsX7_tryCome (wsV RX7 143 RX7 yX7_putNote wsX7_putNote) := goodIn_app (goodIn_of _ (by decide +kernel)) ggX7_tryCome_X7_putNote
set_option maxRecDepth 20000 in
theorem ggX7_tryCome_X7_dropOver : GoodIn wsX7_tryCome wsX7_dropOver := goodIn_r _ [75, 1, 44, 45, 46, 5, 47, 76, 77, 78, 79, 80, 81, 82, 83, 84, 85, 86, 87, 88, 89, 90, 91] (by decide +kernel) (by decide +kernel)
set_option maxRecDepth 20000 in
theorem gX7_tryCome_X7_dropOver : GoodIn wsX7_tryCome (wsV RX7 87 RX7 yX7_dropOver wsX7_dropOver) := goodIn_app (goodIn_of _ (by decide +kernel)) ggX7_tryCome_X7_dropOver
theorem dX7_tryCome_0 : decode cX7_tryCome 0 = .ok (.iload_n 1, 1) := by decide +kernel
theorem dX7_tryCome_1 : decode cX7_tryCome 1 = .ok (.iload_n 2, 1) := by decide +kernel
theorem dX7_tryCome_2 : decode cX7_tryCome 2 = .ok (.invokestatic 130, 3) := by decide +kernel
theorem dX7_tryCome_5 : decode cX7_tryCome 5 = .ok (.ifCond .ne 5, 3) := by decide +kernel
theorem dX7_tryCome_8 : decode cX7_tryCome 8 = .ok (.iconst (-1), 1) := by decide +kernel
theorem dX7_tryCome_9 : decode cX7_tryCome 9 = .ok (.ireturn, 1) := by decide +kernel
theorem dX7_tryCome_10 : decode cX7_tryCome 10 = .ok (.iload_n 3, 1) := by decide +kernel
theorem dX7_tryCome_11 : decode cX7_tryCome 11 = .ok (.iconst 1, 1) := by decide +kernel
theorem dX7_tryCome_12 : decode cX7_tryCome 12 = .ok (.if_icmp .eq 11, 3) := by decide +kernel
theorem dX7_tryCome_15 : decode cX7_tryCome 15 = .ok (.iload_n 3, 1) := by decide +kernel
theorem dX7_tryCome_16 : decode cX7_tryCome 16 = .ok (.iconst 2, 1) := by decide +kernel
theorem dX7_tryCome_17 : decode cX7_tryCome 17 = .ok (.if_icmp .eq 6, 3) := by decide +kernel
theorem dX7_tryCome_20 : decode cX7_tryCome 20 = .ok (.bipush (-2), 2) := by decide +kernel
theorem dX7_tryCome_22 : decode cX7_tryCome 22 = .ok (.ireturn, 1) := by decide +kernel
theorem dX7_tryCome_23 : decode cX7_tryCome 23 = .ok (.aload_n 0, 1) := by decide +kernel
theorem dX7_tryCome_24 : decode cX7_tryCome 24 = .ok (.iload 4, 2) := by decide +kernel
theorem dX7_tryCome_26 : decode cX7_tryCome 26 = .ok (.invokevirtual 93, 3) := by decide +kernel
theorem dX7_tryCome_29 : decode cX7_tryCome 29 = .ok (.aload_n 0, 1) := by decide +kernel
theorem dX7_tryCome_30 : decode cX7_tryCome 30 = .ok (.getfield 7, 3) := by decide +kernel
theorem dX7_tryCome_33 : decode cX7_tryCome 33 = .ok (.bipush 78, 2) := by decide +kernel
theorem dX7_tryCome_35 : decode cX7_tryCome 35 = .ok (.dup2, 1) := by decide +kernel
theorem dX7_tryCome_36 : decode cX7_tryCome 36 = .ok (.iaload, 1) := by decide +kernel
theorem dX7_tryCome_37 : decode cX7_tryCome 37 = .ok (.iconst 1, 1) := by decide +kernel
theorem dX7_tryCome_38 : decode cX7_tryCome 38 = .ok (.iadd, 1) := by decide +kernel
theorem dX7_tryCome_39 : decode cX7_tryCome 39 = .ok (.iastore, 1) := by decide +kernel
theorem dX7_tryCome_40 : decode cX7_tryCome 40 = .ok (.aload_n 0, 1) := by decide +kernel
theorem dX7_tryCome_41 : decode cX7_tryCome 41 = .ok (.iload_n 1, 1) := by decide +kernel
theorem dX7_tryCome_42 : decode cX7_tryCome 42 = .ok (.invokevirtual 147, 3) := by decide +kernel
theorem dX7_tryCome_45 : decode cX7_tryCome 45 = .ok (.aload_n 0, 1) := by decide +kernel
theorem dX7_tryCome_46 : decode cX7_tryCome 46 = .ok (.iload_n 1, 1) := by decide +kernel
theorem dX7_tryCome_47 : decode cX7_tryCome 47 = .ok (.iload_n 2, 1) := by decide +kernel
theorem dX7_tryCome_48 : decode cX7_tryCome 48 = .ok (.iload_n 3, 1) := by decide +kernel
theorem dX7_tryCome_49 : decode cX7_tryCome 49 = .ok (.invokevirtual 150, 3) := by decide +kernel
theorem dX7_tryCome_52 : decode cX7_tryCome 52 = .ok (.istore 5, 2) := by decide +kernel
theorem dX7_tryCome_54 : decode cX7_tryCome 54 = .ok (.iload 5, 2) := by decide +kernel
theorem dX7_tryCome_56 : decode cX7_tryCome 56 = .ok (.ifCond .lt 10, 3) := by decide +kernel
theorem dX7_tryCome_59 : decode cX7_tryCome 59 = .ok (.aload_n 0, 1) := by decide +kernel
theorem dX7_tryCome_60 : decode cX7_tryCome 60 = .ok (.iload 5, 2) := by decide +kernel
theorem dX7_tryCome_62 : decode cX7_tryCome 62 = .ok (.invokevirtual 154, 3) := by decide +kernel
theorem dX7_tryCome_65 : decode cX7_tryCome 65 = .ok (.ireturn, 1) := by decide +kernel
theorem dX7_tryCome_66 : decode cX7_tryCome 66 = .ok (.aload_n 0, 1) := by decide +kernel
theorem dX7_tryCome_67 : decode cX7_tryCome 67 = .ok (.iload_n 1, 1) := by decide +kernel
theorem dX7_tryCome_68 : decode cX7_tryCome 68 = .ok (.iload_n 2, 1) := by decide +kernel
theorem dX7_tryCome_69 : decode cX7_tryCome 69 = .ok (.iload_n 3, 1) := by decide +kernel
theorem dX7_tryCome_70 : decode cX7_tryCome 70 = .ok (.invokevirtual 157, 3) := by decide +kernel
theorem dX7_tryCome_73 : decode cX7_tryCome 73 = .ok (.istore 6, 2) := by decide +kernel
theorem dX7_tryCome_75 : decode cX7_tryCome 75 = .ok (.aload_n 0, 1) := by decide +kernel
theorem dX7_tryCome_76 : decode cX7_tryCome 76 = .ok (.getfield 7, 3) := by decide +kernel
theorem dX7_tryCome_79 : decode cX7_tryCome 79 = .ok (.bipush 80, 2) := by decide +kernel
theorem dX7_tryCome_81 : decode cX7_tryCome 81 = .ok (.dup2, 1) := by decide +kernel
theorem dX7_tryCome_82 : decode cX7_tryCome 82 = .ok (.iaload, 1) := by decide +kernel
theorem dX7_tryCome_83 : decode cX7_tryCome 83 = .ok (.aload_n 0, 1) := by decide +kernel
theorem dX7_tryCome_84 : decode cX7_tryCome 84 = .ok (.getfield 66, 3) := by decide +kernel
theorem dX7_tryCome_87 : decode cX7_tryCome 87 = .ok (.iadd, 1) := by decide +kernel
theorem dX7_tryCome_88 : decode cX7_tryCome 88 = .ok (.iastore, 1) := by decide +kernel
theorem dX7_tryCome_89 : decode cX7_tryCome 89 = .ok (.aload_n 0, 1) := by decide +kernel
theorem dX7_tryCome_90 : decode cX7_tryCome 90 = .ok (.getfield 7, 3) := by decide +kernel
theorem dX7_tryCome_93 : decode cX7_tryCome 93 = .ok (.bipush 83, 2) := by decide +kernel
theorem dX7_tryCome_95 : decode cX7_tryCome 95 = .ok (.iload 6, 2) := by decide +kernel
theorem dX7_tryCome_97 : decode cX7_tryCome 97 = .ok (.iadd, 1) := by decide +kernel
theorem dX7_tryCome_98 : decode cX7_tryCome 98 = .ok (.dup2, 1) := by decide +kernel
theorem dX7_tryCome_99 : decode cX7_tryCome 99 = .ok (.iaload, 1) := by decide +kernel
theorem dX7_tryCome_100 : decode cX7_tryCome 100 = .ok (.iconst 1, 1) := by decide +kernel
theorem dX7_tryCome_101 : decode cX7_tryCome 101 = .ok (.iadd, 1) := by decide +kernel
theorem dX7_tryCome_102 : decode cX7_tryCome 102 = .ok (.iastore, 1) := by decide +kernel
theorem dX7_tryCome_103 : decode cX7_tryCome 103 = .ok (.iload 6, 2) := by decide +kernel
theorem dX7_tryCome_105 : decode cX7_tryCome 105 = .ok (.ifCond .ne 25, 3) := by decide +kernel
theorem dX7_tryCome_108 : decode cX7_tryCome 108 = .ok (.aload_n 0, 1) := by decide +kernel
theorem dX7_tryCome_109 : decode cX7_tryCome 109 = .ok (.iload_n 1, 1) := by decide +kernel
theorem dX7_tryCome_110 : decode cX7_tryCome 110 = .ok (.iload_n 2, 1) := by decide +kernel
theorem dX7_tryCome_111 : decode cX7_tryCome 111 = .ok (.iload_n 3, 1) := by decide +kernel
theorem dX7_tryCome_112 : decode cX7_tryCome 112 = .ok (.aload_n 0, 1) := by decide +kernel
theorem dX7_tryCome_113 : decode cX7_tryCome 113 = .ok (.aload_n 0, 1) := by decide +kernel
theorem dX7_tryCome_114 : decode cX7_tryCome 114 = .ok (.iload_n 1, 1) := by decide +kernel
theorem dX7_tryCome_115 : decode cX7_tryCome 115 = .ok (.iload_n 2, 1) := by decide +kernel
theorem dX7_tryCome_116 : decode cX7_tryCome 116 = .ok (.invokevirtual 63, 3) := by decide +kernel
theorem dX7_tryCome_119 : decode cX7_tryCome 119 = .ok (.iconst 0, 1) := by decide +kernel
theorem dX7_tryCome_120 : decode cX7_tryCome 120 = .ok (.invokevirtual 56, 3) := by decide +kernel
theorem dX7_tryCome_123 : decode cX7_tryCome 123 = .ok (.invokevirtual 143, 3) := by decide +kernel
theorem dX7_tryCome_126 : decode cX7_tryCome 126 = .ok (.aload_n 0, 1) := by decide +kernel
theorem dX7_tryCome_127 : decode cX7_tryCome 127 = .ok (.invokevirtual 87, 3) := by decide +kernel
theorem dX7_tryCome_130 : decode cX7_tryCome 130 = .ok (.iload 6, 2) := by decide +kernel
theorem dX7_tryCome_132 : decode cX7_tryCome 132 = .ok (.ireturn, 1) := by decide +kernel
set_option maxRecDepth 20000 in
theorem ggX7_come_X7_tryCome : GoodIn wsX7_come wsX7_tryCome := goodIn_r _ [5, 6, 7, 8, 9, 4, 10, 11, 12, 13, 14, 15, 16, 17, 18, 19, 20, 21, 22, 23, 24, 25, 26, 27, 28, 29, 30, 31, 32, 33, 34, 35, 36, 37, 38, 39, 40, 41, 42, 43, 44, 45, 46, 47, 48, 49, 50, 51, 52, 53, 54, 55, 56, 57, 58, 59, 60, 61, 62, 63, 64, 65, 66, 67, 68, 69, 70, 71, 72, 73, 74, 75, 76, 77, 78, 79, 80, 81, 82, 83, 84, 85, 86, 87, 88, 89, 90, 91, 92, 93, 94, 95] (by decide +kernel) (by decide +kernel)
set_option maxRecDepth 20000 in
theorem gX7_come_X7_tryCome : GoodIn wsX7_come (wsV RX7 160 RX7 yX7_tryCome wsX7_tryCome) := goodIn_app (goodIn_of _ (by decide +kernel)) ggX7_come_X7_tryCome
theorem dX7_come_0 : decode cX7_come 0 = .ok (.aload_n 0, 1) := by decide +kernel
theorem dX7_come_1 : decode cX7_come 1 = .ok (.iload_n 1, 1) := by decide +kernel
theorem dX7_come_2 : decode cX7_come 2 = .ok (.iload_n 2, 1) := by decide +kernel
theorem dX7_come_3 : decode cX7_come 3 = .ok (.iload_n 3, 1) := by decide +kernel
theorem dX7_come_4 : decode cX7_come 4 = .ok (.iconst 1, 1) := by decide +kernel
theorem dX7_come_5 : decode cX7_come 5 = .ok (.invokevirtual 160, 3) := by decide +kernel
theorem dX7_come_8 : decode cX7_come 8 = .ok (.ireturn, 1) := by decide +kernel
set_option maxRecDepth 20000 in
theorem ggX7_flush_X7_keep : GoodIn wsX7_flush wsX7_keep := goodIn_r _ [5, 6, 7, 8, 9, 14, 15, 16, 17, 18, 19, 20, 21, 22, 23, 24, 25, 26, 27, 28, 29] (by decide +kernel) (by decide +kernel)
set_option maxRecDepth 20000 in
theorem gX7_flush_X7_keep : GoodIn wsX7_flush (wsV RX7 53 RX7 yX7_keep wsX7_keep) := goodIn_app (goodIn_of _ (by decide +kernel)) ggX7_flush_X7_keep
set_option maxRecDepth 20000 in
theorem ggX7_flush_X7_wipeAll : GoodIn wsX7_flush wsX7_wipeAll := goodIn_r _ [13, 9, 14, 15, 16, 17, 18, 19, 20, 21, 22, 23, 24, 25, 26, 27, 28, 29] (by decide +kernel) (by decide +kernel)
set_option maxRecDepth 20000 in
theorem gX7_flush_X7_wipeAll : GoodIn wsX7_flush (wsV RX7 139 RX7 yX7_wipeAll wsX7_wipeAll) := goodIn_app (goodIn_of _ (by decide +kernel)) ggX7_flush_X7_wipeAll
theorem dX7_flush_0 : decode cX7_flush 0 = .ok (.aload_n 0, 1) := by decide +kernel
theorem dX7_flush_1 : decode cX7_flush 1 = .ok (.invokevirtual 53, 3) := by decide +kernel
theorem dX7_flush_4 : decode cX7_flush 4 = .ok (.aload_n 0, 1) := by decide +kernel
theorem dX7_flush_5 : decode cX7_flush 5 = .ok (.invokevirtual 139, 3) := by decide +kernel
theorem dX7_flush_8 : decode cX7_flush 8 = .ok (.ireturn, 1) := by decide +kernel
set_option maxRecDepth 20000 in
theorem ggX7_whoCan_X7_of : GoodIn wsX7_whoCan wsX7_of := goodIn_r _ [7, 1, 8, 9, 10, 11, 12, 13, 14, 15, 16, 17, 18, 19, 20, 21, 22, 23] (by decide +kernel) (by decide +kernel)
set_option maxRecDepth 20000 in
theorem gX7_whoCan_X7_of : GoodIn wsX7_whoCan (wsV RX7 56 RX7 yX7_of wsX7_of) := goodIn_app (goodIn_of _ (by decide +kernel)) ggX7_whoCan_X7_of
theorem dX7_whoCan_0 : decode cX7_whoCan 0 = .ok (.aload_n 0, 1) := by decide +kernel
theorem dX7_whoCan_1 : decode cX7_whoCan 1 = .ok (.getfield 7, 3) := by decide +kernel
theorem dX7_whoCan_4 : decode cX7_whoCan 4 = .ok (.iconst 4, 1) := by decide +kernel
theorem dX7_whoCan_5 : decode cX7_whoCan 5 = .ok (.iload_n 1, 1) := by decide +kernel
theorem dX7_whoCan_6 : decode cX7_whoCan 6 = .ok (.iadd, 1) := by decide +kernel
theorem dX7_whoCan_7 : decode cX7_whoCan 7 = .ok (.iaload, 1) := by decide +kernel
theorem dX7_whoCan_8 : decode cX7_whoCan 8 = .ok (.ifCond .ge 7, 3) := by decide +kernel
theorem dX7_whoCan_11 : decode cX7_whoCan 11 = .ok (.iconst 0, 1) := by decide +kernel
theorem dX7_whoCan_12 : decode cX7_whoCan 12 = .ok (.goto 13, 3) := by decide +kernel
theorem dX7_whoCan_15 : decode cX7_whoCan 15 = .ok (.iconst 1, 1) := by decide +kernel
theorem dX7_whoCan_16 : decode cX7_whoCan 16 = .ok (.aload_n 0, 1) := by decide +kernel
theorem dX7_whoCan_17 : decode cX7_whoCan 17 = .ok (.getfield 7, 3) := by decide +kernel
theorem dX7_whoCan_20 : decode cX7_whoCan 20 = .ok (.iconst 4, 1) := by decide +kernel
theorem dX7_whoCan_21 : decode cX7_whoCan 21 = .ok (.iload_n 1, 1) := by decide +kernel
theorem dX7_whoCan_22 : decode cX7_whoCan 22 = .ok (.iadd, 1) := by decide +kernel
theorem dX7_whoCan_23 : decode cX7_whoCan 23 = .ok (.iaload, 1) := by decide +kernel
theorem dX7_whoCan_24 : decode cX7_whoCan 24 = .ok (.ishl, 1) := by decide +kernel
theorem dX7_whoCan_25 : decode cX7_whoCan 25 = .ok (.istore_n 3, 1) := by decide +kernel
theorem dX7_whoCan_26 : decode cX7_whoCan 26 = .ok (.iconst 0, 1) := by decide +kernel
theorem dX7_whoCan_27 : decode cX7_whoCan 27 = .ok (.istore 4, 2) := by decide +kernel
theorem dX7_whoCan_29 : decode cX7_whoCan 29 = .ok (.iload 4, 2) := by decide +kernel
theorem dX7_whoCan_31 : decode cX7_whoCan 31 = .ok (.aload_n 0, 1) := by decide +kernel
theorem dX7_whoCan_32 : decode cX7_whoCan 32 = .ok (.getfield 7, 3) := by decide +kernel
theorem dX7_whoCan_35 : decode cX7_whoCan 35 = .ok (.bipush 76, 2) := by decide +kernel
theorem dX7_whoCan_37 : decode cX7_whoCan 37 = .ok (.iaload, 1) := by decide +kernel
theorem dX7_whoCan_38 : decode cX7_whoCan 38 = .ok (.if_icmp .ge 58, 3) := by decide +kernel
theorem dX7_whoCan_41 : decode cX7_whoCan 41 = .ok (.iload_n 3, 1) := by decide +kernel
theorem dX7_whoCan_42 : decode cX7_whoCan 42 = .ok (.aload_n 0, 1) := by decide +kernel
theorem dX7_whoCan_43 : decode cX7_whoCan 43 = .ok (.getfield 23, 3) := by decide +kernel
theorem dX7_whoCan_46 : decode cX7_whoCan 46 = .ok (.iload 4, 2) := by decide +kernel
theorem dX7_whoCan_48 : decode cX7_whoCan 48 = .ok (.baload, 1) := by decide +kernel
theorem dX7_whoCan_49 : decode cX7_whoCan 49 = .ok (.ifCond .eq 38, 3) := by decide +kernel
theorem dX7_whoCan_52 : decode cX7_whoCan 52 = .ok (.aload_n 0, 1) := by decide +kernel
theorem dX7_whoCan_53 : decode cX7_whoCan 53 = .ok (.iload 4, 2) := by decide +kernel
theorem dX7_whoCan_55 : decode cX7_whoCan 55 = .ok (.iconst 0, 1) := by decide +kernel
theorem dX7_whoCan_56 : decode cX7_whoCan 56 = .ok (.invokevirtual 56, 3) := by decide +kernel
theorem dX7_whoCan_59 : decode cX7_whoCan 59 = .ok (.iload_n 1, 1) := by decide +kernel
theorem dX7_whoCan_60 : decode cX7_whoCan 60 = .ok (.if_icmp .ne 27, 3) := by decide +kernel
theorem dX7_whoCan_63 : decode cX7_whoCan 63 = .ok (.aload_n 0, 1) := by decide +kernel
theorem dX7_whoCan_64 : decode cX7_whoCan 64 = .ok (.iload 4, 2) := by decide +kernel
theorem dX7_whoCan_66 : decode cX7_whoCan 66 = .ok (.iconst 3, 1) := by decide +kernel
theorem dX7_whoCan_67 : decode cX7_whoCan 67 = .ok (.invokevirtual 56, 3) := by decide +kernel
theorem dX7_whoCan_70 : decode cX7_whoCan 70 = .ok (.iload_n 2, 1) := by decide +kernel
theorem dX7_whoCan_71 : decode cX7_whoCan 71 = .ok (.iand, 1) := by decide +kernel
theorem dX7_whoCan_72 : decode cX7_whoCan 72 = .ok (.ifCond .eq 15, 3) := by decide +kernel
theorem dX7_whoCan_75 : decode cX7_whoCan 75 = .ok (.iconst 1, 1) := by decide +kernel
theorem dX7_whoCan_76 : decode cX7_whoCan 76 = .ok (.aload_n 0, 1) := by decide +kernel
theorem dX7_whoCan_77 : decode cX7_whoCan 77 = .ok (.iload 4, 2) := by decide +kernel
theorem dX7_whoCan_79 : decode cX7_whoCan 79 = .ok (.iconst 2, 1) := by decide +kernel
theorem dX7_whoCan_80 : decode cX7_whoCan 80 = .ok (.invokevirtual 56, 3) := by decide +kernel
theorem dX7_whoCan_83 : decode cX7_whoCan 83 = .ok (.ishl, 1) := by decide +kernel
theorem dX7_whoCan_84 : decode cX7_whoCan 84 = .ok (.goto 4, 3) := by decide +kernel
theorem dX7_whoCan_87 : decode cX7_whoCan 87 = .ok (.iconst 0, 1) := by decide +kernel
theorem dX7_whoCan_88 : decode cX7_whoCan 88 = .ok (.ior, 1) := by decide +kernel
theorem dX7_whoCan_89 : decode cX7_whoCan 89 = .ok (.istore_n 3, 1) := by decide +kernel
theorem dX7_whoCan_90 : decode cX7_whoCan 90 = .ok (.iinc 4 1, 3) := by decide +kernel
theorem dX7_whoCan_93 : decode cX7_whoCan 93 = .ok (.goto (-64), 3) := by decide +kernel
theorem dX7_whoCan_96 : decode cX7_whoCan 96 = .ok (.iload_n 3, 1) := by decide +kernel
theorem dX7_whoCan_97 : decode cX7_whoCan 97 = .ok (.ireturn, 1) := by decide +kernel
set_option maxRecDepth 20000 in
theorem ggX7_goodStamps_X7_of : GoodIn wsX7_goodStamps wsX7_of := goodIn_r _ [7, 1, 8, 9, 10, 11, 12, 13, 14, 15, 16, 17, 18, 19, 20, 21, 22, 23] (by decide +kernel) (by decide +kernel)
set_option maxRecDepth 20000 in
theorem gX7_goodStamps_X7_of : GoodIn wsX7_goodStamps (wsV RX7 56 RX7 yX7_of wsX7_of) := goodIn_app (goodIn_of _ (by decide +kernel)) ggX7_goodStamps_X7_of
theorem dX7_goodStamps_0 : decode cX7_goodStamps 0 = .ok (.iconst 0, 1) := by decide +kernel
theorem dX7_goodStamps_1 : decode cX7_goodStamps 1 = .ok (.istore_n 2, 1) := by decide +kernel
theorem dX7_goodStamps_2 : decode cX7_goodStamps 2 = .ok (.iconst 0, 1) := by decide +kernel
theorem dX7_goodStamps_3 : decode cX7_goodStamps 3 = .ok (.istore_n 3, 1) := by decide +kernel
theorem dX7_goodStamps_4 : decode cX7_goodStamps 4 = .ok (.iload_n 3, 1) := by decide +kernel
theorem dX7_goodStamps_5 : decode cX7_goodStamps 5 = .ok (.aload_n 0, 1) := by decide +kernel
theorem dX7_goodStamps_6 : decode cX7_goodStamps 6 = .ok (.getfield 7, 3) := by decide +kernel
theorem dX7_goodStamps_9 : decode cX7_goodStamps 9 = .ok (.bipush 76, 2) := by decide +kernel
theorem dX7_goodStamps_11 : decode cX7_goodStamps 11 = .ok (.iaload, 1) := by decide +kernel
theorem dX7_goodStamps_12 : decode cX7_goodStamps 12 = .ok (.if_icmp .ge 40, 3) := by decide +kernel
theorem dX7_goodStamps_15 : decode cX7_goodStamps 15 = .ok (.iload_n 2, 1) := by decide +kernel
theorem dX7_goodStamps_16 : decode cX7_goodStamps 16 = .ok (.aload_n 0, 1) := by decide +kernel
theorem dX7_goodStamps_17 : decode cX7_goodStamps 17 = .ok (.getfield 23, 3) := by decide +kernel
theorem dX7_goodStamps_20 : decode cX7_goodStamps 20 = .ok (.iload_n 3, 1) := by decide +kernel
theorem dX7_goodStamps_21 : decode cX7_goodStamps 21 = .ok (.baload, 1) := by decide +kernel
theorem dX7_goodStamps_22 : decode cX7_goodStamps 22 = .ok (.ifCond .eq 21, 3) := by decide +kernel
theorem dX7_goodStamps_25 : decode cX7_goodStamps 25 = .ok (.iload_n 1, 1) := by decide +kernel
theorem dX7_goodStamps_26 : decode cX7_goodStamps 26 = .ok (.ifCond .lt 13, 3) := by decide +kernel
theorem dX7_goodStamps_29 : decode cX7_goodStamps 29 = .ok (.aload_n 0, 1) := by decide +kernel
theorem dX7_goodStamps_30 : decode cX7_goodStamps 30 = .ok (.iload_n 3, 1) := by decide +kernel
theorem dX7_goodStamps_31 : decode cX7_goodStamps 31 = .ok (.iconst 0, 1) := by decide +kernel
theorem dX7_goodStamps_32 : decode cX7_goodStamps 32 = .ok (.invokevirtual 56, 3) := by decide +kernel
theorem dX7_goodStamps_35 : decode cX7_goodStamps 35 = .ok (.iload_n 1, 1) := by decide +kernel
theorem dX7_goodStamps_36 : decode cX7_goodStamps 36 = .ok (.if_icmp .ne 7, 3) := by decide +kernel
theorem dX7_goodStamps_39 : decode cX7_goodStamps 39 = .ok (.iconst 1, 1) := by decide +kernel
theorem dX7_goodStamps_40 : decode cX7_goodStamps 40 = .ok (.goto 4, 3) := by decide +kernel
theorem dX7_goodStamps_43 : decode cX7_goodStamps 43 = .ok (.iconst 0, 1) := by decide +kernel
theorem dX7_goodStamps_44 : decode cX7_goodStamps 44 = .ok (.iadd, 1) := by decide +kernel
theorem dX7_goodStamps_45 : decode cX7_goodStamps 45 = .ok (.istore_n 2, 1) := by decide +kernel
theorem dX7_goodStamps_46 : decode cX7_goodStamps 46 = .ok (.iinc 3 1, 3) := by decide +kernel
theorem dX7_goodStamps_49 : decode cX7_goodStamps 49 = .ok (.goto (-45), 3) := by decide +kernel
theorem dX7_goodStamps_52 : decode cX7_goodStamps 52 = .ok (.iload_n 2, 1) := by decide +kernel
theorem dX7_goodStamps_53 : decode cX7_goodStamps 53 = .ok (.ireturn, 1) := by decide +kernel
set_option maxRecDepth 20000 in
theorem ggX7_ofPage_X7_isPage : GoodIn wsX7_ofPage wsX7_isPage := goodIn_r _ [5, 6, 7, 4, 8] (by decide +kernel) (by decide +kernel)
set_option maxRecDepth 20000 in
theorem gX7_ofPage_X7_isPage : GoodIn wsX7_ofPage (va_wsS RX7 90 yX7_isPage wsX7_isPage) := goodIn_app (goodIn_of _ (by decide +kernel)) ggX7_ofPage_X7_isPage
set_option maxRecDepth 20000 in
theorem ggX7_ofPage_X7_findGood : GoodIn wsX7_ofPage wsX7_findGood := goodIn_r _ [12, 1, 13, 14, 15, 16, 4, 17, 18, 19, 20, 21, 30, 31, 32, 33, 34, 35, 36, 37, 38, 39, 40, 41, 42, 43, 44, 45] (by decide +kernel) (by decide +kernel)
set_option maxRecDepth 20000 in
theorem gX7_ofPage_X7_findGood : GoodIn wsX7_ofPage (wsV RX7 80 RX7 yX7_findGood wsX7_findGood) := goodIn_app (goodIn_of _ (by decide +kernel)) ggX7_ofPage_X7_findGood
set_option maxRecDepth 20000 in
theorem ggX7_ofPage_X7_whoCan : GoodIn wsX7_ofPage wsX7_whoCan := goodIn_r _ [25, 1, 13, 14, 15, 16, 4, 17, 30, 31, 32, 33, 34, 35, 36, 37, 38, 39, 40, 41, 42, 43, 44, 45] (by decide +kernel) (by decide +kernel)
set_option maxRecDepth 20000 in
theorem gX7_ofPage_X7_whoCan : GoodIn wsX7_ofPage (wsV RX7 163 RX7 yX7_whoCan wsX7_whoCan) := goodIn_app (goodIn_of _ (by decide +kernel)) ggX7_ofPage_X7_whoCan
set_option maxRecDepth 20000 in
theorem ggX7_ofPage_X7_goodStamps : GoodIn wsX7_ofPage wsX7_goodStamps := goodIn_r _ [29, 1, 13, 14, 15, 16, 4, 17, 30, 31, 32, 33, 34, 35, 36, 37, 38, 39, 40, 41, 42, 43, 44, 45] (by decide +kernel) (by decide +kernel)
set_option maxRecDepth 20000 in
theorem gX7_ofPage_X7_goodStamps : GoodIn wsX7_ofPage (wsV RX7 166 RX7 yX7_goodStamps wsX7_goodStamps) := goodIn_app (goodIn_of _ (by decide +kernel)) ggX7_ofPage_X7_goodStamps
theorem dX7_ofPage_0 : decode cX7_ofPage 0 = .ok (.iload_n 1, 1) := by decide +kernel
theorem dX7_ofPage_1 : decode cX7_ofPage 1 = .ok (.invokestatic 90, 3) := by decide +kernel
theorem dX7_ofPage_4 : decode cX7_ofPage 4 = .ok (.ifCond .ne 5, 3) := by decide +kernel
theorem dX7_ofPage_7 : decode cX7_ofPage 7 = .ok (.iconst (-1), 1) := by decide +kernel
theorem dX7_ofPage_8 : decode cX7_ofPage 8 = .ok (.ireturn, 1) := by decide +kernel
theorem dX7_ofPage_9 : decode cX7_ofPage 9 = .ok (.aload_n 0, 1) := by decide +kernel
theorem dX7_ofPage_10 : decode cX7_ofPage 10 = .ok (.invokevirtual 80, 3) := by decide +kernel
theorem dX7_ofPage_13 : decode cX7_ofPage 13 = .ok (.iload_n 2, 1) := by decide +kernel
theorem dX7_ofPage_14 : decode cX7_ofPage 14 = .ok (.tableswitch 59 0 3 #[30, 39, 46, 53], 30) := by decide +kernel
theorem dX7_ofPage_44 : decode cX7_ofPage 44 = .ok (.aload_n 0, 1) := by decide +kernel
theorem dX7_ofPage_45 : decode cX7_ofPage 45 = .ok (.getfield 7, 3) := by decide +kernel
theorem dX7_ofPage_48 : decode cX7_ofPage 48 = .ok (.iconst 4, 1) := by decide +kernel
theorem dX7_ofPage_49 : decode cX7_ofPage 49 = .ok (.iload_n 1, 1) := by decide +kernel
theorem dX7_ofPage_50 : decode cX7_ofPage 50 = .ok (.iadd, 1) := by decide +kernel
theorem dX7_ofPage_51 : decode cX7_ofPage 51 = .ok (.iaload, 1) := by decide +kernel
theorem dX7_ofPage_52 : decode cX7_ofPage 52 = .ok (.ireturn, 1) := by decide +kernel
theorem dX7_ofPage_53 : decode cX7_ofPage 53 = .ok (.aload_n 0, 1) := by decide +kernel
theorem dX7_ofPage_54 : decode cX7_ofPage 54 = .ok (.iload_n 1, 1) := by decide +kernel
theorem dX7_ofPage_55 : decode cX7_ofPage 55 = .ok (.iconst 1, 1) := by decide +kernel
theorem dX7_ofPage_56 : decode cX7_ofPage 56 = .ok (.invokevirtual 163, 3) := by decide +kernel
theorem dX7_ofPage_59 : decode cX7_ofPage 59 = .ok (.ireturn, 1) := by decide +kernel
theorem dX7_ofPage_60 : decode cX7_ofPage 60 = .ok (.aload_n 0, 1) := by decide +kernel
theorem dX7_ofPage_61 : decode cX7_ofPage 61 = .ok (.iload_n 1, 1) := by decide +kernel
theorem dX7_ofPage_62 : decode cX7_ofPage 62 = .ok (.iconst 2, 1) := by decide +kernel
theorem dX7_ofPage_63 : decode cX7_ofPage 63 = .ok (.invokevirtual 163, 3) := by decide +kernel
theorem dX7_ofPage_66 : decode cX7_ofPage 66 = .ok (.ireturn, 1) := by decide +kernel
theorem dX7_ofPage_67 : decode cX7_ofPage 67 = .ok (.aload_n 0, 1) := by decide +kernel
theorem dX7_ofPage_68 : decode cX7_ofPage 68 = .ok (.iload_n 1, 1) := by decide +kernel
theorem dX7_ofPage_69 : decode cX7_ofPage 69 = .ok (.invokevirtual 166, 3) := by decide +kernel
theorem dX7_ofPage_72 : decode cX7_ofPage 72 = .ok (.ireturn, 1) := by decide +kernel
theorem dX7_ofPage_73 : decode cX7_ofPage 73 = .ok (.bipush (-2), 2) := by decide +kernel
theorem dX7_ofPage_75 : decode cX7_ofPage 75 = .ok (.ireturn, 1) := by decide +kernel
set_option maxRecDepth 20000 in
theorem ggX7_chain_X7_of : GoodIn wsX7_chain wsX7_of := goodIn_r _ [5, 6, 7, 8, 9, 10, 11, 12, 13, 14, 15, 16, 17, 18, 19, 20, 21, 22] (by decide +kernel) (by decide +kernel)
set_option maxRecDepth 20000 in
theorem gX7_chain_X7_of : GoodIn wsX7_chain (wsV RX7 56 RX7 yX7_of wsX7_of) := goodIn_app (goodIn_of _ (by decide +kernel)) ggX7_chain_X7_of
theorem dX7_chain_0 : decode cX7_chain 0 = .ok (.iconst 0, 1) := by decide +kernel
theorem dX7_chain_1 : decode cX7_chain 1 = .ok (.istore_n 2, 1) := by decide +kernel
theorem dX7_chain_2 : decode cX7_chain 2 = .ok (.iload_n 1, 1) := by decide +kernel
theorem dX7_chain_3 : decode cX7_chain 3 = .ok (.istore_n 3, 1) := by decide +kernel
theorem dX7_chain_4 : decode cX7_chain 4 = .ok (.iload_n 3, 1) := by decide +kernel
theorem dX7_chain_5 : decode cX7_chain 5 = .ok (.ifCond .lt 16, 3) := by decide +kernel
theorem dX7_chain_8 : decode cX7_chain 8 = .ok (.iinc 2 1, 3) := by decide +kernel
theorem dX7_chain_11 : decode cX7_chain 11 = .ok (.aload_n 0, 1) := by decide +kernel
theorem dX7_chain_12 : decode cX7_chain 12 = .ok (.iload_n 3, 1) := by decide +kernel
theorem dX7_chain_13 : decode cX7_chain 13 = .ok (.iconst 4, 1) := by decide +kernel
theorem dX7_chain_14 : decode cX7_chain 14 = .ok (.invokevirtual 56, 3) := by decide +kernel
theorem dX7_chain_17 : decode cX7_chain 17 = .ok (.istore_n 3, 1) := by decide +kernel
theorem dX7_chain_18 : decode cX7_chain 18 = .ok (.goto (-14), 3) := by decide +kernel
theorem dX7_chain_21 : decode cX7_chain 21 = .ok (.iload_n 2, 1) := by decide +kernel
theorem dX7_chain_22 : decode cX7_chain 22 = .ok (.ireturn, 1) := by decide +kernel
set_option maxRecDepth 20000 in
theorem ggX7_isInChain_X7_of : GoodIn wsX7_isInChain wsX7_of := goodIn_r _ [5, 6, 7, 8, 9, 10, 11, 12, 13, 14, 15, 16, 17, 18, 19, 20, 21, 22] (by decide +kernel) (by decide +kernel)
set_option maxRecDepth 20000 in
theorem gX7_isInChain_X7_of : GoodIn wsX7_isInChain (wsV RX7 56 RX7 yX7_of wsX7_of) := goodIn_app (goodIn_of _ (by decide +kernel)) ggX7_isInChain_X7_of
theorem dX7_isInChain_0 : decode cX7_isInChain 0 = .ok (.iload_n 2, 1) := by decide +kernel
theorem dX7_isInChain_1 : decode cX7_isInChain 1 = .ok (.istore_n 3, 1) := by decide +kernel
theorem dX7_isInChain_2 : decode cX7_isInChain 2 = .ok (.iload_n 3, 1) := by decide +kernel
theorem dX7_isInChain_3 : decode cX7_isInChain 3 = .ok (.iload_n 1, 1) := by decide +kernel
theorem dX7_isInChain_4 : decode cX7_isInChain 4 = .ok (.if_icmp .le 13, 3) := by decide +kernel
theorem dX7_isInChain_7 : decode cX7_isInChain 7 = .ok (.aload_n 0, 1) := by decide +kernel
theorem dX7_isInChain_8 : decode cX7_isInChain 8 = .ok (.iload_n 3, 1) := by decide +kernel
theorem dX7_isInChain_9 : decode cX7_isInChain 9 = .ok (.iconst 4, 1) := by decide +kernel
theorem dX7_isInChain_10 : decode cX7_isInChain 10 = .ok (.invokevirtual 56, 3) := by decide +kernel
theorem dX7_isInChain_13 : decode cX7_isInChain 13 = .ok (.istore_n 3, 1) := by decide +kernel
theorem dX7_isInChain_14 : decode cX7_isInChain 14 = .ok (.goto (-12), 3) := by decide +kernel
theorem dX7_isInChain_17 : decode cX7_isInChain 17 = .ok (.iload_n 3, 1) := by decide +kernel
theorem dX7_isInChain_18 : decode cX7_isInChain 18 = .ok (.iload_n 1, 1) := by decide +kernel
theorem dX7_isInChain_19 : decode cX7_isInChain 19 = .ok (.if_icmp .ne 7, 3) := by decide +kernel
theorem dX7_isInChain_22 : decode cX7_isInChain 22 = .ok (.iconst 1, 1) := by decide +kernel
theorem dX7_isInChain_23 : decode cX7_isInChain 23 = .ok (.goto 4, 3) := by decide +kernel
theorem dX7_isInChain_26 : decode cX7_isInChain 26 = .ok (.iconst 0, 1) := by decide +kernel
theorem dX7_isInChain_27 : decode cX7_isInChain 27 = .ok (.ireturn, 1) := by decide +kernel
set_option maxRecDepth 20000 in
theorem ggX7_behind_X7_isInChain : GoodIn wsX7_behind wsX7_isInChain := goodIn_r _ [6, 7, 8, 9, 5, 10, 1, 11, 12, 13, 14, 15, 16, 17, 18, 19, 20, 21, 22, 23, 24, 25, 26] (by decide +kernel) (by decide +kernel)
set_option maxRecDepth 20000 in
theorem gX7_behind_X7_isInChain : GoodIn wsX7_behind (wsV RX7 169 RX7 yX7_isInChain wsX7_isInChain) := goodIn_app (goodIn_of _ (by decide +kernel)) ggX7_behind_X7_isInChain
theorem dX7_behind_0 : decode cX7_behind 0 = .ok (.iconst 0, 1) := by decide +kernel
theorem dX7_behind_1 : decode cX7_behind 1 = .ok (.istore_n 2, 1) := by decide +kernel
theorem dX7_behind_2 : decode cX7_behind 2 = .ok (.iload_n 1, 1) := by decide +kernel
theorem dX7_behind_3 : decode cX7_behind 3 = .ok (.iconst 1, 1) := by decide +kernel
theorem dX7_behind_4 : decode cX7_behind 4 = .ok (.iadd, 1) := by decide +kernel
theorem dX7_behind_5 : decode cX7_behind 5 = .ok (.istore_n 3, 1) := by decide +kernel
theorem dX7_behind_6 : decode cX7_behind 6 = .ok (.iload_n 3, 1) := by decide +kernel
theorem dX7_behind_7 : decode cX7_behind 7 = .ok (.aload_n 0, 1) := by decide +kernel
theorem dX7_behind_8 : decode cX7_behind 8 = .ok (.getfield 7, 3) := by decide +kernel
theorem dX7_behind_11 : decode cX7_behind 11 = .ok (.bipush 76, 2) := by decide +kernel
theorem dX7_behind_13 : decode cX7_behind 13 = .ok (.iaload, 1) := by decide +kernel
theorem dX7_behind_14 : decode cX7_behind 14 = .ok (.if_icmp .ge 26, 3) := by decide +kernel
theorem dX7_behind_17 : decode cX7_behind 17 = .ok (.iload_n 2, 1) := by decide +kernel
theorem dX7_behind_18 : decode cX7_behind 18 = .ok (.aload_n 0, 1) := by decide +kernel
theorem dX7_behind_19 : decode cX7_behind 19 = .ok (.iload_n 1, 1) := by decide +kernel
theorem dX7_behind_20 : decode cX7_behind 20 = .ok (.iload_n 3, 1) := by decide +kernel
theorem dX7_behind_21 : decode cX7_behind 21 = .ok (.invokevirtual 169, 3) := by decide +kernel
theorem dX7_behind_24 : decode cX7_behind 24 = .ok (.ifCond .eq 7, 3) := by decide +kernel
theorem dX7_behind_27 : decode cX7_behind 27 = .ok (.iconst 1, 1) := by decide +kernel
theorem dX7_behind_28 : decode cX7_behind 28 = .ok (.goto 4, 3) := by decide +kernel
theorem dX7_behind_31 : decode cX7_behind 31 = .ok (.iconst 0, 1) := by decide +kernel
theorem dX7_behind_32 : decode cX7_behind 32 = .ok (.iadd, 1) := by decide +kernel
theorem dX7_behind_33 : decode cX7_behind 33 = .ok (.istore_n 2, 1) := by decide +kernel
theorem dX7_behind_34 : decode cX7_behind 34 = .ok (.iinc 3 1, 3) := by decide +kernel
theorem dX7_behind_37 : decode cX7_behind 37 = .ok (.goto (-31), 3) := by decide +kernel
theorem dX7_behind_40 : decode cX7_behind 40 = .ok (.iload_n 2, 1) := by decide +kernel
theorem dX7_behind_41 : decode cX7_behind 41 = .ok (.ireturn, 1) := by decide +kernel
set_option maxRecDepth 20000 in
theorem ggX7_isGood_X7_findGood : GoodIn wsX7_isGood wsX7_findGood := goodIn_r _ [6, 7, 1, 8, 9, 10, 5, 11, 12, 13, 14, 15, 16, 17, 18, 19, 20, 21, 22, 23, 24, 25, 26, 27, 28, 29, 30, 31] (by decide +kernel) (by decide +kernel)
set_option maxRecDepth 20000 in
theorem gX7_isGood_X7_findGood : GoodIn wsX7_isGood (wsV RX7 80 RX7 yX7_findGood wsX7_findGood) := goodIn_app (goodIn_of _ (by decide +kernel)) ggX7_isGood_X7_findGood
theorem dX7_isGood_0 : decode cX7_isGood 0 = .ok (.aload_n 0, 1) := by decide +kernel
theorem dX7_isGood_1 : decode cX7_isGood 1 = .ok (.invokevirtual 80, 3) := by decide +kernel
theorem dX7_isGood_4 : decode cX7_isGood 4 = .ok (.aload_n 0, 1) := by decide +kernel
theorem dX7_isGood_5 : decode cX7_isGood 5 = .ok (.getfield 23, 3) := by decide +kernel
theorem dX7_isGood_8 : decode cX7_isGood 8 = .ok (.iload_n 1, 1) := by decide +kernel
theorem dX7_isGood_9 : decode cX7_isGood 9 = .ok (.baload, 1) := by decide +kernel
theorem dX7_isGood_10 : decode cX7_isGood 10 = .ok (.ireturn, 1) := by decide +kernel
set_option maxRecDepth 20000 in
theorem ggX7_ofStamp_X7_isStamp : GoodIn wsX7_ofStamp wsX7_isStamp := goodIn_r _ [5, 6, 7, 8, 4, 9, 39, 40, 41, 42, 43, 44, 45, 46, 47, 48, 49, 50, 51, 52, 53, 54] (by decide +kernel) (by decide +kernel)
set_option maxRecDepth 20000 in
theorem gX7_ofStamp_X7_isStamp : GoodIn wsX7_ofStamp (wsV RX7 119 RX7 yX7_isStamp wsX7_isStamp) := goodIn_app (goodIn_of _ (by decide +kernel)) ggX7_ofStamp_X7_isStamp
set_option maxRecDepth 20000 in
theorem ggX7_ofStamp_X7_in : GoodIn wsX7_ofStamp wsX7_in := goodIn_r _ [9] (by decide +kernel) (by decide +kernel)
set_option maxRecDepth 20000 in
theorem gX7_ofStamp_X7_in : GoodIn wsX7_ofStamp (va_wsS RX7 38 yX7_in wsX7_in) := goodIn_app (goodIn_of _ (by decide +kernel)) ggX7_ofStamp_X7_in
set_option maxRecDepth 20000 in
theorem ggX7_ofStamp_X7_of : GoodIn wsX7_ofStamp wsX7_of := goodIn_r _ [13, 6, 39, 40, 41, 42, 43, 44, 45, 46, 47, 48, 49, 50, 51, 52, 53, 54] (by decide +kernel) (by decide +kernel)
set_option maxRecDepth 20000 in
theorem gX7_ofStamp_X7_of : GoodIn wsX7_ofStamp (wsV RX7 56 RX7 yX7_of wsX7_of) := goodIn_app (goodIn_of _ (by decide +kernel)) ggX7_ofStamp_X7_of
set_option maxRecDepth 20000 in
theorem ggX7_ofStamp_X7_isGood : GoodIn wsX7_ofStamp wsX7_isGood := goodIn_r _ [17, 18, 19, 20, 21, 4, 22, 6, 10, 11, 12, 13, 23, 24, 25, 26, 39, 40, 41, 42, 43, 44, 45, 46, 47, 48, 49, 50, 51, 52, 53, 54] (by decide +kernel) (by decide +kernel)
set_option maxRecDepth 20000 in
theorem gX7_ofStamp_X7_isGood : GoodIn wsX7_ofStamp (wsV RX7 172 RX7 yX7_isGood wsX7_isGood) := goodIn_app (goodIn_of _ (by decide +kernel)) ggX7_ofStamp_X7_isGood
set_option maxRecDepth 20000 in
theorem ggX7_ofStamp_X7_chain : GoodIn wsX7_ofStamp wsX7_chain := goodIn_r _ [30, 10, 11, 12, 4, 13, 6, 39, 40, 41, 42, 43, 44, 45, 46, 47, 48, 49, 50, 51, 52, 53, 54] (by decide +kernel) (by decide +kernel)
set_option maxRecDepth 20000 in
theorem gX7_ofStamp_X7_chain : GoodIn wsX7_ofStamp (wsV RX7 175 RX7 yX7_chain wsX7_chain) := goodIn_app (goodIn_of _ (by decide +kernel)) ggX7_ofStamp_X7_chain
set_option maxRecDepth 20000 in
theorem ggX7_ofStamp_X7_behind : GoodIn wsX7_ofStamp wsX7_behind := goodIn_r _ [34, 6, 35, 36, 37, 4, 38, 10, 11, 12, 13, 39, 40, 41, 42, 43, 44, 45, 46, 47, 48, 49, 50, 51, 52, 53, 54] (by decide +kernel) (by decide +kernel)
set_option maxRecDepth 20000 in
theorem gX7_ofStamp_X7_behind : GoodIn wsX7_ofStamp (wsV RX7 178 RX7 yX7_behind wsX7_behind) := goodIn_app (goodIn_of _ (by decide +kernel)) ggX7_ofStamp_X7_behind
theorem dX7_ofStamp_0 : decode cX7_ofStamp 0 = .ok (.aload_n 0, 1) := by decide +kernel
theorem dX7_ofStamp_1 : decode cX7_ofStamp 1 = .ok (.iload_n 1, 1) := by decide +kernel
theorem dX7_ofStamp_2 : decode cX7_ofStamp 2 = .ok (.invokevirtual 119, 3) := by decide +kernel
theorem dX7_ofStamp_5 : decode cX7_ofStamp 5 = .ok (.ifCond .ne 5, 3) := by decide +kernel
theorem dX7_ofStamp_8 : decode cX7_ofStamp 8 = .ok (.iconst (-1), 1) := by decide +kernel
theorem dX7_ofStamp_9 : decode cX7_ofStamp 9 = .ok (.ireturn, 1) := by decide +kernel
theorem dX7_ofStamp_10 : decode cX7_ofStamp 10 = .ok (.iload_n 2, 1) := by decide +kernel
theorem dX7_ofStamp_11 : decode cX7_ofStamp 11 = .ok (.iconst 0, 1) := by decide +kernel
theorem dX7_ofStamp_12 : decode cX7_ofStamp 12 = .ok (.bipush 6, 2) := by decide +kernel
theorem dX7_ofStamp_14 : decode cX7_ofStamp 14 = .ok (.invokestatic 38, 3) := by decide +kernel
theorem dX7_ofStamp_17 : decode cX7_ofStamp 17 = .ok (.ifCond .eq 10, 3) := by decide +kernel
theorem dX7_ofStamp_20 : decode cX7_ofStamp 20 = .ok (.aload_n 0, 1) := by decide +kernel
theorem dX7_ofStamp_21 : decode cX7_ofStamp 21 = .ok (.iload_n 1, 1) := by decide +kernel
theorem dX7_ofStamp_22 : decode cX7_ofStamp 22 = .ok (.iload_n 2, 1) := by decide +kernel
theorem dX7_ofStamp_23 : decode cX7_ofStamp 23 = .ok (.invokevirtual 56, 3) := by decide +kernel
theorem dX7_ofStamp_26 : decode cX7_ofStamp 26 = .ok (.ireturn, 1) := by decide +kernel
theorem dX7_ofStamp_27 : decode cX7_ofStamp 27 = .ok (.iload_n 2, 1) := by decide +kernel
theorem dX7_ofStamp_28 : decode cX7_ofStamp 28 = .ok (.bipush 7, 2) := by decide +kernel
theorem dX7_ofStamp_30 : decode cX7_ofStamp 30 = .ok (.if_icmp .ne 19, 3) := by decide +kernel
theorem dX7_ofStamp_33 : decode cX7_ofStamp 33 = .ok (.aload_n 0, 1) := by decide +kernel
theorem dX7_ofStamp_34 : decode cX7_ofStamp 34 = .ok (.iload_n 1, 1) := by decide +kernel
theorem dX7_ofStamp_35 : decode cX7_ofStamp 35 = .ok (.invokevirtual 172, 3) := by decide +kernel
theorem dX7_ofStamp_38 : decode cX7_ofStamp 38 = .ok (.ifCond .eq 7, 3) := by decide +kernel
theorem dX7_ofStamp_41 : decode cX7_ofStamp 41 = .ok (.iconst 1, 1) := by decide +kernel
theorem dX7_ofStamp_42 : decode cX7_ofStamp 42 = .ok (.goto 37, 3) := by decide +kernel
theorem dX7_ofStamp_45 : decode cX7_ofStamp 45 = .ok (.iconst 0, 1) := by decide +kernel
theorem dX7_ofStamp_46 : decode cX7_ofStamp 46 = .ok (.goto 33, 3) := by decide +kernel
theorem dX7_ofStamp_49 : decode cX7_ofStamp 49 = .ok (.iload_n 2, 1) := by decide +kernel
theorem dX7_ofStamp_50 : decode cX7_ofStamp 50 = .ok (.bipush 8, 2) := by decide +kernel
theorem dX7_ofStamp_52 : decode cX7_ofStamp 52 = .ok (.if_icmp .ne 11, 3) := by decide +kernel
theorem dX7_ofStamp_55 : decode cX7_ofStamp 55 = .ok (.aload_n 0, 1) := by decide +kernel
theorem dX7_ofStamp_56 : decode cX7_ofStamp 56 = .ok (.iload_n 1, 1) := by decide +kernel
theorem dX7_ofStamp_57 : decode cX7_ofStamp 57 = .ok (.invokevirtual 175, 3) := by decide +kernel
theorem dX7_ofStamp_60 : decode cX7_ofStamp 60 = .ok (.goto 19, 3) := by decide +kernel
theorem dX7_ofStamp_63 : decode cX7_ofStamp 63 = .ok (.iload_n 2, 1) := by decide +kernel
theorem dX7_ofStamp_64 : decode cX7_ofStamp 64 = .ok (.bipush 9, 2) := by decide +kernel
theorem dX7_ofStamp_66 : decode cX7_ofStamp 66 = .ok (.if_icmp .ne 11, 3) := by decide +kernel
theorem dX7_ofStamp_69 : decode cX7_ofStamp 69 = .ok (.aload_n 0, 1) := by decide +kernel
theorem dX7_ofStamp_70 : decode cX7_ofStamp 70 = .ok (.iload_n 1, 1) := by decide +kernel
theorem dX7_ofStamp_71 : decode cX7_ofStamp 71 = .ok (.invokevirtual 178, 3) := by decide +kernel
theorem dX7_ofStamp_74 : decode cX7_ofStamp 74 = .ok (.goto 5, 3) := by decide +kernel
theorem dX7_ofStamp_77 : decode cX7_ofStamp 77 = .ok (.bipush (-2), 2) := by decide +kernel
theorem dX7_ofStamp_79 : decode cX7_ofStamp 79 = .ok (.ireturn, 1) := by decide +kernel
set_option maxRecDepth 20000 in
theorem ggX7_leads_X7_isDoor : GoodIn wsX7_leads wsX7_isDoor := goodIn_r _ [4, 5, 6, 3, 7, 8, 9, 10] (by decide +kernel) (by decide +kernel)
set_option maxRecDepth 20000 in
theorem gX7_leads_X7_isDoor : GoodIn wsX7_leads (va_wsS RX7 130 yX7_isDoor wsX7_isDoor) := goodIn_app (goodIn_of _ (by decide +kernel)) ggX7_leads_X7_isDoor
set_option maxRecDepth 20000 in
theorem ggX7_leads_X7_leadsBy : GoodIn wsX7_leads wsX7_leadsBy := goodIn_r _ [14, 15, 16, 17, 18, 19, 20, 21, 22, 23, 24, 25, 26, 27, 28, 29, 30, 31] (by decide +kernel) (by decide +kernel)
set_option maxRecDepth 20000 in
theorem gX7_leads_X7_leadsBy : GoodIn wsX7_leads (wsV RX7 63 RX7 yX7_leadsBy wsX7_leadsBy) := goodIn_app (goodIn_of _ (by decide +kernel)) ggX7_leads_X7_leadsBy
theorem dX7_leads_0 : decode cX7_leads 0 = .ok (.iload_n 1, 1) := by decide +kernel
theorem dX7_leads_1 : decode cX7_leads 1 = .ok (.iload_n 2, 1) := by decide +kernel
theorem dX7_leads_2 : decode cX7_leads 2 = .ok (.invokestatic 130, 3) := by decide +kernel
theorem dX7_leads_5 : decode cX7_leads 5 = .ok (.ifCond .eq 12, 3) := by decide +kernel
theorem dX7_leads_8 : decode cX7_leads 8 = .ok (.aload_n 0, 1) := by decide +kernel
theorem dX7_leads_9 : decode cX7_leads 9 = .ok (.iload_n 1, 1) := by decide +kernel
theorem dX7_leads_10 : decode cX7_leads 10 = .ok (.iload_n 2, 1) := by decide +kernel
theorem dX7_leads_11 : decode cX7_leads 11 = .ok (.invokevirtual 63, 3) := by decide +kernel
theorem dX7_leads_14 : decode cX7_leads 14 = .ok (.goto 4, 3) := by decide +kernel
theorem dX7_leads_17 : decode cX7_leads 17 = .ok (.iconst (-1), 1) := by decide +kernel
theorem dX7_leads_18 : decode cX7_leads 18 = .ok (.ireturn, 1) := by decide +kernel
set_option maxRecDepth 20000 in
theorem ggX7_note_X7_in : GoodIn wsX7_note wsX7_in := goodIn_r _ [5] (by decide +kernel) (by decide +kernel)
set_option maxRecDepth 20000 in
theorem gX7_note_X7_in : GoodIn wsX7_note (va_wsS RX7 38 yX7_in wsX7_in) := goodIn_app (goodIn_of _ (by decide +kernel)) ggX7_note_X7_in
set_option maxRecDepth 20000 in
theorem ggX7_note_X7_ofNote : GoodIn wsX7_note wsX7_ofNote := goodIn_r _ [9, 1, 10, 11, 12, 13, 14, 15, 16, 17, 18, 19, 20, 21, 22, 23, 24, 25] (by decide +kernel) (by decide +kernel)
set_option maxRecDepth 20000 in
theorem gX7_note_X7_ofNote : GoodIn wsX7_note (wsV RX7 73 RX7 yX7_ofNote wsX7_ofNote) := goodIn_app (goodIn_of _ (by decide +kernel)) ggX7_note_X7_ofNote
theorem dX7_note_0 : decode cX7_note 0 = .ok (.iload_n 1, 1) := by decide +kernel
theorem dX7_note_1 : decode cX7_note 1 = .ok (.iconst 0, 1) := by decide +kernel
theorem dX7_note_2 : decode cX7_note 2 = .ok (.aload_n 0, 1) := by decide +kernel
theorem dX7_note_3 : decode cX7_note 3 = .ok (.getfield 7, 3) := by decide +kernel
theorem dX7_note_6 : decode cX7_note 6 = .ok (.bipush 90, 2) := by decide +kernel
theorem dX7_note_8 : decode cX7_note 8 = .ok (.iaload, 1) := by decide +kernel
theorem dX7_note_9 : decode cX7_note 9 = .ok (.iconst 1, 1) := by decide +kernel
theorem dX7_note_10 : decode cX7_note 10 = .ok (.isub, 1) := by decide +kernel
theorem dX7_note_11 : decode cX7_note 11 = .ok (.invokestatic 38, 3) := by decide +kernel
theorem dX7_note_14 : decode cX7_note 14 = .ok (.ifCond .ne 5, 3) := by decide +kernel
theorem dX7_note_17 : decode cX7_note 17 = .ok (.iconst (-1), 1) := by decide +kernel
theorem dX7_note_18 : decode cX7_note 18 = .ok (.ireturn, 1) := by decide +kernel
theorem dX7_note_19 : decode cX7_note 19 = .ok (.iload_n 2, 1) := by decide +kernel
theorem dX7_note_20 : decode cX7_note 20 = .ok (.iconst 0, 1) := by decide +kernel
theorem dX7_note_21 : decode cX7_note 21 = .ok (.iconst 3, 1) := by decide +kernel
theorem dX7_note_22 : decode cX7_note 22 = .ok (.invokestatic 38, 3) := by decide +kernel
theorem dX7_note_25 : decode cX7_note 25 = .ok (.ifCond .eq 12, 3) := by decide +kernel
theorem dX7_note_28 : decode cX7_note 28 = .ok (.aload_n 0, 1) := by decide +kernel
theorem dX7_note_29 : decode cX7_note 29 = .ok (.iload_n 1, 1) := by decide +kernel
theorem dX7_note_30 : decode cX7_note 30 = .ok (.iload_n 2, 1) := by decide +kernel
theorem dX7_note_31 : decode cX7_note 31 = .ok (.invokevirtual 73, 3) := by decide +kernel
theorem dX7_note_34 : decode cX7_note 34 = .ok (.goto 5, 3) := by decide +kernel
theorem dX7_note_37 : decode cX7_note 37 = .ok (.bipush (-2), 2) := by decide +kernel
theorem dX7_note_39 : decode cX7_note 39 = .ok (.ireturn, 1) := by decide +kernel
set_option maxRecDepth 20000 in
theorem ggX7_allGood_X7_findGood : GoodIn wsX7_allGood wsX7_findGood := goodIn_r _ [5, 6, 7, 8, 9, 10, 4, 11, 12, 13, 14, 15, 20, 21, 22, 23, 24, 25, 26, 27, 28, 29, 30, 31, 32, 33, 34, 35] (by decide +kernel) (by decide +kernel)
set_option maxRecDepth 20000 in
theorem gX7_allGood_X7_findGood : GoodIn wsX7_allGood (wsV RX7 80 RX7 yX7_findGood wsX7_findGood) := goodIn_app (goodIn_of _ (by decide +kernel)) ggX7_allGood_X7_findGood
set_option maxRecDepth 20000 in
theorem ggX7_allGood_X7_goodStamps : GoodIn wsX7_allGood wsX7_goodStamps := goodIn_r _ [19, 6, 7, 8, 9, 10, 4, 11, 20, 21, 22, 23, 24, 25, 26, 27, 28, 29, 30, 31, 32, 33, 34, 35] (by decide +kernel) (by decide +kernel)
set_option maxRecDepth 20000 in
theorem gX7_allGood_X7_goodStamps : GoodIn wsX7_allGood (wsV RX7 166 RX7 yX7_goodStamps wsX7_goodStamps) := goodIn_app (goodIn_of _ (by decide +kernel)) ggX7_allGood_X7_goodStamps
theorem dX7_allGood_0 : decode cX7_allGood 0 = .ok (.aload_n 0, 1) := by decide +kernel
theorem dX7_allGood_1 : decode cX7_allGood 1 = .ok (.invokevirtual 80, 3) := by decide +kernel
theorem dX7_allGood_4 : decode cX7_allGood 4 = .ok (.aload_n 0, 1) := by decide +kernel
theorem dX7_allGood_5 : decode cX7_allGood 5 = .ok (.bipush (-6), 2) := by decide +kernel
theorem dX7_allGood_7 : decode cX7_allGood 7 = .ok (.invokevirtual 166, 3) := by decide +kernel
theorem dX7_allGood_10 : decode cX7_allGood 10 = .ok (.ireturn, 1) := by decide +kernel
set_option maxRecDepth 20000 in
theorem ggX7_count_X7_allGood : GoodIn wsX7_count wsX7_allGood := goodIn_r _ [8, 9, 10, 11, 7, 12, 1, 13, 14, 15, 16, 17, 18, 19, 20, 21, 22, 23, 24, 25, 26, 27, 28, 29, 30, 31, 32, 33, 34, 35, 36, 37, 38, 39, 40, 41] (by decide +kernel) (by decide +kernel)
set_option maxRecDepth 20000 in
theorem gX7_count_X7_allGood : GoodIn wsX7_count (wsV RX7 181 RX7 yX7_allGood wsX7_allGood) := goodIn_app (goodIn_of _ (by decide +kernel)) ggX7_count_X7_allGood
theorem dX7_count_0 : decode cX7_count 0 = .ok (.iload_n 1, 1) := by decide +kernel
theorem dX7_count_1 : decode cX7_count 1 = .ok (.tableswitch 128 0 14 #[75, 83, 88, 96, 96, 96, 96, 96, 96, 108, 108, 108, 108, 118, 123], 75) := by decide +kernel
theorem dX7_count_76 : decode cX7_count 76 = .ok (.aload_n 0, 1) := by decide +kernel
theorem dX7_count_77 : decode cX7_count 77 = .ok (.getfield 7, 3) := by decide +kernel
theorem dX7_count_80 : decode cX7_count 80 = .ok (.bipush 76, 2) := by decide +kernel
theorem dX7_count_82 : decode cX7_count 82 = .ok (.iaload, 1) := by decide +kernel
theorem dX7_count_83 : decode cX7_count 83 = .ok (.ireturn, 1) := by decide +kernel
theorem dX7_count_84 : decode cX7_count 84 = .ok (.aload_n 0, 1) := by decide +kernel
theorem dX7_count_85 : decode cX7_count 85 = .ok (.invokevirtual 181, 3) := by decide +kernel
theorem dX7_count_88 : decode cX7_count 88 = .ok (.ireturn, 1) := by decide +kernel
theorem dX7_count_89 : decode cX7_count 89 = .ok (.aload_n 0, 1) := by decide +kernel
theorem dX7_count_90 : decode cX7_count 90 = .ok (.getfield 7, 3) := by decide +kernel
theorem dX7_count_93 : decode cX7_count 93 = .ok (.bipush 90, 2) := by decide +kernel
theorem dX7_count_95 : decode cX7_count 95 = .ok (.iaload, 1) := by decide +kernel
theorem dX7_count_96 : decode cX7_count 96 = .ok (.ireturn, 1) := by decide +kernel
theorem dX7_count_97 : decode cX7_count 97 = .ok (.aload_n 0, 1) := by decide +kernel
theorem dX7_count_98 : decode cX7_count 98 = .ok (.getfield 7, 3) := by decide +kernel
theorem dX7_count_101 : decode cX7_count 101 = .ok (.bipush 77, 2) := by decide +kernel
theorem dX7_count_103 : decode cX7_count 103 = .ok (.iload_n 1, 1) := by decide +kernel
theorem dX7_count_104 : decode cX7_count 104 = .ok (.iadd, 1) := by decide +kernel
theorem dX7_count_105 : decode cX7_count 105 = .ok (.iconst 3, 1) := by decide +kernel
theorem dX7_count_106 : decode cX7_count 106 = .ok (.isub, 1) := by decide +kernel
theorem dX7_count_107 : decode cX7_count 107 = .ok (.iaload, 1) := by decide +kernel
theorem dX7_count_108 : decode cX7_count 108 = .ok (.ireturn, 1) := by decide +kernel
theorem dX7_count_109 : decode cX7_count 109 = .ok (.aload_n 0, 1) := by decide +kernel
theorem dX7_count_110 : decode cX7_count 110 = .ok (.getfield 7, 3) := by decide +kernel
theorem dX7_count_113 : decode cX7_count 113 = .ok (.iload_n 1, 1) := by decide +kernel
theorem dX7_count_114 : decode cX7_count 114 = .ok (.bipush 9, 2) := by decide +kernel
theorem dX7_count_116 : decode cX7_count 116 = .ok (.isub, 1) := by decide +kernel
theorem dX7_count_117 : decode cX7_count 117 = .ok (.iaload, 1) := by decide +kernel
theorem dX7_count_118 : decode cX7_count 118 = .ok (.ireturn, 1) := by decide +kernel
theorem dX7_count_119 : decode cX7_count 119 = .ok (.aload_n 0, 1) := by decide +kernel
theorem dX7_count_120 : decode cX7_count 120 = .ok (.getfield 184, 3) := by decide +kernel
theorem dX7_count_123 : decode cX7_count 123 = .ok (.ireturn, 1) := by decide +kernel
theorem dX7_count_124 : decode cX7_count 124 = .ok (.aload_n 0, 1) := by decide +kernel
theorem dX7_count_125 : decode cX7_count 125 = .ok (.getfield 46, 3) := by decide +kernel
theorem dX7_count_128 : decode cX7_count 128 = .ok (.ireturn, 1) := by decide +kernel
theorem dX7_count_129 : decode cX7_count 129 = .ok (.bipush (-2), 2) := by decide +kernel
theorem dX7_count_131 : decode cX7_count 131 = .ok (.ireturn, 1) := by decide +kernel
set_option maxRecDepth 20000 in
theorem ggX7_ended_X7_in : GoodIn wsX7_ended wsX7_in := goodIn_r _ [5] (by decide +kernel) (by decide +kernel)
