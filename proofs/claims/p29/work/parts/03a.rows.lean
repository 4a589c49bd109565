theorem dX0_init_0 : decode cX0_init 0 = .ok (.aload_n 0, 1) := by decide +kernel
theorem dX0_init_1 : decode cX0_init 1 = .ok (.invokespecial 3, 3) := by decide +kernel
theorem dX0_init_4 : decode cX0_init 4 = .ok (.aload_n 0, 1) := by decide +kernel
theorem dX0_init_5 : decode cX0_init 5 = .ok (.bipush 8, 2) := by decide +kernel
theorem dX0_init_7 : decode cX0_init 7 = .ok (.newarray .int, 2) := by decide +kernel
theorem dX0_init_9 : decode cX0_init 9 = .ok (.putfield 9, 3) := by decide +kernel
theorem dX0_init_12 : decode cX0_init 12 = .ok (.aload_n 0, 1) := by decide +kernel
theorem dX0_init_13 : decode cX0_init 13 = .ok (.bipush 8, 2) := by decide +kernel
theorem dX0_init_15 : decode cX0_init 15 = .ok (.newarray .int, 2) := by decide +kernel
theorem dX0_init_17 : decode cX0_init 17 = .ok (.putfield 15, 3) := by decide +kernel
theorem dX0_init_20 : decode cX0_init 20 = .ok (.aload_n 0, 1) := by decide +kernel
theorem dX0_init_21 : decode cX0_init 21 = .ok (.bipush 8, 2) := by decide +kernel
theorem dX0_init_23 : decode cX0_init 23 = .ok (.newarray .int, 2) := by decide +kernel
theorem dX0_init_25 : decode cX0_init 25 = .ok (.putfield 18, 3) := by decide +kernel
theorem dX0_init_28 : decode cX0_init 28 = .ok (.aload_n 0, 1) := by decide +kernel
theorem dX0_init_29 : decode cX0_init 29 = .ok (.bipush 8, 2) := by decide +kernel
theorem dX0_init_31 : decode cX0_init 31 = .ok (.newarray .int, 2) := by decide +kernel
theorem dX0_init_33 : decode cX0_init 33 = .ok (.putfield 21, 3) := by decide +kernel
theorem dX0_init_36 : decode cX0_init 36 = .ok (.return_, 1) := by decide +kernel
theorem dX0_copyFrom_0 : decode cX0_copyFrom 0 = .ok (.aload_n 1, 1) := by decide +kernel
theorem dX0_copyFrom_1 : decode cX0_copyFrom 1 = .ok (.getfield 9, 3) := by decide +kernel
theorem dX0_copyFrom_4 : decode cX0_copyFrom 4 = .ok (.iconst 0, 1) := by decide +kernel
theorem dX0_copyFrom_5 : decode cX0_copyFrom 5 = .ok (.aload_n 0, 1) := by decide +kernel
theorem dX0_copyFrom_6 : decode cX0_copyFrom 6 = .ok (.getfield 9, 3) := by decide +kernel
theorem dX0_copyFrom_9 : decode cX0_copyFrom 9 = .ok (.iconst 0, 1) := by decide +kernel
theorem dX0_copyFrom_10 : decode cX0_copyFrom 10 = .ok (.bipush 8, 2) := by decide +kernel
theorem dX0_copyFrom_12 : decode cX0_copyFrom 12 = .ok (.invokestatic 24, 3) := by decide +kernel
theorem dX0_copyFrom_15 : decode cX0_copyFrom 15 = .ok (.aload_n 1, 1) := by decide +kernel
theorem dX0_copyFrom_16 : decode cX0_copyFrom 16 = .ok (.getfield 15, 3) := by decide +kernel
theorem dX0_copyFrom_19 : decode cX0_copyFrom 19 = .ok (.iconst 0, 1) := by decide +kernel
theorem dX0_copyFrom_20 : decode cX0_copyFrom 20 = .ok (.aload_n 0, 1) := by decide +kernel
theorem dX0_copyFrom_21 : decode cX0_copyFrom 21 = .ok (.getfield 15, 3) := by decide +kernel
theorem dX0_copyFrom_24 : decode cX0_copyFrom 24 = .ok (.iconst 0, 1) := by decide +kernel
theorem dX0_copyFrom_25 : decode cX0_copyFrom 25 = .ok (.bipush 8, 2) := by decide +kernel
theorem dX0_copyFrom_27 : decode cX0_copyFrom 27 = .ok (.invokestatic 24, 3) := by decide +kernel
theorem dX0_copyFrom_30 : decode cX0_copyFrom 30 = .ok (.aload_n 1, 1) := by decide +kernel
theorem dX0_copyFrom_31 : decode cX0_copyFrom 31 = .ok (.getfield 18, 3) := by decide +kernel
theorem dX0_copyFrom_34 : decode cX0_copyFrom 34 = .ok (.iconst 0, 1) := by decide +kernel
theorem dX0_copyFrom_35 : decode cX0_copyFrom 35 = .ok (.aload_n 0, 1) := by decide +kernel
theorem dX0_copyFrom_36 : decode cX0_copyFrom 36 = .ok (.getfield 18, 3) := by decide +kernel
theorem dX0_copyFrom_39 : decode cX0_copyFrom 39 = .ok (.iconst 0, 1) := by decide +kernel
theorem dX0_copyFrom_40 : decode cX0_copyFrom 40 = .ok (.bipush 8, 2) := by decide +kernel
theorem dX0_copyFrom_42 : decode cX0_copyFrom 42 = .ok (.invokestatic 24, 3) := by decide +kernel
theorem dX0_copyFrom_45 : decode cX0_copyFrom 45 = .ok (.aload_n 1, 1) := by decide +kernel
theorem dX0_copyFrom_46 : decode cX0_copyFrom 46 = .ok (.getfield 21, 3) := by decide +kernel
theorem dX0_copyFrom_49 : decode cX0_copyFrom 49 = .ok (.iconst 0, 1) := by decide +kernel
theorem dX0_copyFrom_50 : decode cX0_copyFrom 50 = .ok (.aload_n 0, 1) := by decide +kernel
theorem dX0_copyFrom_51 : decode cX0_copyFrom 51 = .ok (.getfield 21, 3) := by decide +kernel
theorem dX0_copyFrom_54 : decode cX0_copyFrom 54 = .ok (.iconst 0, 1) := by decide +kernel
theorem dX0_copyFrom_55 : decode cX0_copyFrom 55 = .ok (.bipush 8, 2) := by decide +kernel
theorem dX0_copyFrom_57 : decode cX0_copyFrom 57 = .ok (.invokestatic 24, 3) := by decide +kernel
theorem dX0_copyFrom_60 : decode cX0_copyFrom 60 = .ok (.aload_n 0, 1) := by decide +kernel
theorem dX0_copyFrom_61 : decode cX0_copyFrom 61 = .ok (.aload_n 1, 1) := by decide +kernel
theorem dX0_copyFrom_62 : decode cX0_copyFrom 62 = .ok (.getfield 30, 3) := by decide +kernel
theorem dX0_copyFrom_65 : decode cX0_copyFrom 65 = .ok (.putfield 30, 3) := by decide +kernel
theorem dX0_copyFrom_68 : decode cX0_copyFrom 68 = .ok (.aload_n 0, 1) := by decide +kernel
theorem dX0_copyFrom_69 : decode cX0_copyFrom 69 = .ok (.aload_n 1, 1) := by decide +kernel
theorem dX0_copyFrom_70 : decode cX0_copyFrom 70 = .ok (.getfield 34, 3) := by decide +kernel
theorem dX0_copyFrom_73 : decode cX0_copyFrom 73 = .ok (.putfield 34, 3) := by decide +kernel
theorem dX0_copyFrom_76 : decode cX0_copyFrom 76 = .ok (.aload_n 0, 1) := by decide +kernel
theorem dX0_copyFrom_77 : decode cX0_copyFrom 77 = .ok (.aload_n 1, 1) := by decide +kernel
theorem dX0_copyFrom_78 : decode cX0_copyFrom 78 = .ok (.getfield 37, 3) := by decide +kernel
theorem dX0_copyFrom_81 : decode cX0_copyFrom 81 = .ok (.putfield 37, 3) := by decide +kernel
theorem dX0_copyFrom_84 : decode cX0_copyFrom 84 = .ok (.return_, 1) := by decide +kernel
theorem dX0_has_0 : decode cX0_has 0 = .ok (.iload_n 1, 1) := by decide +kernel
theorem dX0_has_1 : decode cX0_has 1 = .ok (.ifCond .lt 15, 3) := by decide +kernel
theorem dX0_has_4 : decode cX0_has 4 = .ok (.iload_n 1, 1) := by decide +kernel
theorem dX0_has_5 : decode cX0_has 5 = .ok (.aload_n 0, 1) := by decide +kernel
theorem dX0_has_6 : decode cX0_has 6 = .ok (.getfield 30, 3) := by decide +kernel
theorem dX0_has_9 : decode cX0_has 9 = .ok (.if_icmp .ge 7, 3) := by decide +kernel
theorem dX0_has_12 : decode cX0_has 12 = .ok (.iconst 1, 1) := by decide +kernel
theorem dX0_has_13 : decode cX0_has 13 = .ok (.goto 4, 3) := by decide +kernel
theorem dX0_has_16 : decode cX0_has 16 = .ok (.iconst 0, 1) := by decide +kernel
theorem dX0_has_17 : decode cX0_has 17 = .ok (.ireturn, 1) := by decide +kernel
theorem dX0_find_0 : decode cX0_find 0 = .ok (.iconst 0, 1) := by decide +kernel
theorem dX0_find_1 : decode cX0_find 1 = .ok (.istore 4, 2) := by decide +kernel
theorem dX0_find_3 : decode cX0_find 3 = .ok (.iload 4, 2) := by decide +kernel
theorem dX0_find_5 : decode cX0_find 5 = .ok (.aload_n 0, 1) := by decide +kernel
theorem dX0_find_6 : decode cX0_find 6 = .ok (.getfield 30, 3) := by decide +kernel
theorem dX0_find_9 : decode cX0_find 9 = .ok (.if_icmp .ge 45, 3) := by decide +kernel
theorem dX0_find_12 : decode cX0_find 12 = .ok (.aload_n 0, 1) := by decide +kernel
theorem dX0_find_13 : decode cX0_find 13 = .ok (.getfield 9, 3) := by decide +kernel
theorem dX0_find_16 : decode cX0_find 16 = .ok (.iload 4, 2) := by decide +kernel
theorem dX0_find_18 : decode cX0_find 18 = .ok (.iaload, 1) := by decide +kernel
theorem dX0_find_19 : decode cX0_find 19 = .ok (.iload_n 1, 1) := by decide +kernel
theorem dX0_find_20 : decode cX0_find 20 = .ok (.if_icmp .ne 28, 3) := by decide +kernel
theorem dX0_find_23 : decode cX0_find 23 = .ok (.aload_n 0, 1) := by decide +kernel
theorem dX0_find_24 : decode cX0_find 24 = .ok (.getfield 15, 3) := by decide +kernel
theorem dX0_find_27 : decode cX0_find 27 = .ok (.iload 4, 2) := by decide +kernel
theorem dX0_find_29 : decode cX0_find 29 = .ok (.iaload, 1) := by decide +kernel
theorem dX0_find_30 : decode cX0_find 30 = .ok (.iload_n 2, 1) := by decide +kernel
theorem dX0_find_31 : decode cX0_find 31 = .ok (.if_icmp .ne 17, 3) := by decide +kernel
theorem dX0_find_34 : decode cX0_find 34 = .ok (.aload_n 0, 1) := by decide +kernel
theorem dX0_find_35 : decode cX0_find 35 = .ok (.getfield 18, 3) := by decide +kernel
theorem dX0_find_38 : decode cX0_find 38 = .ok (.iload 4, 2) := by decide +kernel
theorem dX0_find_40 : decode cX0_find 40 = .ok (.iaload, 1) := by decide +kernel
theorem dX0_find_41 : decode cX0_find 41 = .ok (.iload_n 3, 1) := by decide +kernel
theorem dX0_find_42 : decode cX0_find 42 = .ok (.if_icmp .ne 6, 3) := by decide +kernel
theorem dX0_find_45 : decode cX0_find 45 = .ok (.iload 4, 2) := by decide +kernel
theorem dX0_find_47 : decode cX0_find 47 = .ok (.ireturn, 1) := by decide +kernel
theorem dX0_find_48 : decode cX0_find 48 = .ok (.iinc 4 1, 3) := by decide +kernel
theorem dX0_find_51 : decode cX0_find 51 = .ok (.goto (-48), 3) := by decide +kernel
theorem dX0_find_54 : decode cX0_find 54 = .ok (.bipush (-6), 2) := by decide +kernel
theorem dX0_find_56 : decode cX0_find 56 = .ok (.ireturn, 1) := by decide +kernel
theorem dX0_allNotes_0 : decode cX0_allNotes 0 = .ok (.iconst 1, 1) := by decide +kernel
theorem dX0_allNotes_1 : decode cX0_allNotes 1 = .ok (.aload_n 0, 1) := by decide +kernel
theorem dX0_allNotes_2 : decode cX0_allNotes 2 = .ok (.getfield 30, 3) := by decide +kernel
theorem dX0_allNotes_5 : decode cX0_allNotes 5 = .ok (.ishl, 1) := by decide +kernel
theorem dX0_allNotes_6 : decode cX0_allNotes 6 = .ok (.iconst 1, 1) := by decide +kernel
theorem dX0_allNotes_7 : decode cX0_allNotes 7 = .ok (.isub, 1) := by decide +kernel
theorem dX0_allNotes_8 : decode cX0_allNotes 8 = .ok (.ireturn, 1) := by decide +kernel
theorem dX0_notesOfPage_0 : decode cX0_notesOfPage 0 = .ok (.iconst 0, 1) := by decide +kernel
theorem dX0_notesOfPage_1 : decode cX0_notesOfPage 1 = .ok (.istore_n 2, 1) := by decide +kernel
theorem dX0_notesOfPage_2 : decode cX0_notesOfPage 2 = .ok (.iconst 0, 1) := by decide +kernel
theorem dX0_notesOfPage_3 : decode cX0_notesOfPage 3 = .ok (.istore_n 3, 1) := by decide +kernel
theorem dX0_notesOfPage_4 : decode cX0_notesOfPage 4 = .ok (.iload_n 3, 1) := by decide +kernel
theorem dX0_notesOfPage_5 : decode cX0_notesOfPage 5 = .ok (.aload_n 0, 1) := by decide +kernel
theorem dX0_notesOfPage_6 : decode cX0_notesOfPage 6 = .ok (.getfield 30, 3) := by decide +kernel
theorem dX0_notesOfPage_9 : decode cX0_notesOfPage 9 = .ok (.if_icmp .ge 25, 3) := by decide +kernel
theorem dX0_notesOfPage_12 : decode cX0_notesOfPage 12 = .ok (.aload_n 0, 1) := by decide +kernel
theorem dX0_notesOfPage_13 : decode cX0_notesOfPage 13 = .ok (.getfield 21, 3) := by decide +kernel
theorem dX0_notesOfPage_16 : decode cX0_notesOfPage 16 = .ok (.iload_n 3, 1) := by decide +kernel
theorem dX0_notesOfPage_17 : decode cX0_notesOfPage 17 = .ok (.iaload, 1) := by decide +kernel
theorem dX0_notesOfPage_18 : decode cX0_notesOfPage 18 = .ok (.iload_n 1, 1) := by decide +kernel
theorem dX0_notesOfPage_19 : decode cX0_notesOfPage 19 = .ok (.if_icmp .ne 9, 3) := by decide +kernel
theorem dX0_notesOfPage_22 : decode cX0_notesOfPage 22 = .ok (.iload_n 2, 1) := by decide +kernel
theorem dX0_notesOfPage_23 : decode cX0_notesOfPage 23 = .ok (.iconst 1, 1) := by decide +kernel
theorem dX0_notesOfPage_24 : decode cX0_notesOfPage 24 = .ok (.iload_n 3, 1) := by decide +kernel
theorem dX0_notesOfPage_25 : decode cX0_notesOfPage 25 = .ok (.ishl, 1) := by decide +kernel
theorem dX0_notesOfPage_26 : decode cX0_notesOfPage 26 = .ok (.ior, 1) := by decide +kernel
theorem dX0_notesOfPage_27 : decode cX0_notesOfPage 27 = .ok (.istore_n 2, 1) := by decide +kernel
theorem dX0_notesOfPage_28 : decode cX0_notesOfPage 28 = .ok (.iinc 3 1, 3) := by decide +kernel
theorem dX0_notesOfPage_31 : decode cX0_notesOfPage 31 = .ok (.goto (-27), 3) := by decide +kernel
theorem dX0_notesOfPage_34 : decode cX0_notesOfPage 34 = .ok (.iload_n 2, 1) := by decide +kernel
theorem dX0_notesOfPage_35 : decode cX0_notesOfPage 35 = .ok (.ireturn, 1) := by decide +kernel
theorem dX0_notesOfDoor_0 : decode cX0_notesOfDoor 0 = .ok (.iconst 0, 1) := by decide +kernel
theorem dX0_notesOfDoor_1 : decode cX0_notesOfDoor 1 = .ok (.istore_n 3, 1) := by decide +kernel
theorem dX0_notesOfDoor_2 : decode cX0_notesOfDoor 2 = .ok (.iconst 0, 1) := by decide +kernel
theorem dX0_notesOfDoor_3 : decode cX0_notesOfDoor 3 = .ok (.istore 4, 2) := by decide +kernel
theorem dX0_notesOfDoor_5 : decode cX0_notesOfDoor 5 = .ok (.iload 4, 2) := by decide +kernel
theorem dX0_notesOfDoor_7 : decode cX0_notesOfDoor 7 = .ok (.aload_n 0, 1) := by decide +kernel
theorem dX0_notesOfDoor_8 : decode cX0_notesOfDoor 8 = .ok (.getfield 30, 3) := by decide +kernel
theorem dX0_notesOfDoor_11 : decode cX0_notesOfDoor 11 = .ok (.if_icmp .ge 38, 3) := by decide +kernel
theorem dX0_notesOfDoor_14 : decode cX0_notesOfDoor 14 = .ok (.aload_n 0, 1) := by decide +kernel
theorem dX0_notesOfDoor_15 : decode cX0_notesOfDoor 15 = .ok (.getfield 9, 3) := by decide +kernel
theorem dX0_notesOfDoor_18 : decode cX0_notesOfDoor 18 = .ok (.iload 4, 2) := by decide +kernel
theorem dX0_notesOfDoor_20 : decode cX0_notesOfDoor 20 = .ok (.iaload, 1) := by decide +kernel
theorem dX0_notesOfDoor_21 : decode cX0_notesOfDoor 21 = .ok (.iload_n 1, 1) := by decide +kernel
theorem dX0_notesOfDoor_22 : decode cX0_notesOfDoor 22 = .ok (.if_icmp .ne 21, 3) := by decide +kernel
theorem dX0_notesOfDoor_25 : decode cX0_notesOfDoor 25 = .ok (.aload_n 0, 1) := by decide +kernel
theorem dX0_notesOfDoor_26 : decode cX0_notesOfDoor 26 = .ok (.getfield 15, 3) := by decide +kernel
theorem dX0_notesOfDoor_29 : decode cX0_notesOfDoor 29 = .ok (.iload 4, 2) := by decide +kernel
theorem dX0_notesOfDoor_31 : decode cX0_notesOfDoor 31 = .ok (.iaload, 1) := by decide +kernel
theorem dX0_notesOfDoor_32 : decode cX0_notesOfDoor 32 = .ok (.iload_n 2, 1) := by decide +kernel
theorem dX0_notesOfDoor_33 : decode cX0_notesOfDoor 33 = .ok (.if_icmp .ne 10, 3) := by decide +kernel
theorem dX0_notesOfDoor_36 : decode cX0_notesOfDoor 36 = .ok (.iload_n 3, 1) := by decide +kernel
theorem dX0_notesOfDoor_37 : decode cX0_notesOfDoor 37 = .ok (.iconst 1, 1) := by decide +kernel
theorem dX0_notesOfDoor_38 : decode cX0_notesOfDoor 38 = .ok (.iload 4, 2) := by decide +kernel
theorem dX0_notesOfDoor_40 : decode cX0_notesOfDoor 40 = .ok (.ishl, 1) := by decide +kernel
theorem dX0_notesOfDoor_41 : decode cX0_notesOfDoor 41 = .ok (.ior, 1) := by decide +kernel
theorem dX0_notesOfDoor_42 : decode cX0_notesOfDoor 42 = .ok (.istore_n 3, 1) := by decide +kernel
theorem dX0_notesOfDoor_43 : decode cX0_notesOfDoor 43 = .ok (.iinc 4 1, 3) := by decide +kernel
theorem dX0_notesOfDoor_46 : decode cX0_notesOfDoor 46 = .ok (.goto (-41), 3) := by decide +kernel
theorem dX0_notesOfDoor_49 : decode cX0_notesOfDoor 49 = .ok (.iload_n 3, 1) := by decide +kernel
theorem dX0_notesOfDoor_50 : decode cX0_notesOfDoor 50 = .ok (.ireturn, 1) := by decide +kernel
theorem dX0_add_0 : decode cX0_add 0 = .ok (.aload_n 0, 1) := by decide +kernel
theorem dX0_add_1 : decode cX0_add 1 = .ok (.getfield 30, 3) := by decide +kernel
theorem dX0_add_4 : decode cX0_add 4 = .ok (.bipush 8, 2) := by decide +kernel
theorem dX0_add_6 : decode cX0_add 6 = .ok (.if_icmp .lt 4, 3) := by decide +kernel
theorem dX0_add_9 : decode cX0_add 9 = .ok (.return_, 1) := by decide +kernel
theorem dX0_add_10 : decode cX0_add 10 = .ok (.aload_n 0, 1) := by decide +kernel
theorem dX0_add_11 : decode cX0_add 11 = .ok (.getfield 9, 3) := by decide +kernel
theorem dX0_add_14 : decode cX0_add 14 = .ok (.aload_n 0, 1) := by decide +kernel
theorem dX0_add_15 : decode cX0_add 15 = .ok (.getfield 30, 3) := by decide +kernel
theorem dX0_add_18 : decode cX0_add 18 = .ok (.iload_n 1, 1) := by decide +kernel
theorem dX0_add_19 : decode cX0_add 19 = .ok (.iastore, 1) := by decide +kernel
theorem dX0_add_20 : decode cX0_add 20 = .ok (.aload_n 0, 1) := by decide +kernel
theorem dX0_add_21 : decode cX0_add 21 = .ok (.getfield 15, 3) := by decide +kernel
theorem dX0_add_24 : decode cX0_add 24 = .ok (.aload_n 0, 1) := by decide +kernel
theorem dX0_add_25 : decode cX0_add 25 = .ok (.getfield 30, 3) := by decide +kernel
theorem dX0_add_28 : decode cX0_add 28 = .ok (.iload_n 2, 1) := by decide +kernel
theorem dX0_add_29 : decode cX0_add 29 = .ok (.iastore, 1) := by decide +kernel
theorem dX0_add_30 : decode cX0_add 30 = .ok (.aload_n 0, 1) := by decide +kernel
theorem dX0_add_31 : decode cX0_add 31 = .ok (.getfield 18, 3) := by decide +kernel
theorem dX0_add_34 : decode cX0_add 34 = .ok (.aload_n 0, 1) := by decide +kernel
theorem dX0_add_35 : decode cX0_add 35 = .ok (.getfield 30, 3) := by decide +kernel
theorem dX0_add_38 : decode cX0_add 38 = .ok (.iload_n 3, 1) := by decide +kernel
theorem dX0_add_39 : decode cX0_add 39 = .ok (.iastore, 1) := by decide +kernel
theorem dX0_add_40 : decode cX0_add 40 = .ok (.aload_n 0, 1) := by decide +kernel
theorem dX0_add_41 : decode cX0_add 41 = .ok (.getfield 21, 3) := by decide +kernel
theorem dX0_add_44 : decode cX0_add 44 = .ok (.aload_n 0, 1) := by decide +kernel
theorem dX0_add_45 : decode cX0_add 45 = .ok (.getfield 30, 3) := by decide +kernel
theorem dX0_add_48 : decode cX0_add 48 = .ok (.iload 4, 2) := by decide +kernel
theorem dX0_add_50 : decode cX0_add 50 = .ok (.iastore, 1) := by decide +kernel
theorem dX0_add_51 : decode cX0_add 51 = .ok (.aload_n 0, 1) := by decide +kernel
theorem dX0_add_52 : decode cX0_add 52 = .ok (.dup, 1) := by decide +kernel
theorem dX0_add_53 : decode cX0_add 53 = .ok (.getfield 30, 3) := by decide +kernel
theorem dX0_add_56 : decode cX0_add 56 = .ok (.iconst 1, 1) := by decide +kernel
theorem dX0_add_57 : decode cX0_add 57 = .ok (.iadd, 1) := by decide +kernel
theorem dX0_add_58 : decode cX0_add 58 = .ok (.putfield 30, 3) := by decide +kernel
theorem dX0_add_61 : decode cX0_add 61 = .ok (.return_, 1) := by decide +kernel
set_option maxRecDepth 20000 in
theorem ggX0_moveToEnd_X0_remove : GoodIn wsX0_moveToEnd wsX0_remove := goodIn_r _ [9, 10, 1, 2, 3, 4, 11, 12, 13, 18, 19, 20, 21, 22, 23, 24] (by decide +kernel) (by decide +kernel)
set_option maxRecDepth 20000 in
theorem gX0_moveToEnd_X0_remove : GoodIn wsX0_moveToEnd (wsV RX0 40 RX0 yX0_remove wsX0_remove) := goodIn_app (goodIn_of _ (by decide +kernel)) ggX0_moveToEnd_X0_remove
set_option maxRecDepth 20000 in
theorem ggX0_moveToEnd_X0_add : GoodIn wsX0_moveToEnd wsX0_add := goodIn_r _ [17, 10, 1, 2, 3, 4, 18, 19, 20, 21, 22, 23, 24] (by decide +kernel) (by decide +kernel)
set_option maxRecDepth 20000 in
theorem gX0_moveToEnd_X0_add : GoodIn wsX0_moveToEnd (wsV RX0 44 RX0 yX0_add wsX0_add) := goodIn_app (goodIn_of _ (by decide +kernel)) ggX0_moveToEnd_X0_add
theorem dX0_moveToEnd_0 : decode cX0_moveToEnd 0 = .ok (.aload_n 0, 1) := by decide +kernel
theorem dX0_moveToEnd_1 : decode cX0_moveToEnd 1 = .ok (.getfield 9, 3) := by decide +kernel
theorem dX0_moveToEnd_4 : decode cX0_moveToEnd 4 = .ok (.iload_n 1, 1) := by decide +kernel
theorem dX0_moveToEnd_5 : decode cX0_moveToEnd 5 = .ok (.iaload, 1) := by decide +kernel
theorem dX0_moveToEnd_6 : decode cX0_moveToEnd 6 = .ok (.istore_n 2, 1) := by decide +kernel
theorem dX0_moveToEnd_7 : decode cX0_moveToEnd 7 = .ok (.aload_n 0, 1) := by decide +kernel
theorem dX0_moveToEnd_8 : decode cX0_moveToEnd 8 = .ok (.getfield 15, 3) := by decide +kernel
theorem dX0_moveToEnd_11 : decode cX0_moveToEnd 11 = .ok (.iload_n 1, 1) := by decide +kernel
theorem dX0_moveToEnd_12 : decode cX0_moveToEnd 12 = .ok (.iaload, 1) := by decide +kernel
theorem dX0_moveToEnd_13 : decode cX0_moveToEnd 13 = .ok (.istore_n 3, 1) := by decide +kernel
theorem dX0_moveToEnd_14 : decode cX0_moveToEnd 14 = .ok (.aload_n 0, 1) := by decide +kernel
theorem dX0_moveToEnd_15 : decode cX0_moveToEnd 15 = .ok (.getfield 18, 3) := by decide +kernel
theorem dX0_moveToEnd_18 : decode cX0_moveToEnd 18 = .ok (.iload_n 1, 1) := by decide +kernel
theorem dX0_moveToEnd_19 : decode cX0_moveToEnd 19 = .ok (.iaload, 1) := by decide +kernel
theorem dX0_moveToEnd_20 : decode cX0_moveToEnd 20 = .ok (.istore 4, 2) := by decide +kernel
theorem dX0_moveToEnd_22 : decode cX0_moveToEnd 22 = .ok (.aload_n 0, 1) := by decide +kernel
theorem dX0_moveToEnd_23 : decode cX0_moveToEnd 23 = .ok (.getfield 21, 3) := by decide +kernel
theorem dX0_moveToEnd_26 : decode cX0_moveToEnd 26 = .ok (.iload_n 1, 1) := by decide +kernel
theorem dX0_moveToEnd_27 : decode cX0_moveToEnd 27 = .ok (.iaload, 1) := by decide +kernel
theorem dX0_moveToEnd_28 : decode cX0_moveToEnd 28 = .ok (.istore 5, 2) := by decide +kernel
theorem dX0_moveToEnd_30 : decode cX0_moveToEnd 30 = .ok (.aload_n 0, 1) := by decide +kernel
theorem dX0_moveToEnd_31 : decode cX0_moveToEnd 31 = .ok (.iconst 1, 1) := by decide +kernel
theorem dX0_moveToEnd_32 : decode cX0_moveToEnd 32 = .ok (.iload_n 1, 1) := by decide +kernel
theorem dX0_moveToEnd_33 : decode cX0_moveToEnd 33 = .ok (.ishl, 1) := by decide +kernel
theorem dX0_moveToEnd_34 : decode cX0_moveToEnd 34 = .ok (.invokevirtual 40, 3) := by decide +kernel
theorem dX0_moveToEnd_37 : decode cX0_moveToEnd 37 = .ok (.pop, 1) := by decide +kernel
theorem dX0_moveToEnd_38 : decode cX0_moveToEnd 38 = .ok (.aload_n 0, 1) := by decide +kernel
theorem dX0_moveToEnd_39 : decode cX0_moveToEnd 39 = .ok (.iload_n 2, 1) := by decide +kernel
theorem dX0_moveToEnd_40 : decode cX0_moveToEnd 40 = .ok (.iload_n 3, 1) := by decide +kernel
theorem dX0_moveToEnd_41 : decode cX0_moveToEnd 41 = .ok (.iload 4, 2) := by decide +kernel
theorem dX0_moveToEnd_43 : decode cX0_moveToEnd 43 = .ok (.iload 5, 2) := by decide +kernel
theorem dX0_moveToEnd_45 : decode cX0_moveToEnd 45 = .ok (.invokevirtual 44, 3) := by decide +kernel
theorem dX0_moveToEnd_48 : decode cX0_moveToEnd 48 = .ok (.return_, 1) := by decide +kernel
set_option maxRecDepth 20000 in
theorem ggX0_wipeThese_X0_remove : GoodIn wsX0_wipeThese wsX0_remove := goodIn_r _ [6, 7, 8, 9, 10, 11, 12, 13, 14, 15, 16, 17, 18, 19, 20, 21] (by decide +kernel) (by decide +kernel)
set_option maxRecDepth 20000 in
theorem gX0_wipeThese_X0_remove : GoodIn wsX0_wipeThese (wsV RX0 40 RX0 yX0_remove wsX0_remove) := goodIn_app (goodIn_of _ (by decide +kernel)) ggX0_wipeThese_X0_remove
theorem dX0_wipeThese_0 : decode cX0_wipeThese 0 = .ok (.aload_n 0, 1) := by decide +kernel
theorem dX0_wipeThese_1 : decode cX0_wipeThese 1 = .ok (.iload_n 1, 1) := by decide +kernel
theorem dX0_wipeThese_2 : decode cX0_wipeThese 2 = .ok (.invokevirtual 40, 3) := by decide +kernel
theorem dX0_wipeThese_5 : decode cX0_wipeThese 5 = .ok (.istore_n 2, 1) := by decide +kernel
theorem dX0_wipeThese_6 : decode cX0_wipeThese 6 = .ok (.aload_n 0, 1) := by decide +kernel
theorem dX0_wipeThese_7 : decode cX0_wipeThese 7 = .ok (.dup, 1) := by decide +kernel
theorem dX0_wipeThese_8 : decode cX0_wipeThese 8 = .ok (.getfield 34, 3) := by decide +kernel
theorem dX0_wipeThese_11 : decode cX0_wipeThese 11 = .ok (.iload_n 2, 1) := by decide +kernel
theorem dX0_wipeThese_12 : decode cX0_wipeThese 12 = .ok (.iadd, 1) := by decide +kernel
theorem dX0_wipeThese_13 : decode cX0_wipeThese 13 = .ok (.putfield 34, 3) := by decide +kernel
theorem dX0_wipeThese_16 : decode cX0_wipeThese 16 = .ok (.iload_n 2, 1) := by decide +kernel
theorem dX0_wipeThese_17 : decode cX0_wipeThese 17 = .ok (.ireturn, 1) := by decide +kernel
set_option maxRecDepth 20000 in
theorem ggX0_dropDownTo_X0_remove : GoodIn wsX0_dropDownTo wsX0_remove := goodIn_r _ [7, 1, 8, 9, 10, 11, 12, 13, 14, 15, 16, 17, 18, 19, 20, 21] (by decide +kernel) (by decide +kernel)
set_option maxRecDepth 20000 in
theorem gX0_dropDownTo_X0_remove : GoodIn wsX0_dropDownTo (wsV RX0 40 RX0 yX0_remove wsX0_remove) := goodIn_app (goodIn_of _ (by decide +kernel)) ggX0_dropDownTo_X0_remove
theorem dX0_dropDownTo_0 : decode cX0_dropDownTo 0 = .ok (.aload_n 0, 1) := by decide +kernel
theorem dX0_dropDownTo_1 : decode cX0_dropDownTo 1 = .ok (.getfield 30, 3) := by decide +kernel
theorem dX0_dropDownTo_4 : decode cX0_dropDownTo 4 = .ok (.iload_n 1, 1) := by decide +kernel
theorem dX0_dropDownTo_5 : decode cX0_dropDownTo 5 = .ok (.if_icmp .le 26, 3) := by decide +kernel
theorem dX0_dropDownTo_8 : decode cX0_dropDownTo 8 = .ok (.aload_n 0, 1) := by decide +kernel
theorem dX0_dropDownTo_9 : decode cX0_dropDownTo 9 = .ok (.dup, 1) := by decide +kernel
theorem dX0_dropDownTo_10 : decode cX0_dropDownTo 10 = .ok (.getfield 37, 3) := by decide +kernel
theorem dX0_dropDownTo_13 : decode cX0_dropDownTo 13 = .ok (.aload_n 0, 1) := by decide +kernel
theorem dX0_dropDownTo_14 : decode cX0_dropDownTo 14 = .ok (.iconst 1, 1) := by decide +kernel
theorem dX0_dropDownTo_15 : decode cX0_dropDownTo 15 = .ok (.aload_n 0, 1) := by decide +kernel
theorem dX0_dropDownTo_16 : decode cX0_dropDownTo 16 = .ok (.getfield 30, 3) := by decide +kernel
theorem dX0_dropDownTo_19 : decode cX0_dropDownTo 19 = .ok (.iload_n 1, 1) := by decide +kernel
theorem dX0_dropDownTo_20 : decode cX0_dropDownTo 20 = .ok (.isub, 1) := by decide +kernel
theorem dX0_dropDownTo_21 : decode cX0_dropDownTo 21 = .ok (.ishl, 1) := by decide +kernel
theorem dX0_dropDownTo_22 : decode cX0_dropDownTo 22 = .ok (.iconst 1, 1) := by decide +kernel
theorem dX0_dropDownTo_23 : decode cX0_dropDownTo 23 = .ok (.isub, 1) := by decide +kernel
theorem dX0_dropDownTo_24 : decode cX0_dropDownTo 24 = .ok (.invokevirtual 40, 3) := by decide +kernel
theorem dX0_dropDownTo_27 : decode cX0_dropDownTo 27 = .ok (.iadd, 1) := by decide +kernel
theorem dX0_dropDownTo_28 : decode cX0_dropDownTo 28 = .ok (.putfield 37, 3) := by decide +kernel
theorem dX0_dropDownTo_31 : decode cX0_dropDownTo 31 = .ok (.return_, 1) := by decide +kernel
set_option maxRecDepth 20000 in
theorem ggX0_remove_X6_isIn : GoodIn wsX0_remove wsX6_isIn := goodIn_r _ [8] (by decide +kernel) (by decide +kernel)
set_option maxRecDepth 20000 in
theorem gX0_remove_X6_isIn_n48 : GoodIn wsX0_remove (wsX6_isIn) := ggX0_remove_X6_isIn
theorem dX0_remove_0 : decode cX0_remove 0 = .ok (.iconst 0, 1) := by decide +kernel
theorem dX0_remove_1 : decode cX0_remove 1 = .ok (.istore_n 2, 1) := by decide +kernel
theorem dX0_remove_2 : decode cX0_remove 2 = .ok (.iconst 0, 1) := by decide +kernel
theorem dX0_remove_3 : decode cX0_remove 3 = .ok (.istore_n 3, 1) := by decide +kernel
theorem dX0_remove_4 : decode cX0_remove 4 = .ok (.iload_n 3, 1) := by decide +kernel
theorem dX0_remove_5 : decode cX0_remove 5 = .ok (.aload_n 0, 1) := by decide +kernel
theorem dX0_remove_6 : decode cX0_remove 6 = .ok (.getfield 30, 3) := by decide +kernel
theorem dX0_remove_9 : decode cX0_remove 9 = .ok (.if_icmp .ge 69, 3) := by decide +kernel
theorem dX0_remove_12 : decode cX0_remove 12 = .ok (.iload_n 1, 1) := by decide +kernel
theorem dX0_remove_13 : decode cX0_remove 13 = .ok (.i2l, 1) := by decide +kernel
theorem dX0_remove_14 : decode cX0_remove 14 = .ok (.iload_n 3, 1) := by decide +kernel
theorem dX0_remove_15 : decode cX0_remove 15 = .ok (.invokestatic 48, 3) := by decide +kernel
theorem dX0_remove_18 : decode cX0_remove 18 = .ok (.ifCond .ne 54, 3) := by decide +kernel
theorem dX0_remove_21 : decode cX0_remove 21 = .ok (.aload_n 0, 1) := by decide +kernel
theorem dX0_remove_22 : decode cX0_remove 22 = .ok (.getfield 9, 3) := by decide +kernel
theorem dX0_remove_25 : decode cX0_remove 25 = .ok (.iload_n 2, 1) := by decide +kernel
theorem dX0_remove_26 : decode cX0_remove 26 = .ok (.aload_n 0, 1) := by decide +kernel
theorem dX0_remove_27 : decode cX0_remove 27 = .ok (.getfield 9, 3) := by decide +kernel
theorem dX0_remove_30 : decode cX0_remove 30 = .ok (.iload_n 3, 1) := by decide +kernel
theorem dX0_remove_31 : decode cX0_remove 31 = .ok (.iaload, 1) := by decide +kernel
theorem dX0_remove_32 : decode cX0_remove 32 = .ok (.iastore, 1) := by decide +kernel
theorem dX0_remove_33 : decode cX0_remove 33 = .ok (.aload_n 0, 1) := by decide +kernel
theorem dX0_remove_34 : decode cX0_remove 34 = .ok (.getfield 15, 3) := by decide +kernel
theorem dX0_remove_37 : decode cX0_remove 37 = .ok (.iload_n 2, 1) := by decide +kernel
theorem dX0_remove_38 : decode cX0_remove 38 = .ok (.aload_n 0, 1) := by decide +kernel
theorem dX0_remove_39 : decode cX0_remove 39 = .ok (.getfield 15, 3) := by decide +kernel
theorem dX0_remove_42 : decode cX0_remove 42 = .ok (.iload_n 3, 1) := by decide +kernel
theorem dX0_remove_43 : decode cX0_remove 43 = .ok (.iaload, 1) := by decide +kernel
theorem dX0_remove_44 : decode cX0_remove 44 = .ok (.iastore, 1) := by decide +kernel
theorem dX0_remove_45 : decode cX0_remove 45 = .ok (.aload_n 0, 1) := by decide +kernel
theorem dX0_remove_46 : decode cX0_remove 46 = .ok (.getfield 18, 3) := by decide +kernel
theorem dX0_remove_49 : decode cX0_remove 49 = .ok (.iload_n 2, 1) := by decide +kernel
theorem dX0_remove_50 : decode cX0_remove 50 = .ok (.aload_n 0, 1) := by decide +kernel
theorem dX0_remove_51 : decode cX0_remove 51 = .ok (.getfield 18, 3) := by decide +kernel
theorem dX0_remove_54 : decode cX0_remove 54 = .ok (.iload_n 3, 1) := by decide +kernel
theorem dX0_remove_55 : decode cX0_remove 55 = .ok (.iaload, 1) := by decide +kernel
theorem dX0_remove_56 : decode cX0_remove 56 = .ok (.iastore, 1) := by decide +kernel
theorem dX0_remove_57 : decode cX0_remove 57 = .ok (.aload_n 0, 1) := by decide +kernel
theorem dX0_remove_58 : decode cX0_remove 58 = .ok (.getfield 21, 3) := by decide +kernel
theorem dX0_remove_61 : decode cX0_remove 61 = .ok (.iload_n 2, 1) := by decide +kernel
theorem dX0_remove_62 : decode cX0_remove 62 = .ok (.aload_n 0, 1) := by decide +kernel
theorem dX0_remove_63 : decode cX0_remove 63 = .ok (.getfield 21, 3) := by decide +kernel
theorem dX0_remove_66 : decode cX0_remove 66 = .ok (.iload_n 3, 1) := by decide +kernel
theorem dX0_remove_67 : decode cX0_remove 67 = .ok (.iaload, 1) := by decide +kernel
theorem dX0_remove_68 : decode cX0_remove 68 = .ok (.iastore, 1) := by decide +kernel
theorem dX0_remove_69 : decode cX0_remove 69 = .ok (.iinc 2 1, 3) := by decide +kernel
theorem dX0_remove_72 : decode cX0_remove 72 = .ok (.iinc 3 1, 3) := by decide +kernel
theorem dX0_remove_75 : decode cX0_remove 75 = .ok (.goto (-71), 3) := by decide +kernel
theorem dX0_remove_78 : decode cX0_remove 78 = .ok (.aload_n 0, 1) := by decide +kernel
theorem dX0_remove_79 : decode cX0_remove 79 = .ok (.getfield 30, 3) := by decide +kernel
theorem dX0_remove_82 : decode cX0_remove 82 = .ok (.iload_n 2, 1) := by decide +kernel
theorem dX0_remove_83 : decode cX0_remove 83 = .ok (.isub, 1) := by decide +kernel
theorem dX0_remove_84 : decode cX0_remove 84 = .ok (.istore_n 3, 1) := by decide +kernel
theorem dX0_remove_85 : decode cX0_remove 85 = .ok (.aload_n 0, 1) := by decide +kernel
theorem dX0_remove_86 : decode cX0_remove 86 = .ok (.iload_n 2, 1) := by decide +kernel
theorem dX0_remove_87 : decode cX0_remove 87 = .ok (.putfield 30, 3) := by decide +kernel
theorem dX0_remove_90 : decode cX0_remove 90 = .ok (.iload_n 3, 1) := by decide +kernel
theorem dX0_remove_91 : decode cX0_remove 91 = .ok (.ireturn, 1) := by decide +kernel
theorem dX1_init_0 : decode cX1_init 0 = .ok (.aload_n 0, 1) := by decide +kernel
theorem dX1_init_1 : decode cX1_init 1 = .ok (.invokespecial 3, 3) := by decide +kernel
theorem dX1_init_4 : decode cX1_init 4 = .ok (.aload_n 0, 1) := by decide +kernel
theorem dX1_init_5 : decode cX1_init 5 = .ok (.bipush 7, 2) := by decide +kernel
theorem dX1_init_7 : decode cX1_init 7 = .ok (.anewarray 9, 3) := by decide +kernel
theorem dX1_init_10 : decode cX1_init 10 = .ok (.putfield 11, 3) := by decide +kernel
theorem dX1_init_13 : decode cX1_init 13 = .ok (.return_, 1) := by decide +kernel
set_option maxRecDepth 20000 in
theorem ggX1_remember_X2_init : GoodIn wsX1_remember wsX2_init := goodIn_r _ [8, 9, 10, 11, 12, 13, 14, 15, 16, 17, 18, 19, 20, 21, 22, 23, 24, 25, 26, 27, 28, 29, 30, 31, 32, 33, 34, 35, 36, 37, 38, 39, 40, 41, 42, 43, 44, 45, 46, 47, 48, 49, 80, 81, 82, 83, 84, 85, 86, 87, 88, 89, 90, 91, 92, 93, 94, 95, 96, 97, 98, 99, 100, 101, 102, 103, 104] (by decide +kernel) (by decide +kernel)
set_option maxRecDepth 20000 in
theorem gX1_remember_X2_init : GoodIn wsX1_remember (wsX2_init) := ggX1_remember_X2_init
set_option maxRecDepth 20000 in
theorem ggX1_remember_X2_copyFrom : GoodIn wsX1_remember wsX2_copyFrom := goodIn_r _ [53, 13, 54, 55, 56, 57, 14, 21, 22, 26, 30, 58, 59, 60, 61, 62, 63, 64, 25, 65, 34, 66, 35, 36, 37, 38, 67, 68, 69, 70, 71, 72, 29, 73, 42, 74, 43, 44, 45, 75, 76, 77, 80, 81, 82, 83, 84, 85, 86, 87, 88, 89, 90, 91, 92, 93, 94, 95, 96, 97, 98, 99, 100, 101, 102, 103, 104] (by decide +kernel) (by decide +kernel)
set_option maxRecDepth 20000 in
theorem gX1_remember_X2_copyFrom : GoodIn wsX1_remember (wsV RX1 22 RX2 yX2_copyFrom wsX2_copyFrom) := goodIn_app (goodIn_of _ (by decide +kernel)) ggX1_remember_X2_copyFrom
theorem dX1_remember_0 : decode cX1_remember 0 = .ok (.aload_n 0, 1) := by decide +kernel
theorem dX1_remember_1 : decode cX1_remember 1 = .ok (.getfield 11, 3) := by decide +kernel
theorem dX1_remember_4 : decode cX1_remember 4 = .ok (.aload_n 0, 1) := by decide +kernel
theorem dX1_remember_5 : decode cX1_remember 5 = .ok (.getfield 17, 3) := by decide +kernel
theorem dX1_remember_8 : decode cX1_remember 8 = .ok (.aaload, 1) := by decide +kernel
theorem dX1_remember_9 : decode cX1_remember 9 = .ok (.ifnonnull 19, 3) := by decide +kernel
theorem dX1_remember_12 : decode cX1_remember 12 = .ok (.aload_n 0, 1) := by decide +kernel
theorem dX1_remember_13 : decode cX1_remember 13 = .ok (.getfield 11, 3) := by decide +kernel
theorem dX1_remember_16 : decode cX1_remember 16 = .ok (.aload_n 0, 1) := by decide +kernel
theorem dX1_remember_17 : decode cX1_remember 17 = .ok (.getfield 17, 3) := by decide +kernel
theorem dX1_remember_20 : decode cX1_remember 20 = .ok (.new 9, 3) := by decide +kernel
theorem dX1_remember_23 : decode cX1_remember 23 = .ok (.dup, 1) := by decide +kernel
theorem dX1_remember_24 : decode cX1_remember 24 = .ok (.invokespecial 21, 3) := by decide +kernel
theorem dX1_remember_27 : decode cX1_remember 27 = .ok (.aastore, 1) := by decide +kernel
theorem dX1_remember_28 : decode cX1_remember 28 = .ok (.aload_n 0, 1) := by decide +kernel
theorem dX1_remember_29 : decode cX1_remember 29 = .ok (.getfield 11, 3) := by decide +kernel
theorem dX1_remember_32 : decode cX1_remember 32 = .ok (.aload_n 0, 1) := by decide +kernel
theorem dX1_remember_33 : decode cX1_remember 33 = .ok (.getfield 17, 3) := by decide +kernel
theorem dX1_remember_36 : decode cX1_remember 36 = .ok (.aaload, 1) := by decide +kernel
theorem dX1_remember_37 : decode cX1_remember 37 = .ok (.aload_n 1, 1) := by decide +kernel
theorem dX1_remember_38 : decode cX1_remember 38 = .ok (.invokevirtual 22, 3) := by decide +kernel
theorem dX1_remember_41 : decode cX1_remember 41 = .ok (.return_, 1) := by decide +kernel
set_option maxRecDepth 20000 in
theorem ggX1_keepUnlessError_X1_keepLast : GoodIn wsX1_keepUnlessError wsX1_keepLast := goodIn_r _ [5, 6, 7, 8, 9] (by decide +kernel) (by decide +kernel)
set_option maxRecDepth 20000 in
theorem gX1_keepUnlessError_X1_keepLast : GoodIn wsX1_keepUnlessError (wsV RX1 26 RX1 yX1_keepLast wsX1_keepLast) := goodIn_app (goodIn_of _ (by decide +kernel)) ggX1_keepUnlessError_X1_keepLast
theorem dX1_keepUnlessError_0 : decode cX1_keepUnlessError 0 = .ok (.iload_n 1, 1) := by decide +kernel
theorem dX1_keepUnlessError_1 : decode cX1_keepUnlessError 1 = .ok (.ifCond .lt 7, 3) := by decide +kernel
theorem dX1_keepUnlessError_4 : decode cX1_keepUnlessError 4 = .ok (.aload_n 0, 1) := by decide +kernel
theorem dX1_keepUnlessError_5 : decode cX1_keepUnlessError 5 = .ok (.invokevirtual 26, 3) := by decide +kernel
theorem dX1_keepUnlessError_8 : decode cX1_keepUnlessError 8 = .ok (.iload_n 1, 1) := by decide +kernel
theorem dX1_keepUnlessError_9 : decode cX1_keepUnlessError 9 = .ok (.ireturn, 1) := by decide +kernel
theorem dX1_keepLast_0 : decode cX1_keepLast 0 = .ok (.aload_n 0, 1) := by decide +kernel
theorem dX1_keepLast_1 : decode cX1_keepLast 1 = .ok (.getfield 17, 3) := by decide +kernel
theorem dX1_keepLast_4 : decode cX1_keepLast 4 = .ok (.bipush 6, 2) := by decide +kernel
theorem dX1_keepLast_6 : decode cX1_keepLast 6 = .ok (.if_icmp .ge 14, 3) := by decide +kernel
theorem dX1_keepLast_9 : decode cX1_keepLast 9 = .ok (.aload_n 0, 1) := by decide +kernel
theorem dX1_keepLast_10 : decode cX1_keepLast 10 = .ok (.dup, 1) := by decide +kernel
theorem dX1_keepLast_11 : decode cX1_keepLast 11 = .ok (.getfield 17, 3) := by decide +kernel
theorem dX1_keepLast_14 : decode cX1_keepLast 14 = .ok (.iconst 1, 1) := by decide +kernel
theorem dX1_keepLast_15 : decode cX1_keepLast 15 = .ok (.iadd, 1) := by decide +kernel
theorem dX1_keepLast_16 : decode cX1_keepLast 16 = .ok (.putfield 17, 3) := by decide +kernel
theorem dX1_keepLast_19 : decode cX1_keepLast 19 = .ok (.return_, 1) := by decide +kernel
theorem dX1_keepLast_20 : decode cX1_keepLast 20 = .ok (.aload_n 0, 1) := by decide +kernel
theorem dX1_keepLast_21 : decode cX1_keepLast 21 = .ok (.getfield 11, 3) := by decide +kernel
theorem dX1_keepLast_24 : decode cX1_keepLast 24 = .ok (.iconst 0, 1) := by decide +kernel
theorem dX1_keepLast_25 : decode cX1_keepLast 25 = .ok (.aaload, 1) := by decide +kernel
theorem dX1_keepLast_26 : decode cX1_keepLast 26 = .ok (.astore_n 1, 1) := by decide +kernel
theorem dX1_keepLast_27 : decode cX1_keepLast 27 = .ok (.iconst 0, 1) := by decide +kernel
theorem dX1_keepLast_28 : decode cX1_keepLast 28 = .ok (.istore_n 2, 1) := by decide +kernel
theorem dX1_keepLast_29 : decode cX1_keepLast 29 = .ok (.iload_n 2, 1) := by decide +kernel
theorem dX1_keepLast_30 : decode cX1_keepLast 30 = .ok (.bipush 6, 2) := by decide +kernel
theorem dX1_keepLast_32 : decode cX1_keepLast 32 = .ok (.if_icmp .ge 23, 3) := by decide +kernel
theorem dX1_keepLast_35 : decode cX1_keepLast 35 = .ok (.aload_n 0, 1) := by decide +kernel
theorem dX1_keepLast_36 : decode cX1_keepLast 36 = .ok (.getfield 11, 3) := by decide +kernel
theorem dX1_keepLast_39 : decode cX1_keepLast 39 = .ok (.iload_n 2, 1) := by decide +kernel
theorem dX1_keepLast_40 : decode cX1_keepLast 40 = .ok (.aload_n 0, 1) := by decide +kernel
theorem dX1_keepLast_41 : decode cX1_keepLast 41 = .ok (.getfield 11, 3) := by decide +kernel
theorem dX1_keepLast_44 : decode cX1_keepLast 44 = .ok (.iload_n 2, 1) := by decide +kernel
theorem dX1_keepLast_45 : decode cX1_keepLast 45 = .ok (.iconst 1, 1) := by decide +kernel
theorem dX1_keepLast_46 : decode cX1_keepLast 46 = .ok (.iadd, 1) := by decide +kernel
theorem dX1_keepLast_47 : decode cX1_keepLast 47 = .ok (.aaload, 1) := by decide +kernel
theorem dX1_keepLast_48 : decode cX1_keepLast 48 = .ok (.aastore, 1) := by decide +kernel
theorem dX1_keepLast_49 : decode cX1_keepLast 49 = .ok (.iinc 2 1, 3) := by decide +kernel
theorem dX1_keepLast_52 : decode cX1_keepLast 52 = .ok (.goto (-23), 3) := by decide +kernel
theorem dX1_keepLast_55 : decode cX1_keepLast 55 = .ok (.aload_n 0, 1) := by decide +kernel
theorem dX1_keepLast_56 : decode cX1_keepLast 56 = .ok (.getfield 11, 3) := by decide +kernel
theorem dX1_keepLast_59 : decode cX1_keepLast 59 = .ok (.bipush 6, 2) := by decide +kernel
theorem dX1_keepLast_61 : decode cX1_keepLast 61 = .ok (.aload_n 1, 1) := by decide +kernel
theorem dX1_keepLast_62 : decode cX1_keepLast 62 = .ok (.aastore, 1) := by decide +kernel
theorem dX1_keepLast_63 : decode cX1_keepLast 63 = .ok (.return_, 1) := by decide +kernel
set_option maxRecDepth 20000 in
theorem ggX1_goBack_X2_copyFrom : GoodIn wsX1_goBack wsX2_copyFrom := goodIn_r _ [7, 8, 9, 10, 11, 12, 13, 14, 15, 16, 17, 18, 19, 20, 21, 22, 23, 24, 25, 26, 27, 28, 29, 30, 31, 32, 33, 34, 35, 36, 37, 38, 39, 40, 41, 42, 43, 44, 45, 46, 47, 48, 51, 52, 53, 54, 55, 56, 57, 58, 59, 60, 61, 62, 63, 64, 65, 66, 67, 68, 69, 70, 71, 72, 73, 74, 75] (by decide +kernel) (by decide +kernel)
set_option maxRecDepth 20000 in
theorem gX1_goBack_X2_copyFrom : GoodIn wsX1_goBack (wsV RX1 22 RX2 yX2_copyFrom wsX2_copyFrom) := goodIn_app (goodIn_of _ (by decide +kernel)) ggX1_goBack_X2_copyFrom
theorem dX1_goBack_0 : decode cX1_goBack 0 = .ok (.aload_n 0, 1) := by decide +kernel
theorem dX1_goBack_1 : decode cX1_goBack 1 = .ok (.getfield 17, 3) := by decide +kernel
theorem dX1_goBack_4 : decode cX1_goBack 4 = .ok (.ifCond .le 17, 3) := by decide +kernel
theorem dX1_goBack_7 : decode cX1_goBack 7 = .ok (.aload_n 0, 1) := by decide +kernel
theorem dX1_goBack_8 : decode cX1_goBack 8 = .ok (.getfield 11, 3) := by decide +kernel
theorem dX1_goBack_11 : decode cX1_goBack 11 = .ok (.aload_n 0, 1) := by decide +kernel
theorem dX1_goBack_12 : decode cX1_goBack 12 = .ok (.getfield 17, 3) := by decide +kernel
theorem dX1_goBack_15 : decode cX1_goBack 15 = .ok (.iconst 1, 1) := by decide +kernel
theorem dX1_goBack_16 : decode cX1_goBack 16 = .ok (.isub, 1) := by decide +kernel
theorem dX1_goBack_17 : decode cX1_goBack 17 = .ok (.aaload, 1) := by decide +kernel
theorem dX1_goBack_18 : decode cX1_goBack 18 = .ok (.goto 4, 3) := by decide +kernel
theorem dX1_goBack_21 : decode cX1_goBack 21 = .ok (.aconst_null, 1) := by decide +kernel
theorem dX1_goBack_22 : decode cX1_goBack 22 = .ok (.astore_n 2, 1) := by decide +kernel
theorem dX1_goBack_23 : decode cX1_goBack 23 = .ok (.aload_n 2, 1) := by decide +kernel
theorem dX1_goBack_24 : decode cX1_goBack 24 = .ok (.ifnonnull 6, 3) := by decide +kernel
theorem dX1_goBack_27 : decode cX1_goBack 27 = .ok (.bipush (-5), 2) := by decide +kernel
theorem dX1_goBack_29 : decode cX1_goBack 29 = .ok (.ireturn, 1) := by decide +kernel
theorem dX1_goBack_30 : decode cX1_goBack 30 = .ok (.aload_n 0, 1) := by decide +kernel
theorem dX1_goBack_31 : decode cX1_goBack 31 = .ok (.dup, 1) := by decide +kernel
theorem dX1_goBack_32 : decode cX1_goBack 32 = .ok (.getfield 17, 3) := by decide +kernel
theorem dX1_goBack_35 : decode cX1_goBack 35 = .ok (.iconst 1, 1) := by decide +kernel
theorem dX1_goBack_36 : decode cX1_goBack 36 = .ok (.isub, 1) := by decide +kernel
theorem dX1_goBack_37 : decode cX1_goBack 37 = .ok (.putfield 17, 3) := by decide +kernel
theorem dX1_goBack_40 : decode cX1_goBack 40 = .ok (.aload_n 1, 1) := by decide +kernel
theorem dX1_goBack_41 : decode cX1_goBack 41 = .ok (.aload_n 2, 1) := by decide +kernel
theorem dX1_goBack_42 : decode cX1_goBack 42 = .ok (.invokevirtual 22, 3) := by decide +kernel
theorem dX1_goBack_45 : decode cX1_goBack 45 = .ok (.aload_n 0, 1) := by decide +kernel
theorem dX1_goBack_46 : decode cX1_goBack 46 = .ok (.getfield 17, 3) := by decide +kernel
theorem dX1_goBack_49 : decode cX1_goBack 49 = .ok (.ireturn, 1) := by decide +kernel
set_option maxRecDepth 20000 in
theorem ggX2_init_X4_init : GoodIn wsX2_init wsX4_init := goodIn_r _ [24, 25, 2, 3, 4, 26, 27, 28, 29, 30, 52, 53, 54, 55, 56, 57, 58, 59] (by decide +kernel) (by decide +kernel)
set_option maxRecDepth 20000 in
theorem gX2_init_X4_init_n34 : GoodIn wsX2_init (wsX4_init) := ggX2_init_X4_init
set_option maxRecDepth 20000 in
theorem ggX2_init_X0_init : GoodIn wsX2_init wsX0_init := goodIn_r _ [32, 33, 2, 3, 4, 34, 35, 36, 37, 60, 61, 62, 63, 64, 65, 66] (by decide +kernel) (by decide +kernel)
set_option maxRecDepth 20000 in
theorem gX2_init_X0_init_n41 : GoodIn wsX2_init (wsX0_init) := ggX2_init_X0_init
set_option maxRecDepth 20000 in
theorem ggX2_init_J7_fill_53178 : GoodIn wsX2_init wsJ7_fill_53178 := goodIn_r _ [41] (by decide +kernel) (by decide +kernel)
set_option maxRecDepth 20000 in
theorem gX2_init_J7_fill_53178 : GoodIn wsX2_init (va_wsS RX2 46 yJ7_fill_53178 wsJ7_fill_53178) := goodIn_app (goodIn_of _ (by decide +kernel)) ggX2_init_J7_fill_53178
theorem dX2_init_0 : decode cX2_init 0 = .ok (.aload_n 0, 1) := by decide +kernel
theorem dX2_init_1 : decode cX2_init 1 = .ok (.invokespecial 3, 3) := by decide +kernel
theorem dX2_init_4 : decode cX2_init 4 = .ok (.aload_n 0, 1) := by decide +kernel
theorem dX2_init_5 : decode cX2_init 5 = .ok (.bipush 12, 2) := by decide +kernel
theorem dX2_init_7 : decode cX2_init 7 = .ok (.newarray .int, 2) := by decide +kernel
theorem dX2_init_9 : decode cX2_init 9 = .ok (.putfield 9, 3) := by decide +kernel
theorem dX2_init_12 : decode cX2_init 12 = .ok (.aload_n 0, 1) := by decide +kernel
theorem dX2_init_13 : decode cX2_init 13 = .ok (.bipush 60, 2) := by decide +kernel
theorem dX2_init_15 : decode cX2_init 15 = .ok (.newarray .int, 2) := by decide +kernel
theorem dX2_init_17 : decode cX2_init 17 = .ok (.putfield 15, 3) := by decide +kernel
theorem dX2_init_20 : decode cX2_init 20 = .ok (.aload_n 0, 1) := by decide +kernel
theorem dX2_init_21 : decode cX2_init 21 = .ok (.getstatic 18, 3) := by decide +kernel
theorem dX2_init_24 : decode cX2_init 24 = .ok (.invokevirtual 21, 3) := by decide +kernel
theorem dX2_init_27 : decode cX2_init 27 = .ok (.checkcast 22, 3) := by decide +kernel
theorem dX2_init_30 : decode cX2_init 30 = .ok (.putfield 26, 3) := by decide +kernel
theorem dX2_init_33 : decode cX2_init 33 = .ok (.aload_n 0, 1) := by decide +kernel
theorem dX2_init_34 : decode cX2_init 34 = .ok (.bipush 7, 2) := by decide +kernel
theorem dX2_init_36 : decode cX2_init 36 = .ok (.newarray .int, 2) := by decide +kernel
theorem dX2_init_38 : decode cX2_init 38 = .ok (.putfield 29, 3) := by decide +kernel
theorem dX2_init_41 : decode cX2_init 41 = .ok (.aload_n 0, 1) := by decide +kernel
theorem dX2_init_42 : decode cX2_init 42 = .ok (.new 32, 3) := by decide +kernel
theorem dX2_init_45 : decode cX2_init 45 = .ok (.dup, 1) := by decide +kernel
theorem dX2_init_46 : decode cX2_init 46 = .ok (.invokespecial 34, 3) := by decide +kernel
theorem dX2_init_49 : decode cX2_init 49 = .ok (.putfield 35, 3) := by decide +kernel
theorem dX2_init_52 : decode cX2_init 52 = .ok (.aload_n 0, 1) := by decide +kernel
theorem dX2_init_53 : decode cX2_init 53 = .ok (.new 39, 3) := by decide +kernel
theorem dX2_init_56 : decode cX2_init 56 = .ok (.dup, 1) := by decide +kernel
theorem dX2_init_57 : decode cX2_init 57 = .ok (.invokespecial 41, 3) := by decide +kernel
theorem dX2_init_60 : decode cX2_init 60 = .ok (.putfield 42, 3) := by decide +kernel
theorem dX2_init_63 : decode cX2_init 63 = .ok (.aload_n 0, 1) := by decide +kernel
theorem dX2_init_64 : decode cX2_init 64 = .ok (.getfield 9, 3) := by decide +kernel
theorem dX2_init_67 : decode cX2_init 67 = .ok (.bipush (-6), 2) := by decide +kernel
theorem dX2_init_69 : decode cX2_init 69 = .ok (.invokestatic 46, 3) := by decide +kernel
theorem dX2_init_72 : decode cX2_init 72 = .ok (.aload_n 0, 1) := by decide +kernel
theorem dX2_init_73 : decode cX2_init 73 = .ok (.getfield 15, 3) := by decide +kernel
theorem dX2_init_76 : decode cX2_init 76 = .ok (.bipush (-6), 2) := by decide +kernel
theorem dX2_init_78 : decode cX2_init 78 = .ok (.invokestatic 46, 3) := by decide +kernel
theorem dX2_init_81 : decode cX2_init 81 = .ok (.return_, 1) := by decide +kernel
set_option maxRecDepth 20000 in
theorem ggX2_copyFrom_X4_copyFrom : GoodIn wsX2_copyFrom wsX4_copyFrom := goodIn_r _ [19, 20, 21, 3, 4, 5, 22, 23, 24, 25, 26, 27, 28, 52, 53, 54, 55, 56, 57, 58, 59] (by decide +kernel) (by decide +kernel)
set_option maxRecDepth 20000 in
theorem gX2_copyFrom_X4_copyFrom : GoodIn wsX2_copyFrom (wsV RX2 58 RX4 yX4_copyFrom wsX4_copyFrom) := goodIn_app (goodIn_of _ (by decide +kernel)) ggX2_copyFrom_X4_copyFrom
set_option maxRecDepth 20000 in
theorem ggX2_copyFrom_X0_copyFrom : GoodIn wsX2_copyFrom wsX0_copyFrom := goodIn_r _ [33, 34, 35, 3, 4, 5, 36, 37, 38, 39, 40, 41, 60, 61, 62, 63, 64, 65, 66] (by decide +kernel) (by decide +kernel)
set_option maxRecDepth 20000 in
theorem gX2_copyFrom_X0_copyFrom : GoodIn wsX2_copyFrom (wsV RX2 62 RX0 yX0_copyFrom wsX0_copyFrom) := goodIn_app (goodIn_of _ (by decide +kernel)) ggX2_copyFrom_X0_copyFrom
theorem dX2_copyFrom_0 : decode cX2_copyFrom 0 = .ok (.aload_n 1, 1) := by decide +kernel
theorem dX2_copyFrom_1 : decode cX2_copyFrom 1 = .ok (.getfield 9, 3) := by decide +kernel
theorem dX2_copyFrom_4 : decode cX2_copyFrom 4 = .ok (.iconst 0, 1) := by decide +kernel
theorem dX2_copyFrom_5 : decode cX2_copyFrom 5 = .ok (.aload_n 0, 1) := by decide +kernel
theorem dX2_copyFrom_6 : decode cX2_copyFrom 6 = .ok (.getfield 9, 3) := by decide +kernel
theorem dX2_copyFrom_9 : decode cX2_copyFrom 9 = .ok (.iconst 0, 1) := by decide +kernel
theorem dX2_copyFrom_10 : decode cX2_copyFrom 10 = .ok (.bipush 12, 2) := by decide +kernel
theorem dX2_copyFrom_12 : decode cX2_copyFrom 12 = .ok (.invokestatic 52, 3) := by decide +kernel
theorem dX2_copyFrom_15 : decode cX2_copyFrom 15 = .ok (.aload_n 1, 1) := by decide +kernel
theorem dX2_copyFrom_16 : decode cX2_copyFrom 16 = .ok (.getfield 15, 3) := by decide +kernel
theorem dX2_copyFrom_19 : decode cX2_copyFrom 19 = .ok (.iconst 0, 1) := by decide +kernel
theorem dX2_copyFrom_20 : decode cX2_copyFrom 20 = .ok (.aload_n 0, 1) := by decide +kernel
theorem dX2_copyFrom_21 : decode cX2_copyFrom 21 = .ok (.getfield 15, 3) := by decide +kernel
theorem dX2_copyFrom_24 : decode cX2_copyFrom 24 = .ok (.iconst 0, 1) := by decide +kernel
theorem dX2_copyFrom_25 : decode cX2_copyFrom 25 = .ok (.bipush 60, 2) := by decide +kernel
theorem dX2_copyFrom_27 : decode cX2_copyFrom 27 = .ok (.invokestatic 52, 3) := by decide +kernel
theorem dX2_copyFrom_30 : decode cX2_copyFrom 30 = .ok (.aload_n 1, 1) := by decide +kernel
theorem dX2_copyFrom_31 : decode cX2_copyFrom 31 = .ok (.getfield 26, 3) := by decide +kernel
theorem dX2_copyFrom_34 : decode cX2_copyFrom 34 = .ok (.iconst 0, 1) := by decide +kernel
theorem dX2_copyFrom_35 : decode cX2_copyFrom 35 = .ok (.aload_n 0, 1) := by decide +kernel
theorem dX2_copyFrom_36 : decode cX2_copyFrom 36 = .ok (.getfield 26, 3) := by decide +kernel
theorem dX2_copyFrom_39 : decode cX2_copyFrom 39 = .ok (.iconst 0, 1) := by decide +kernel
theorem dX2_copyFrom_40 : decode cX2_copyFrom 40 = .ok (.iconst 4, 1) := by decide +kernel
theorem dX2_copyFrom_41 : decode cX2_copyFrom 41 = .ok (.invokestatic 52, 3) := by decide +kernel
theorem dX2_copyFrom_44 : decode cX2_copyFrom 44 = .ok (.aload_n 1, 1) := by decide +kernel
theorem dX2_copyFrom_45 : decode cX2_copyFrom 45 = .ok (.getfield 29, 3) := by decide +kernel
theorem dX2_copyFrom_48 : decode cX2_copyFrom 48 = .ok (.iconst 0, 1) := by decide +kernel
theorem dX2_copyFrom_49 : decode cX2_copyFrom 49 = .ok (.aload_n 0, 1) := by decide +kernel
theorem dX2_copyFrom_50 : decode cX2_copyFrom 50 = .ok (.getfield 29, 3) := by decide +kernel
theorem dX2_copyFrom_53 : decode cX2_copyFrom 53 = .ok (.iconst 0, 1) := by decide +kernel
theorem dX2_copyFrom_54 : decode cX2_copyFrom 54 = .ok (.bipush 7, 2) := by decide +kernel
theorem dX2_copyFrom_56 : decode cX2_copyFrom 56 = .ok (.invokestatic 52, 3) := by decide +kernel
theorem dX2_copyFrom_59 : decode cX2_copyFrom 59 = .ok (.aload_n 0, 1) := by decide +kernel
theorem dX2_copyFrom_60 : decode cX2_copyFrom 60 = .ok (.getfield 35, 3) := by decide +kernel
theorem dX2_copyFrom_63 : decode cX2_copyFrom 63 = .ok (.aload_n 1, 1) := by decide +kernel
theorem dX2_copyFrom_64 : decode cX2_copyFrom 64 = .ok (.getfield 35, 3) := by decide +kernel
theorem dX2_copyFrom_67 : decode cX2_copyFrom 67 = .ok (.invokevirtual 58, 3) := by decide +kernel
theorem dX2_copyFrom_70 : decode cX2_copyFrom 70 = .ok (.aload_n 0, 1) := by decide +kernel
theorem dX2_copyFrom_71 : decode cX2_copyFrom 71 = .ok (.getfield 42, 3) := by decide +kernel
theorem dX2_copyFrom_74 : decode cX2_copyFrom 74 = .ok (.aload_n 1, 1) := by decide +kernel
theorem dX2_copyFrom_75 : decode cX2_copyFrom 75 = .ok (.getfield 42, 3) := by decide +kernel
theorem dX2_copyFrom_78 : decode cX2_copyFrom 78 = .ok (.invokevirtual 62, 3) := by decide +kernel
theorem dX2_copyFrom_81 : decode cX2_copyFrom 81 = .ok (.aload_n 0, 1) := by decide +kernel
theorem dX2_copyFrom_82 : decode cX2_copyFrom 82 = .ok (.aload_n 1, 1) := by decide +kernel
theorem dX2_copyFrom_83 : decode cX2_copyFrom 83 = .ok (.getfield 65, 3) := by decide +kernel
theorem dX2_copyFrom_86 : decode cX2_copyFrom 86 = .ok (.putfield 65, 3) := by decide +kernel
theorem dX2_copyFrom_89 : decode cX2_copyFrom 89 = .ok (.aload_n 0, 1) := by decide +kernel
theorem dX2_copyFrom_90 : decode cX2_copyFrom 90 = .ok (.aload_n 1, 1) := by decide +kernel
theorem dX2_copyFrom_91 : decode cX2_copyFrom 91 = .ok (.getfield 69, 3) := by decide +kernel
theorem dX2_copyFrom_94 : decode cX2_copyFrom 94 = .ok (.putfield 69, 3) := by decide +kernel
theorem dX2_copyFrom_97 : decode cX2_copyFrom 97 = .ok (.aload_n 0, 1) := by decide +kernel
theorem dX2_copyFrom_98 : decode cX2_copyFrom 98 = .ok (.aload_n 1, 1) := by decide +kernel
theorem dX2_copyFrom_99 : decode cX2_copyFrom 99 = .ok (.getfield 72, 3) := by decide +kernel
theorem dX2_copyFrom_102 : decode cX2_copyFrom 102 = .ok (.putfield 72, 3) := by decide +kernel
theorem dX2_copyFrom_105 : decode cX2_copyFrom 105 = .ok (.aload_n 0, 1) := by decide +kernel
theorem dX2_copyFrom_106 : decode cX2_copyFrom 106 = .ok (.aload_n 1, 1) := by decide +kernel
theorem dX2_copyFrom_107 : decode cX2_copyFrom 107 = .ok (.getfield 75, 3) := by decide +kernel
theorem dX2_copyFrom_110 : decode cX2_copyFrom 110 = .ok (.putfield 75, 3) := by decide +kernel
theorem dX2_copyFrom_113 : decode cX2_copyFrom 113 = .ok (.return_, 1) := by decide +kernel
set_option maxRecDepth 20000 in
theorem ggX2_changeSetting_X0_dropDownTo : GoodIn wsX2_changeSetting wsX0_dropDownTo := goodIn_r _ [7, 8, 9, 10, 11, 12, 6, 13, 14, 15, 16, 17, 18, 19, 20, 31, 32, 33, 34, 35, 36, 37] (by decide +kernel) (by decide +kernel)
set_option maxRecDepth 20000 in
theorem gX2_changeSetting_X0_dropDownTo : GoodIn wsX2_changeSetting (wsV RX2 84 RX0 yX0_dropDownTo wsX0_dropDownTo) := goodIn_app (goodIn_of _ (by decide +kernel)) ggX2_changeSetting_X0_dropDownTo
theorem dX2_changeSetting_0 : decode cX2_changeSetting 0 = .ok (.iload_n 1, 1) := by decide +kernel
theorem dX2_changeSetting_1 : decode cX2_changeSetting 1 = .ok (.ifCond .lt 26, 3) := by decide +kernel
theorem dX2_changeSetting_4 : decode cX2_changeSetting 4 = .ok (.iload_n 1, 1) := by decide +kernel
theorem dX2_changeSetting_5 : decode cX2_changeSetting 5 = .ok (.iconst 4, 1) := by decide +kernel
theorem dX2_changeSetting_6 : decode cX2_changeSetting 6 = .ok (.if_icmp .ge 21, 3) := by decide +kernel
theorem dX2_changeSetting_9 : decode cX2_changeSetting 9 = .ok (.iload_n 2, 1) := by decide +kernel
theorem dX2_changeSetting_10 : decode cX2_changeSetting 10 = .ok (.getstatic 78, 3) := by decide +kernel
theorem dX2_changeSetting_13 : decode cX2_changeSetting 13 = .ok (.iload_n 1, 1) := by decide +kernel
theorem dX2_changeSetting_14 : decode cX2_changeSetting 14 = .ok (.iaload, 1) := by decide +kernel
theorem dX2_changeSetting_15 : decode cX2_changeSetting 15 = .ok (.if_icmp .lt 12, 3) := by decide +kernel
theorem dX2_changeSetting_18 : decode cX2_changeSetting 18 = .ok (.iload_n 2, 1) := by decide +kernel
theorem dX2_changeSetting_19 : decode cX2_changeSetting 19 = .ok (.getstatic 81, 3) := by decide +kernel
theorem dX2_changeSetting_22 : decode cX2_changeSetting 22 = .ok (.iload_n 1, 1) := by decide +kernel
theorem dX2_changeSetting_23 : decode cX2_changeSetting 23 = .ok (.iaload, 1) := by decide +kernel
theorem dX2_changeSetting_24 : decode cX2_changeSetting 24 = .ok (.if_icmp .le 6, 3) := by decide +kernel
theorem dX2_changeSetting_27 : decode cX2_changeSetting 27 = .ok (.bipush (-2), 2) := by decide +kernel
theorem dX2_changeSetting_29 : decode cX2_changeSetting 29 = .ok (.ireturn, 1) := by decide +kernel
theorem dX2_changeSetting_30 : decode cX2_changeSetting 30 = .ok (.aload_n 0, 1) := by decide +kernel
theorem dX2_changeSetting_31 : decode cX2_changeSetting 31 = .ok (.getfield 26, 3) := by decide +kernel
theorem dX2_changeSetting_34 : decode cX2_changeSetting 34 = .ok (.iload_n 1, 1) := by decide +kernel
theorem dX2_changeSetting_35 : decode cX2_changeSetting 35 = .ok (.iaload, 1) := by decide +kernel
theorem dX2_changeSetting_36 : decode cX2_changeSetting 36 = .ok (.istore_n 3, 1) := by decide +kernel
theorem dX2_changeSetting_37 : decode cX2_changeSetting 37 = .ok (.aload_n 0, 1) := by decide +kernel
theorem dX2_changeSetting_38 : decode cX2_changeSetting 38 = .ok (.getfield 26, 3) := by decide +kernel
theorem dX2_changeSetting_41 : decode cX2_changeSetting 41 = .ok (.iload_n 1, 1) := by decide +kernel
theorem dX2_changeSetting_42 : decode cX2_changeSetting 42 = .ok (.iload_n 2, 1) := by decide +kernel
theorem dX2_changeSetting_43 : decode cX2_changeSetting 43 = .ok (.iastore, 1) := by decide +kernel
theorem dX2_changeSetting_44 : decode cX2_changeSetting 44 = .ok (.aload_n 0, 1) := by decide +kernel
theorem dX2_changeSetting_45 : decode cX2_changeSetting 45 = .ok (.getfield 42, 3) := by decide +kernel
theorem dX2_changeSetting_48 : decode cX2_changeSetting 48 = .ok (.aload_n 0, 1) := by decide +kernel
theorem dX2_changeSetting_49 : decode cX2_changeSetting 49 = .ok (.getfield 26, 3) := by decide +kernel
theorem dX2_changeSetting_52 : decode cX2_changeSetting 52 = .ok (.iconst 0, 1) := by decide +kernel
theorem dX2_changeSetting_53 : decode cX2_changeSetting 53 = .ok (.iaload, 1) := by decide +kernel
theorem dX2_changeSetting_54 : decode cX2_changeSetting 54 = .ok (.invokevirtual 84, 3) := by decide +kernel
theorem dX2_changeSetting_57 : decode cX2_changeSetting 57 = .ok (.iload_n 3, 1) := by decide +kernel
theorem dX2_changeSetting_58 : decode cX2_changeSetting 58 = .ok (.ireturn, 1) := by decide +kernel
set_option maxRecDepth 20000 in
theorem ggX2_changeOwner_X6_isPage : GoodIn wsX2_changeOwner wsX6_isPage := goodIn_r _ [4] (by decide +kernel) (by decide +kernel)
set_option maxRecDepth 20000 in
theorem gX2_changeOwner_X6_isPage_n88 : GoodIn wsX2_changeOwner (wsX6_isPage) := ggX2_changeOwner_X6_isPage
set_option maxRecDepth 20000 in
theorem ggX2_changeOwner_X6_isGuest : GoodIn wsX2_changeOwner wsX6_isGuest := goodIn_r _ [6] (by decide +kernel) (by decide +kernel)
set_option maxRecDepth 20000 in
theorem gX2_changeOwner_X6_isGuest_n92 : GoodIn wsX2_changeOwner (wsX6_isGuest) := ggX2_changeOwner_X6_isGuest
set_option maxRecDepth 20000 in
theorem ggX2_changeOwner_X2_goodStamps : GoodIn wsX2_changeOwner wsX2_goodStamps := goodIn_r _ [11, 12, 13, 14, 15, 16, 17, 3, 18, 19, 20, 21, 10, 22, 23, 24, 1, 25, 26, 27, 28, 29, 30, 31, 32, 2, 4, 77, 78, 79, 80, 81, 82, 83, 84, 85, 86, 87, 88, 89, 90, 91, 92, 93, 94] (by decide +kernel) (by decide +kernel)
set_option maxRecDepth 20000 in
theorem gX2_changeOwner_X2_goodStamps : GoodIn wsX2_changeOwner (wsV RX2 95 RX2 yX2_goodStamps wsX2_goodStamps) := goodIn_app (goodIn_of _ (by decide +kernel)) ggX2_changeOwner_X2_goodStamps
set_option maxRecDepth 20000 in
theorem ggX2_changeOwner_X2_wipeStale : GoodIn wsX2_changeOwner wsX2_wipeStale := goodIn_r _ [36, 37, 38, 39, 40, 41, 42, 43, 44, 45, 46, 47, 48, 49, 50, 51, 52, 53, 54, 55, 56, 57, 58, 17, 3, 18, 59, 60, 61, 62, 7, 8, 9, 10, 11, 12, 13, 14, 15, 16, 19, 20, 21, 22, 23, 24, 1, 25, 26, 27, 28, 29, 30, 31, 32, 2, 4, 63, 64, 65, 66, 67, 68, 69, 70, 71, 72, 73, 74, 75, 76, 77, 78, 79, 80, 81, 82, 83, 84, 85, 86, 95, 96, 97, 98, 99, 100, 101, 87, 88, 89, 90, 91, 92, 93, 94] (by decide +kernel) (by decide +kernel)
set_option maxRecDepth 20000 in
theorem gX2_changeOwner_X2_wipeStale : GoodIn wsX2_changeOwner (wsV RX2 99 RX2 yX2_wipeStale wsX2_wipeStale) := goodIn_app (goodIn_of _ (by decide +kernel)) ggX2_changeOwner_X2_wipeStale
theorem dX2_changeOwner_0 : decode cX2_changeOwner 0 = .ok (.iload_n 1, 1) := by decide +kernel
theorem dX2_changeOwner_1 : decode cX2_changeOwner 1 = .ok (.invokestatic 88, 3) := by decide +kernel
theorem dX2_changeOwner_4 : decode cX2_changeOwner 4 = .ok (.ifCond .eq 16, 3) := by decide +kernel
theorem dX2_changeOwner_7 : decode cX2_changeOwner 7 = .ok (.iload_n 2, 1) := by decide +kernel
theorem dX2_changeOwner_8 : decode cX2_changeOwner 8 = .ok (.bipush (-6), 2) := by decide +kernel
theorem dX2_changeOwner_10 : decode cX2_changeOwner 10 = .ok (.if_icmp .eq 12, 3) := by decide +kernel
theorem dX2_changeOwner_13 : decode cX2_changeOwner 13 = .ok (.iload_n 2, 1) := by decide +kernel
theorem dX2_changeOwner_14 : decode cX2_changeOwner 14 = .ok (.invokestatic 92, 3) := by decide +kernel
theorem dX2_changeOwner_17 : decode cX2_changeOwner 17 = .ok (.ifCond .ne 5, 3) := by decide +kernel
theorem dX2_changeOwner_20 : decode cX2_changeOwner 20 = .ok (.iconst (-1), 1) := by decide +kernel
theorem dX2_changeOwner_21 : decode cX2_changeOwner 21 = .ok (.ireturn, 1) := by decide +kernel
theorem dX2_changeOwner_22 : decode cX2_changeOwner 22 = .ok (.aload_n 0, 1) := by decide +kernel
theorem dX2_changeOwner_23 : decode cX2_changeOwner 23 = .ok (.getfield 9, 3) := by decide +kernel
theorem dX2_changeOwner_26 : decode cX2_changeOwner 26 = .ok (.iload_n 1, 1) := by decide +kernel
theorem dX2_changeOwner_27 : decode cX2_changeOwner 27 = .ok (.iaload, 1) := by decide +kernel
theorem dX2_changeOwner_28 : decode cX2_changeOwner 28 = .ok (.iload_n 2, 1) := by decide +kernel
theorem dX2_changeOwner_29 : decode cX2_changeOwner 29 = .ok (.if_icmp .ne 5, 3) := by decide +kernel
theorem dX2_changeOwner_32 : decode cX2_changeOwner 32 = .ok (.iconst 0, 1) := by decide +kernel
theorem dX2_changeOwner_33 : decode cX2_changeOwner 33 = .ok (.ireturn, 1) := by decide +kernel
theorem dX2_changeOwner_34 : decode cX2_changeOwner 34 = .ok (.aload_n 0, 1) := by decide +kernel
theorem dX2_changeOwner_35 : decode cX2_changeOwner 35 = .ok (.bipush (-6), 2) := by decide +kernel
theorem dX2_changeOwner_37 : decode cX2_changeOwner 37 = .ok (.invokevirtual 95, 3) := by decide +kernel
theorem dX2_changeOwner_40 : decode cX2_changeOwner 40 = .ok (.lstore_n 3, 1) := by decide +kernel
theorem dX2_changeOwner_41 : decode cX2_changeOwner 41 = .ok (.aload_n 0, 1) := by decide +kernel
theorem dX2_changeOwner_42 : decode cX2_changeOwner 42 = .ok (.getfield 9, 3) := by decide +kernel
theorem dX2_changeOwner_45 : decode cX2_changeOwner 45 = .ok (.iload_n 1, 1) := by decide +kernel
theorem dX2_changeOwner_46 : decode cX2_changeOwner 46 = .ok (.iload_n 2, 1) := by decide +kernel
theorem dX2_changeOwner_47 : decode cX2_changeOwner 47 = .ok (.iastore, 1) := by decide +kernel
theorem dX2_changeOwner_48 : decode cX2_changeOwner 48 = .ok (.aload_n 0, 1) := by decide +kernel
theorem dX2_changeOwner_49 : decode cX2_changeOwner 49 = .ok (.iload_n 1, 1) := by decide +kernel
theorem dX2_changeOwner_50 : decode cX2_changeOwner 50 = .ok (.lload_n 3, 1) := by decide +kernel
theorem dX2_changeOwner_51 : decode cX2_changeOwner 51 = .ok (.invokevirtual 99, 3) := by decide +kernel
theorem dX2_changeOwner_54 : decode cX2_changeOwner 54 = .ok (.ireturn, 1) := by decide +kernel
set_option maxRecDepth 20000 in
theorem ggX2_giveStamp_X6_isGuest : GoodIn wsX2_giveStamp wsX6_isGuest := goodIn_r _ [5] (by decide +kernel) (by decide +kernel)
set_option maxRecDepth 20000 in
theorem gX2_giveStamp_X6_isGuest_n92 : GoodIn wsX2_giveStamp (wsX6_isGuest) := ggX2_giveStamp_X6_isGuest
set_option maxRecDepth 20000 in
theorem ggX2_giveStamp_X6_isPage : GoodIn wsX2_giveStamp wsX6_isPage := goodIn_r _ [7] (by decide +kernel) (by decide +kernel)
set_option maxRecDepth 20000 in
theorem gX2_giveStamp_X6_isPage_n88 : GoodIn wsX2_giveStamp (wsX6_isPage) := ggX2_giveStamp_X6_isPage
set_option maxRecDepth 20000 in
theorem ggX2_giveStamp_X6_areRights : GoodIn wsX2_giveStamp wsX6_areRights := goodIn_r _ [9] (by decide +kernel) (by decide +kernel)
set_option maxRecDepth 20000 in
theorem gX2_giveStamp_X6_areRights_n103 : GoodIn wsX2_giveStamp (wsX6_areRights) := ggX2_giveStamp_X6_areRights
set_option maxRecDepth 20000 in
theorem ggX2_giveStamp_X4_areFull : GoodIn wsX2_giveStamp wsX4_areFull := goodIn_r _ [14, 15, 37, 38, 39, 40, 41, 42, 43, 44] (by decide +kernel) (by decide +kernel)
set_option maxRecDepth 20000 in
theorem gX2_giveStamp_X4_areFull : GoodIn wsX2_giveStamp (wsV RX2 106 RX4 yX4_areFull wsX4_areFull) := goodIn_app (goodIn_of _ (by decide +kernel)) ggX2_giveStamp_X4_areFull
set_option maxRecDepth 20000 in
theorem ggX2_giveStamp_X4_add : GoodIn wsX2_giveStamp wsX4_add := goodIn_r _ [19, 15, 20, 21, 22, 23, 24, 25, 26, 11, 12, 13, 14, 37, 38, 39, 40, 41, 42, 43, 44] (by decide +kernel) (by decide +kernel)
set_option maxRecDepth 20000 in
theorem gX2_giveStamp_X4_add : GoodIn wsX2_giveStamp (wsV RX2 110 RX4 yX4_add wsX4_add) := goodIn_app (goodIn_of _ (by decide +kernel)) ggX2_giveStamp_X4_add
theorem dX2_giveStamp_0 : decode cX2_giveStamp 0 = .ok (.iload_n 1, 1) := by decide +kernel
theorem dX2_giveStamp_1 : decode cX2_giveStamp 1 = .ok (.invokestatic 92, 3) := by decide +kernel
theorem dX2_giveStamp_4 : decode cX2_giveStamp 4 = .ok (.ifCond .eq 17, 3) := by decide +kernel
theorem dX2_giveStamp_7 : decode cX2_giveStamp 7 = .ok (.iload_n 2, 1) := by decide +kernel
theorem dX2_giveStamp_8 : decode cX2_giveStamp 8 = .ok (.invokestatic 92, 3) := by decide +kernel
theorem dX2_giveStamp_11 : decode cX2_giveStamp 11 = .ok (.ifCond .eq 10, 3) := by decide +kernel
theorem dX2_giveStamp_14 : decode cX2_giveStamp 14 = .ok (.iload_n 3, 1) := by decide +kernel
theorem dX2_giveStamp_15 : decode cX2_giveStamp 15 = .ok (.invokestatic 88, 3) := by decide +kernel
theorem dX2_giveStamp_18 : decode cX2_giveStamp 18 = .ok (.ifCond .ne 5, 3) := by decide +kernel
theorem dX2_giveStamp_21 : decode cX2_giveStamp 21 = .ok (.iconst (-1), 1) := by decide +kernel
theorem dX2_giveStamp_22 : decode cX2_giveStamp 22 = .ok (.ireturn, 1) := by decide +kernel
theorem dX2_giveStamp_23 : decode cX2_giveStamp 23 = .ok (.iload 4, 2) := by decide +kernel
theorem dX2_giveStamp_25 : decode cX2_giveStamp 25 = .ok (.invokestatic 103, 3) := by decide +kernel
theorem dX2_giveStamp_28 : decode cX2_giveStamp 28 = .ok (.ifCond .ne 6, 3) := by decide +kernel
theorem dX2_giveStamp_31 : decode cX2_giveStamp 31 = .ok (.bipush (-2), 2) := by decide +kernel
theorem dX2_giveStamp_33 : decode cX2_giveStamp 33 = .ok (.ireturn, 1) := by decide +kernel
theorem dX2_giveStamp_34 : decode cX2_giveStamp 34 = .ok (.aload_n 0, 1) := by decide +kernel
theorem dX2_giveStamp_35 : decode cX2_giveStamp 35 = .ok (.getfield 35, 3) := by decide +kernel
theorem dX2_giveStamp_38 : decode cX2_giveStamp 38 = .ok (.invokevirtual 106, 3) := by decide +kernel
theorem dX2_giveStamp_41 : decode cX2_giveStamp 41 = .ok (.ifCond .eq 6, 3) := by decide +kernel
theorem dX2_giveStamp_44 : decode cX2_giveStamp 44 = .ok (.bipush (-4), 2) := by decide +kernel
theorem dX2_giveStamp_46 : decode cX2_giveStamp 46 = .ok (.ireturn, 1) := by decide +kernel
theorem dX2_giveStamp_47 : decode cX2_giveStamp 47 = .ok (.aload_n 0, 1) := by decide +kernel
theorem dX2_giveStamp_48 : decode cX2_giveStamp 48 = .ok (.getfield 9, 3) := by decide +kernel
theorem dX2_giveStamp_51 : decode cX2_giveStamp 51 = .ok (.iload_n 3, 1) := by decide +kernel
theorem dX2_giveStamp_52 : decode cX2_giveStamp 52 = .ok (.iaload, 1) := by decide +kernel
theorem dX2_giveStamp_53 : decode cX2_giveStamp 53 = .ok (.iload_n 1, 1) := by decide +kernel
theorem dX2_giveStamp_54 : decode cX2_giveStamp 54 = .ok (.if_icmp .eq 6, 3) := by decide +kernel
theorem dX2_giveStamp_57 : decode cX2_giveStamp 57 = .ok (.bipush (-5), 2) := by decide +kernel
theorem dX2_giveStamp_59 : decode cX2_giveStamp 59 = .ok (.ireturn, 1) := by decide +kernel
theorem dX2_giveStamp_60 : decode cX2_giveStamp 60 = .ok (.aload_n 0, 1) := by decide +kernel
theorem dX2_giveStamp_61 : decode cX2_giveStamp 61 = .ok (.getfield 35, 3) := by decide +kernel
theorem dX2_giveStamp_64 : decode cX2_giveStamp 64 = .ok (.iload_n 1, 1) := by decide +kernel
theorem dX2_giveStamp_65 : decode cX2_giveStamp 65 = .ok (.iload_n 2, 1) := by decide +kernel
theorem dX2_giveStamp_66 : decode cX2_giveStamp 66 = .ok (.iload_n 3, 1) := by decide +kernel
theorem dX2_giveStamp_67 : decode cX2_giveStamp 67 = .ok (.iload 4, 2) := by decide +kernel
theorem dX2_giveStamp_69 : decode cX2_giveStamp 69 = .ok (.bipush (-6), 2) := by decide +kernel
theorem dX2_giveStamp_71 : decode cX2_giveStamp 71 = .ok (.iconst 0, 1) := by decide +kernel
theorem dX2_giveStamp_72 : decode cX2_giveStamp 72 = .ok (.invokevirtual 110, 3) := by decide +kernel
theorem dX2_giveStamp_75 : decode cX2_giveStamp 75 = .ok (.ireturn, 1) := by decide +kernel
set_option maxRecDepth 20000 in
theorem ggX2_passOn_X4_has : GoodIn wsX2_passOn wsX4_has := goodIn_r _ [9, 10, 60, 61, 62, 63, 64, 65, 66, 67] (by decide +kernel) (by decide +kernel)
set_option maxRecDepth 20000 in
theorem gX2_passOn_X4_has : GoodIn wsX2_passOn (wsV RX2 114 RX4 yX4_has wsX4_has) := goodIn_app (goodIn_of _ (by decide +kernel)) ggX2_passOn_X4_has
set_option maxRecDepth 20000 in
theorem ggX2_passOn_X6_isGuest : GoodIn wsX2_passOn wsX6_isGuest := goodIn_r _ [13] (by decide +kernel) (by decide +kernel)
set_option maxRecDepth 20000 in
theorem gX2_passOn_X6_isGuest_n92 : GoodIn wsX2_passOn (wsX6_isGuest) := ggX2_passOn_X6_isGuest
set_option maxRecDepth 20000 in
theorem ggX2_passOn_X6_areRights : GoodIn wsX2_passOn wsX6_areRights := goodIn_r _ [15] (by decide +kernel) (by decide +kernel)
set_option maxRecDepth 20000 in
theorem gX2_passOn_X6_areRights_n103 : GoodIn wsX2_passOn (wsX6_areRights) := ggX2_passOn_X6_areRights
set_option maxRecDepth 20000 in
theorem ggX2_passOn_X4_areFull : GoodIn wsX2_passOn wsX4_areFull := goodIn_r _ [19, 10, 60, 61, 62, 63, 64, 65, 66, 67] (by decide +kernel) (by decide +kernel)
set_option maxRecDepth 20000 in
theorem gX2_passOn_X4_areFull : GoodIn wsX2_passOn (wsV RX2 106 RX4 yX4_areFull wsX4_areFull) := goodIn_app (goodIn_of _ (by decide +kernel)) ggX2_passOn_X4_areFull
set_option maxRecDepth 20000 in
theorem ggX2_passOn_X2_goodStamps : GoodIn wsX2_passOn wsX2_goodStamps := goodIn_r _ [24, 1, 25, 26, 27, 28, 29, 12, 30, 31, 32, 33, 23, 34, 4, 35, 36, 2, 3, 5, 6, 7, 8, 9, 10, 37, 38, 50, 51, 52, 53, 54, 55, 56, 57, 58, 59, 60, 61, 62, 63, 64, 65, 66, 67] (by decide +kernel) (by decide +kernel)
set_option maxRecDepth 20000 in
theorem gX2_passOn_X2_goodStamps : GoodIn wsX2_passOn (wsV RX2 95 RX2 yX2_goodStamps wsX2_goodStamps) := goodIn_app (goodIn_of _ (by decide +kernel)) ggX2_passOn_X2_goodStamps
set_option maxRecDepth 20000 in
theorem ggX2_passOn_X6_isIn : GoodIn wsX2_passOn wsX6_isIn := goodIn_r _ [30] (by decide +kernel) (by decide +kernel)
set_option maxRecDepth 20000 in
theorem gX2_passOn_X6_isIn_n117 : GoodIn wsX2_passOn (wsX6_isIn) := ggX2_passOn_X6_isIn
set_option maxRecDepth 20000 in
theorem ggX2_passOn_X4_add : GoodIn wsX2_passOn wsX4_add := goodIn_r _ [42, 10, 43, 44, 45, 46, 47, 48, 49, 17, 18, 8, 19, 60, 61, 62, 63, 64, 65, 66, 67] (by decide +kernel) (by decide +kernel)
set_option maxRecDepth 20000 in
theorem gX2_passOn_X4_add : GoodIn wsX2_passOn (wsV RX2 110 RX4 yX4_add wsX4_add) := goodIn_app (goodIn_of _ (by decide +kernel)) ggX2_passOn_X4_add
theorem dX2_passOn_0 : decode cX2_passOn 0 = .ok (.aload_n 0, 1) := by decide +kernel
theorem dX2_passOn_1 : decode cX2_passOn 1 = .ok (.getfield 35, 3) := by decide +kernel
theorem dX2_passOn_4 : decode cX2_passOn 4 = .ok (.iload_n 1, 1) := by decide +kernel
theorem dX2_passOn_5 : decode cX2_passOn 5 = .ok (.invokevirtual 114, 3) := by decide +kernel
theorem dX2_passOn_8 : decode cX2_passOn 8 = .ok (.ifCond .eq 10, 3) := by decide +kernel
theorem dX2_passOn_11 : decode cX2_passOn 11 = .ok (.iload_n 2, 1) := by decide +kernel
theorem dX2_passOn_12 : decode cX2_passOn 12 = .ok (.invokestatic 92, 3) := by decide +kernel
theorem dX2_passOn_15 : decode cX2_passOn 15 = .ok (.ifCond .ne 5, 3) := by decide +kernel
theorem dX2_passOn_18 : decode cX2_passOn 18 = .ok (.iconst (-1), 1) := by decide +kernel
theorem dX2_passOn_19 : decode cX2_passOn 19 = .ok (.ireturn, 1) := by decide +kernel
theorem dX2_passOn_20 : decode cX2_passOn 20 = .ok (.iload_n 3, 1) := by decide +kernel
theorem dX2_passOn_21 : decode cX2_passOn 21 = .ok (.invokestatic 103, 3) := by decide +kernel
theorem dX2_passOn_24 : decode cX2_passOn 24 = .ok (.ifCond .ne 6, 3) := by decide +kernel
theorem dX2_passOn_27 : decode cX2_passOn 27 = .ok (.bipush (-2), 2) := by decide +kernel
theorem dX2_passOn_29 : decode cX2_passOn 29 = .ok (.ireturn, 1) := by decide +kernel
theorem dX2_passOn_30 : decode cX2_passOn 30 = .ok (.aload_n 0, 1) := by decide +kernel
theorem dX2_passOn_31 : decode cX2_passOn 31 = .ok (.getfield 35, 3) := by decide +kernel
theorem dX2_passOn_34 : decode cX2_passOn 34 = .ok (.invokevirtual 106, 3) := by decide +kernel
theorem dX2_passOn_37 : decode cX2_passOn 37 = .ok (.ifCond .eq 6, 3) := by decide +kernel
theorem dX2_passOn_40 : decode cX2_passOn 40 = .ok (.bipush (-4), 2) := by decide +kernel
theorem dX2_passOn_42 : decode cX2_passOn 42 = .ok (.ireturn, 1) := by decide +kernel
theorem dX2_passOn_43 : decode cX2_passOn 43 = .ok (.iload_n 3, 1) := by decide +kernel
theorem dX2_passOn_44 : decode cX2_passOn 44 = .ok (.iconst 4, 1) := by decide +kernel
theorem dX2_passOn_45 : decode cX2_passOn 45 = .ok (.ior, 1) := by decide +kernel
theorem dX2_passOn_46 : decode cX2_passOn 46 = .ok (.istore 4, 2) := by decide +kernel
theorem dX2_passOn_48 : decode cX2_passOn 48 = .ok (.aload_n 0, 1) := by decide +kernel
theorem dX2_passOn_49 : decode cX2_passOn 49 = .ok (.bipush (-6), 2) := by decide +kernel
theorem dX2_passOn_51 : decode cX2_passOn 51 = .ok (.invokevirtual 95, 3) := by decide +kernel
theorem dX2_passOn_54 : decode cX2_passOn 54 = .ok (.iload_n 1, 1) := by decide +kernel
theorem dX2_passOn_55 : decode cX2_passOn 55 = .ok (.invokestatic 117, 3) := by decide +kernel
theorem dX2_passOn_58 : decode cX2_passOn 58 = .ok (.ifCond .eq 20, 3) := by decide +kernel
theorem dX2_passOn_61 : decode cX2_passOn 61 = .ok (.iload 4, 2) := by decide +kernel
theorem dX2_passOn_63 : decode cX2_passOn 63 = .ok (.aload_n 0, 1) := by decide +kernel
theorem dX2_passOn_64 : decode cX2_passOn 64 = .ok (.getfield 35, 3) := by decide +kernel
theorem dX2_passOn_67 : decode cX2_passOn 67 = .ok (.getfield 121, 3) := by decide +kernel
theorem dX2_passOn_70 : decode cX2_passOn 70 = .ok (.iload_n 1, 1) := by decide +kernel
theorem dX2_passOn_71 : decode cX2_passOn 71 = .ok (.iaload, 1) := by decide +kernel
theorem dX2_passOn_72 : decode cX2_passOn 72 = .ok (.iconst (-1), 1) := by decide +kernel
theorem dX2_passOn_73 : decode cX2_passOn 73 = .ok (.ixor, 1) := by decide +kernel
theorem dX2_passOn_74 : decode cX2_passOn 74 = .ok (.iand, 1) := by decide +kernel
theorem dX2_passOn_75 : decode cX2_passOn 75 = .ok (.ifCond .eq 6, 3) := by decide +kernel
theorem dX2_passOn_78 : decode cX2_passOn 78 = .ok (.bipush (-5), 2) := by decide +kernel
theorem dX2_passOn_80 : decode cX2_passOn 80 = .ok (.ireturn, 1) := by decide +kernel
theorem dX2_passOn_81 : decode cX2_passOn 81 = .ok (.aload_n 0, 1) := by decide +kernel
theorem dX2_passOn_82 : decode cX2_passOn 82 = .ok (.getfield 35, 3) := by decide +kernel
theorem dX2_passOn_85 : decode cX2_passOn 85 = .ok (.aload_n 0, 1) := by decide +kernel
theorem dX2_passOn_86 : decode cX2_passOn 86 = .ok (.getfield 35, 3) := by decide +kernel
theorem dX2_passOn_89 : decode cX2_passOn 89 = .ok (.getfield 124, 3) := by decide +kernel
theorem dX2_passOn_92 : decode cX2_passOn 92 = .ok (.iload_n 1, 1) := by decide +kernel
theorem dX2_passOn_93 : decode cX2_passOn 93 = .ok (.iaload, 1) := by decide +kernel
theorem dX2_passOn_94 : decode cX2_passOn 94 = .ok (.iload_n 2, 1) := by decide +kernel
theorem dX2_passOn_95 : decode cX2_passOn 95 = .ok (.aload_n 0, 1) := by decide +kernel
theorem dX2_passOn_96 : decode cX2_passOn 96 = .ok (.getfield 35, 3) := by decide +kernel
theorem dX2_passOn_99 : decode cX2_passOn 99 = .ok (.getfield 127, 3) := by decide +kernel
theorem dX2_passOn_102 : decode cX2_passOn 102 = .ok (.iload_n 1, 1) := by decide +kernel
theorem dX2_passOn_103 : decode cX2_passOn 103 = .ok (.iaload, 1) := by decide +kernel
theorem dX2_passOn_104 : decode cX2_passOn 104 = .ok (.iload_n 3, 1) := by decide +kernel
theorem dX2_passOn_105 : decode cX2_passOn 105 = .ok (.iload_n 1, 1) := by decide +kernel
theorem dX2_passOn_106 : decode cX2_passOn 106 = .ok (.iconst 0, 1) := by decide +kernel
theorem dX2_passOn_107 : decode cX2_passOn 107 = .ok (.invokevirtual 110, 3) := by decide +kernel
theorem dX2_passOn_110 : decode cX2_passOn 110 = .ok (.ireturn, 1) := by decide +kernel
set_option maxRecDepth 20000 in
theorem ggX2_forgeStamp_X6_isGuest : GoodIn wsX2_forgeStamp wsX6_isGuest := goodIn_r _ [4] (by decide +kernel) (by decide +kernel)
set_option maxRecDepth 20000 in
theorem gX2_forgeStamp_X6_isGuest_n92 : GoodIn wsX2_forgeStamp (wsX6_isGuest) := ggX2_forgeStamp_X6_isGuest
set_option maxRecDepth 20000 in
theorem ggX2_forgeStamp_X6_isPage : GoodIn wsX2_forgeStamp wsX6_isPage := goodIn_r _ [6] (by decide +kernel) (by decide +kernel)
set_option maxRecDepth 20000 in
theorem gX2_forgeStamp_X6_isPage_n88 : GoodIn wsX2_forgeStamp (wsX6_isPage) := ggX2_forgeStamp_X6_isPage
set_option maxRecDepth 20000 in
theorem ggX2_forgeStamp_X4_has : GoodIn wsX2_forgeStamp wsX4_has := goodIn_r _ [11, 12, 40, 41, 42, 43, 44, 45, 46, 47] (by decide +kernel) (by decide +kernel)
set_option maxRecDepth 20000 in
theorem gX2_forgeStamp_X4_has : GoodIn wsX2_forgeStamp (wsV RX2 114 RX4 yX4_has wsX4_has) := goodIn_app (goodIn_of _ (by decide +kernel)) ggX2_forgeStamp_X4_has
set_option maxRecDepth 20000 in
theorem ggX2_forgeStamp_X6_areRights : GoodIn wsX2_forgeStamp wsX6_areRights := goodIn_r _ [14] (by decide +kernel) (by decide +kernel)
set_option maxRecDepth 20000 in
theorem gX2_forgeStamp_X6_areRights_n103 : GoodIn wsX2_forgeStamp (wsX6_areRights) := ggX2_forgeStamp_X6_areRights
set_option maxRecDepth 20000 in
theorem ggX2_forgeStamp_X4_areFull : GoodIn wsX2_forgeStamp wsX4_areFull := goodIn_r _ [18, 12, 40, 41, 42, 43, 44, 45, 46, 47] (by decide +kernel) (by decide +kernel)
set_option maxRecDepth 20000 in
theorem gX2_forgeStamp_X4_areFull : GoodIn wsX2_forgeStamp (wsV RX2 106 RX4 yX4_areFull wsX4_areFull) := goodIn_app (goodIn_of _ (by decide +kernel)) ggX2_forgeStamp_X4_areFull
set_option maxRecDepth 20000 in
theorem ggX2_forgeStamp_X4_add : GoodIn wsX2_forgeStamp wsX4_add := goodIn_r _ [22, 12, 23, 24, 25, 26, 27, 28, 29, 16, 17, 10, 18, 40, 41, 42, 43, 44, 45, 46, 47] (by decide +kernel) (by decide +kernel)
set_option maxRecDepth 20000 in
theorem gX2_forgeStamp_X4_add : GoodIn wsX2_forgeStamp (wsV RX2 110 RX4 yX4_add wsX4_add) := goodIn_app (goodIn_of _ (by decide +kernel)) ggX2_forgeStamp_X4_add
theorem dX2_forgeStamp_0 : decode cX2_forgeStamp 0 = .ok (.iload_n 1, 1) := by decide +kernel
theorem dX2_forgeStamp_1 : decode cX2_forgeStamp 1 = .ok (.invokestatic 92, 3) := by decide +kernel
theorem dX2_forgeStamp_4 : decode cX2_forgeStamp 4 = .ok (.ifCond .eq 36, 3) := by decide +kernel
theorem dX2_forgeStamp_7 : decode cX2_forgeStamp 7 = .ok (.iload_n 2, 1) := by decide +kernel
theorem dX2_forgeStamp_8 : decode cX2_forgeStamp 8 = .ok (.invokestatic 92, 3) := by decide +kernel
theorem dX2_forgeStamp_11 : decode cX2_forgeStamp 11 = .ok (.ifCond .eq 29, 3) := by decide +kernel
theorem dX2_forgeStamp_14 : decode cX2_forgeStamp 14 = .ok (.iload_n 3, 1) := by decide +kernel
theorem dX2_forgeStamp_15 : decode cX2_forgeStamp 15 = .ok (.invokestatic 88, 3) := by decide +kernel
theorem dX2_forgeStamp_18 : decode cX2_forgeStamp 18 = .ok (.ifCond .eq 22, 3) := by decide +kernel
theorem dX2_forgeStamp_21 : decode cX2_forgeStamp 21 = .ok (.iload 5, 2) := by decide +kernel
theorem dX2_forgeStamp_23 : decode cX2_forgeStamp 23 = .ok (.bipush (-6), 2) := by decide +kernel
theorem dX2_forgeStamp_25 : decode cX2_forgeStamp 25 = .ok (.if_icmp .eq 17, 3) := by decide +kernel
theorem dX2_forgeStamp_28 : decode cX2_forgeStamp 28 = .ok (.aload_n 0, 1) := by decide +kernel
theorem dX2_forgeStamp_29 : decode cX2_forgeStamp 29 = .ok (.getfield 35, 3) := by decide +kernel
theorem dX2_forgeStamp_32 : decode cX2_forgeStamp 32 = .ok (.iload 5, 2) := by decide +kernel
theorem dX2_forgeStamp_34 : decode cX2_forgeStamp 34 = .ok (.invokevirtual 114, 3) := by decide +kernel
theorem dX2_forgeStamp_37 : decode cX2_forgeStamp 37 = .ok (.ifCond .ne 5, 3) := by decide +kernel
theorem dX2_forgeStamp_40 : decode cX2_forgeStamp 40 = .ok (.iconst (-1), 1) := by decide +kernel
theorem dX2_forgeStamp_41 : decode cX2_forgeStamp 41 = .ok (.ireturn, 1) := by decide +kernel
theorem dX2_forgeStamp_42 : decode cX2_forgeStamp 42 = .ok (.iload 4, 2) := by decide +kernel
theorem dX2_forgeStamp_44 : decode cX2_forgeStamp 44 = .ok (.invokestatic 103, 3) := by decide +kernel
theorem dX2_forgeStamp_47 : decode cX2_forgeStamp 47 = .ok (.ifCond .ne 6, 3) := by decide +kernel
theorem dX2_forgeStamp_50 : decode cX2_forgeStamp 50 = .ok (.bipush (-2), 2) := by decide +kernel
theorem dX2_forgeStamp_52 : decode cX2_forgeStamp 52 = .ok (.ireturn, 1) := by decide +kernel
theorem dX2_forgeStamp_53 : decode cX2_forgeStamp 53 = .ok (.aload_n 0, 1) := by decide +kernel
theorem dX2_forgeStamp_54 : decode cX2_forgeStamp 54 = .ok (.getfield 35, 3) := by decide +kernel
theorem dX2_forgeStamp_57 : decode cX2_forgeStamp 57 = .ok (.invokevirtual 106, 3) := by decide +kernel
theorem dX2_forgeStamp_60 : decode cX2_forgeStamp 60 = .ok (.ifCond .eq 6, 3) := by decide +kernel
theorem dX2_forgeStamp_63 : decode cX2_forgeStamp 63 = .ok (.bipush (-4), 2) := by decide +kernel
theorem dX2_forgeStamp_65 : decode cX2_forgeStamp 65 = .ok (.ireturn, 1) := by decide +kernel
theorem dX2_forgeStamp_66 : decode cX2_forgeStamp 66 = .ok (.aload_n 0, 1) := by decide +kernel
theorem dX2_forgeStamp_67 : decode cX2_forgeStamp 67 = .ok (.getfield 35, 3) := by decide +kernel
theorem dX2_forgeStamp_70 : decode cX2_forgeStamp 70 = .ok (.iload_n 1, 1) := by decide +kernel
theorem dX2_forgeStamp_71 : decode cX2_forgeStamp 71 = .ok (.iload_n 2, 1) := by decide +kernel
theorem dX2_forgeStamp_72 : decode cX2_forgeStamp 72 = .ok (.iload_n 3, 1) := by decide +kernel
theorem dX2_forgeStamp_73 : decode cX2_forgeStamp 73 = .ok (.iload 4, 2) := by decide +kernel
theorem dX2_forgeStamp_75 : decode cX2_forgeStamp 75 = .ok (.iload 5, 2) := by decide +kernel
theorem dX2_forgeStamp_77 : decode cX2_forgeStamp 77 = .ok (.iconst 1, 1) := by decide +kernel
theorem dX2_forgeStamp_78 : decode cX2_forgeStamp 78 = .ok (.invokevirtual 110, 3) := by decide +kernel
theorem dX2_forgeStamp_81 : decode cX2_forgeStamp 81 = .ok (.ireturn, 1) := by decide +kernel
set_option maxRecDepth 20000 in
theorem ggX2_revoke_X4_has : GoodIn wsX2_revoke wsX4_has := goodIn_r _ [8, 9, 85, 86, 87, 88, 89, 90, 91, 92] (by decide +kernel) (by decide +kernel)
set_option maxRecDepth 20000 in
theorem gX2_revoke_X4_has : GoodIn wsX2_revoke (wsV RX2 114 RX4 yX4_has wsX4_has) := goodIn_app (goodIn_of _ (by decide +kernel)) ggX2_revoke_X4_has
set_option maxRecDepth 20000 in
theorem ggX2_revoke_X6_isIn : GoodIn wsX2_revoke wsX6_isIn := goodIn_r _ [12] (by decide +kernel) (by decide +kernel)
set_option maxRecDepth 20000 in
theorem gX2_revoke_X6_isIn_n117 : GoodIn wsX2_revoke (wsX6_isIn) := ggX2_revoke_X6_isIn
set_option maxRecDepth 20000 in
theorem ggX2_revoke_X2_goodStamps : GoodIn wsX2_revoke wsX2_goodStamps := goodIn_r _ [17, 1, 18, 19, 20, 2, 10, 11, 12, 21, 22, 23, 16, 24, 3, 25, 26, 27, 28, 4, 5, 6, 7, 8, 9, 29, 30, 75, 76, 77, 78, 79, 80, 81, 82, 83, 84, 85, 86, 87, 88, 89, 90, 91, 92] (by decide +kernel) (by decide +kernel)
set_option maxRecDepth 20000 in
theorem gX2_revoke_X2_goodStamps : GoodIn wsX2_revoke (wsV RX2 95 RX2 yX2_goodStamps wsX2_goodStamps) := goodIn_app (goodIn_of _ (by decide +kernel)) ggX2_revoke_X2_goodStamps
set_option maxRecDepth 20000 in
theorem ggX2_revoke_X2_wipeStale : GoodIn wsX2_revoke wsX2_wipeStale := goodIn_r _ [34, 35, 36, 37, 38, 39, 40, 41, 42, 43, 44, 45, 46, 47, 48, 49, 50, 51, 52, 53, 54, 55, 56, 10, 11, 12, 57, 58, 59, 60, 13, 14, 15, 16, 17, 1, 18, 19, 20, 2, 21, 22, 23, 24, 3, 25, 26, 27, 28, 4, 5, 6, 7, 8, 9, 29, 30, 61, 62, 63, 64, 65, 66, 67, 68, 69, 70, 71, 72, 73, 74, 75, 76, 77, 78, 79, 80, 81, 82, 83, 84, 93, 94, 95, 96, 97, 98, 99, 85, 86, 87, 88, 89, 90, 91, 92] (by decide +kernel) (by decide +kernel)
set_option maxRecDepth 20000 in
theorem gX2_revoke_X2_wipeStale : GoodIn wsX2_revoke (wsV RX2 99 RX2 yX2_wipeStale wsX2_wipeStale) := goodIn_app (goodIn_of _ (by decide +kernel)) ggX2_revoke_X2_wipeStale
theorem dX2_revoke_0 : decode cX2_revoke 0 = .ok (.aload_n 0, 1) := by decide +kernel
theorem dX2_revoke_1 : decode cX2_revoke 1 = .ok (.getfield 35, 3) := by decide +kernel
theorem dX2_revoke_4 : decode cX2_revoke 4 = .ok (.iload_n 1, 1) := by decide +kernel
theorem dX2_revoke_5 : decode cX2_revoke 5 = .ok (.invokevirtual 114, 3) := by decide +kernel
theorem dX2_revoke_8 : decode cX2_revoke 8 = .ok (.ifCond .ne 5, 3) := by decide +kernel
theorem dX2_revoke_11 : decode cX2_revoke 11 = .ok (.iconst (-1), 1) := by decide +kernel
theorem dX2_revoke_12 : decode cX2_revoke 12 = .ok (.ireturn, 1) := by decide +kernel
theorem dX2_revoke_13 : decode cX2_revoke 13 = .ok (.aload_n 0, 1) := by decide +kernel
theorem dX2_revoke_14 : decode cX2_revoke 14 = .ok (.getfield 35, 3) := by decide +kernel
theorem dX2_revoke_17 : decode cX2_revoke 17 = .ok (.getfield 130, 3) := by decide +kernel
theorem dX2_revoke_20 : decode cX2_revoke 20 = .ok (.iload_n 1, 1) := by decide +kernel
theorem dX2_revoke_21 : decode cX2_revoke 21 = .ok (.invokestatic 117, 3) := by decide +kernel
theorem dX2_revoke_24 : decode cX2_revoke 24 = .ok (.ifCond .eq 6, 3) := by decide +kernel
theorem dX2_revoke_27 : decode cX2_revoke 27 = .ok (.bipush (-5), 2) := by decide +kernel
theorem dX2_revoke_29 : decode cX2_revoke 29 = .ok (.ireturn, 1) := by decide +kernel
theorem dX2_revoke_30 : decode cX2_revoke 30 = .ok (.aload_n 0, 1) := by decide +kernel
theorem dX2_revoke_31 : decode cX2_revoke 31 = .ok (.bipush (-6), 2) := by decide +kernel
theorem dX2_revoke_33 : decode cX2_revoke 33 = .ok (.invokevirtual 95, 3) := by decide +kernel
theorem dX2_revoke_36 : decode cX2_revoke 36 = .ok (.lstore_n 2, 1) := by decide +kernel
theorem dX2_revoke_37 : decode cX2_revoke 37 = .ok (.aload_n 0, 1) := by decide +kernel
theorem dX2_revoke_38 : decode cX2_revoke 38 = .ok (.getfield 35, 3) := by decide +kernel
theorem dX2_revoke_41 : decode cX2_revoke 41 = .ok (.dup, 1) := by decide +kernel
theorem dX2_revoke_42 : decode cX2_revoke 42 = .ok (.getfield 130, 3) := by decide +kernel
theorem dX2_revoke_45 : decode cX2_revoke 45 = .ok (.lconst 1, 1) := by decide +kernel
theorem dX2_revoke_46 : decode cX2_revoke 46 = .ok (.iload_n 1, 1) := by decide +kernel
theorem dX2_revoke_47 : decode cX2_revoke 47 = .ok (.lshl, 1) := by decide +kernel
theorem dX2_revoke_48 : decode cX2_revoke 48 = .ok (.lor, 1) := by decide +kernel
theorem dX2_revoke_49 : decode cX2_revoke 49 = .ok (.putfield 130, 3) := by decide +kernel
theorem dX2_revoke_52 : decode cX2_revoke 52 = .ok (.aload_n 0, 1) := by decide +kernel
theorem dX2_revoke_53 : decode cX2_revoke 53 = .ok (.aload_n 0, 1) := by decide +kernel
theorem dX2_revoke_54 : decode cX2_revoke 54 = .ok (.getfield 35, 3) := by decide +kernel
theorem dX2_revoke_57 : decode cX2_revoke 57 = .ok (.getfield 127, 3) := by decide +kernel
theorem dX2_revoke_60 : decode cX2_revoke 60 = .ok (.iload_n 1, 1) := by decide +kernel
theorem dX2_revoke_61 : decode cX2_revoke 61 = .ok (.iaload, 1) := by decide +kernel
theorem dX2_revoke_62 : decode cX2_revoke 62 = .ok (.lload_n 2, 1) := by decide +kernel
theorem dX2_revoke_63 : decode cX2_revoke 63 = .ok (.invokevirtual 99, 3) := by decide +kernel
theorem dX2_revoke_66 : decode cX2_revoke 66 = .ok (.ireturn, 1) := by decide +kernel
set_option maxRecDepth 20000 in
theorem ggX2_leadDoor_X6_isDoor : GoodIn wsX2_leadDoor wsX6_isDoor := goodIn_r _ [6] (by decide +kernel) (by decide +kernel)
set_option maxRecDepth 20000 in
theorem gX2_leadDoor_X6_isDoor_n134 : GoodIn wsX2_leadDoor (wsX6_isDoor) := ggX2_leadDoor_X6_isDoor
set_option maxRecDepth 20000 in
theorem ggX2_leadDoor_X4_has : GoodIn wsX2_leadDoor wsX4_has := goodIn_r _ [11, 12, 44, 45, 46, 47, 48, 49, 50, 51] (by decide +kernel) (by decide +kernel)
set_option maxRecDepth 20000 in
theorem gX2_leadDoor_X4_has : GoodIn wsX2_leadDoor (wsV RX2 114 RX4 yX4_has wsX4_has) := goodIn_app (goodIn_of _ (by decide +kernel)) ggX2_leadDoor_X4_has
set_option maxRecDepth 20000 in
theorem ggX2_leadDoor_X0_notesOfDoor : GoodIn wsX2_leadDoor wsX0_notesOfDoor := goodIn_r _ [17, 18, 19, 20, 52, 53, 54, 55, 56, 57, 58] (by decide +kernel) (by decide +kernel)
set_option maxRecDepth 20000 in
theorem gX2_leadDoor_X0_notesOfDoor : GoodIn wsX2_leadDoor (wsV RX2 138 RX0 yX0_notesOfDoor wsX0_notesOfDoor) := goodIn_app (goodIn_of _ (by decide +kernel)) ggX2_leadDoor_X0_notesOfDoor
set_option maxRecDepth 20000 in
theorem ggX2_leadDoor_X0_wipeThese : GoodIn wsX2_leadDoor wsX0_wipeThese := goodIn_r _ [24, 25, 26, 27, 28, 16, 29, 18, 19, 20, 30, 31, 32, 5, 33, 52, 53, 54, 55, 56, 57, 58] (by decide +kernel) (by decide +kernel)
set_option maxRecDepth 20000 in
theorem gX2_leadDoor_X0_wipeThese : GoodIn wsX2_leadDoor (wsV RX2 142 RX0 yX0_wipeThese wsX0_wipeThese) := goodIn_app (goodIn_of _ (by decide +kernel)) ggX2_leadDoor_X0_wipeThese
theorem dX2_leadDoor_0 : decode cX2_leadDoor 0 = .ok (.iload_n 1, 1) := by decide +kernel
theorem dX2_leadDoor_1 : decode cX2_leadDoor 1 = .ok (.iload_n 2, 1) := by decide +kernel
theorem dX2_leadDoor_2 : decode cX2_leadDoor 2 = .ok (.invokestatic 134, 3) := by decide +kernel
theorem dX2_leadDoor_5 : decode cX2_leadDoor 5 = .ok (.ifCond .eq 20, 3) := by decide +kernel
theorem dX2_leadDoor_8 : decode cX2_leadDoor 8 = .ok (.iload_n 3, 1) := by decide +kernel
theorem dX2_leadDoor_9 : decode cX2_leadDoor 9 = .ok (.bipush (-6), 2) := by decide +kernel
theorem dX2_leadDoor_11 : decode cX2_leadDoor 11 = .ok (.if_icmp .eq 16, 3) := by decide +kernel
theorem dX2_leadDoor_14 : decode cX2_leadDoor 14 = .ok (.aload_n 0, 1) := by decide +kernel
theorem dX2_leadDoor_15 : decode cX2_leadDoor 15 = .ok (.getfield 35, 3) := by decide +kernel
theorem dX2_leadDoor_18 : decode cX2_leadDoor 18 = .ok (.iload_n 3, 1) := by decide +kernel
theorem dX2_leadDoor_19 : decode cX2_leadDoor 19 = .ok (.invokevirtual 114, 3) := by decide +kernel
theorem dX2_leadDoor_22 : decode cX2_leadDoor 22 = .ok (.ifCond .ne 5, 3) := by decide +kernel
theorem dX2_leadDoor_25 : decode cX2_leadDoor 25 = .ok (.iconst (-1), 1) := by decide +kernel
theorem dX2_leadDoor_26 : decode cX2_leadDoor 26 = .ok (.ireturn, 1) := by decide +kernel
theorem dX2_leadDoor_27 : decode cX2_leadDoor 27 = .ok (.iload_n 1, 1) := by decide +kernel
theorem dX2_leadDoor_28 : decode cX2_leadDoor 28 = .ok (.bipush 10, 2) := by decide +kernel
theorem dX2_leadDoor_30 : decode cX2_leadDoor 30 = .ok (.imul, 1) := by decide +kernel
theorem dX2_leadDoor_31 : decode cX2_leadDoor 31 = .ok (.iload_n 2, 1) := by decide +kernel
theorem dX2_leadDoor_32 : decode cX2_leadDoor 32 = .ok (.iadd, 1) := by decide +kernel
theorem dX2_leadDoor_33 : decode cX2_leadDoor 33 = .ok (.istore 4, 2) := by decide +kernel
theorem dX2_leadDoor_35 : decode cX2_leadDoor 35 = .ok (.aload_n 0, 1) := by decide +kernel
theorem dX2_leadDoor_36 : decode cX2_leadDoor 36 = .ok (.getfield 15, 3) := by decide +kernel
theorem dX2_leadDoor_39 : decode cX2_leadDoor 39 = .ok (.iload 4, 2) := by decide +kernel
theorem dX2_leadDoor_41 : decode cX2_leadDoor 41 = .ok (.iaload, 1) := by decide +kernel
theorem dX2_leadDoor_42 : decode cX2_leadDoor 42 = .ok (.iload_n 3, 1) := by decide +kernel
theorem dX2_leadDoor_43 : decode cX2_leadDoor 43 = .ok (.if_icmp .ne 5, 3) := by decide +kernel
theorem dX2_leadDoor_46 : decode cX2_leadDoor 46 = .ok (.iconst 0, 1) := by decide +kernel
theorem dX2_leadDoor_47 : decode cX2_leadDoor 47 = .ok (.ireturn, 1) := by decide +kernel
theorem dX2_leadDoor_48 : decode cX2_leadDoor 48 = .ok (.aload_n 0, 1) := by decide +kernel
theorem dX2_leadDoor_49 : decode cX2_leadDoor 49 = .ok (.getfield 15, 3) := by decide +kernel
theorem dX2_leadDoor_52 : decode cX2_leadDoor 52 = .ok (.iload 4, 2) := by decide +kernel
theorem dX2_leadDoor_54 : decode cX2_leadDoor 54 = .ok (.iload_n 3, 1) := by decide +kernel
theorem dX2_leadDoor_55 : decode cX2_leadDoor 55 = .ok (.iastore, 1) := by decide +kernel
theorem dX2_leadDoor_56 : decode cX2_leadDoor 56 = .ok (.aload_n 0, 1) := by decide +kernel
theorem dX2_leadDoor_57 : decode cX2_leadDoor 57 = .ok (.getfield 42, 3) := by decide +kernel
theorem dX2_leadDoor_60 : decode cX2_leadDoor 60 = .ok (.aload_n 0, 1) := by decide +kernel
theorem dX2_leadDoor_61 : decode cX2_leadDoor 61 = .ok (.getfield 42, 3) := by decide +kernel
theorem dX2_leadDoor_64 : decode cX2_leadDoor 64 = .ok (.iload_n 1, 1) := by decide +kernel
theorem dX2_leadDoor_65 : decode cX2_leadDoor 65 = .ok (.iload_n 2, 1) := by decide +kernel
theorem dX2_leadDoor_66 : decode cX2_leadDoor 66 = .ok (.invokevirtual 138, 3) := by decide +kernel
theorem dX2_leadDoor_69 : decode cX2_leadDoor 69 = .ok (.invokevirtual 142, 3) := by decide +kernel
theorem dX2_leadDoor_72 : decode cX2_leadDoor 72 = .ok (.ireturn, 1) := by decide +kernel
set_option maxRecDepth 20000 in
theorem ggX2_visit_X6_isDoor : GoodIn wsX2_visit wsX6_isDoor := goodIn_r _ [9] (by decide +kernel) (by decide +kernel)
set_option maxRecDepth 20000 in
theorem gX2_visit_X6_isDoor_n134 : GoodIn wsX2_visit (wsX6_isDoor) := ggX2_visit_X6_isDoor
set_option maxRecDepth 20000 in
theorem ggX2_visit_X6_isNeed : GoodIn wsX2_visit wsX6_isNeed := goodIn_r _ [11] (by decide +kernel) (by decide +kernel)
set_option maxRecDepth 20000 in
theorem gX2_visit_X6_isNeed_n146 : GoodIn wsX2_visit (wsX6_isNeed) := ggX2_visit_X6_isNeed
set_option maxRecDepth 20000 in
theorem ggX2_visit_X2_enter : GoodIn wsX2_visit wsX2_enter := goodIn_r _ [16, 17, 18, 2, 19, 20, 21, 22, 23, 24, 25, 26, 27, 28, 29, 30, 31, 32, 33, 34, 35, 36, 37, 38, 8, 39, 113, 114, 115, 116, 117, 118, 119, 120, 121, 122, 125, 126, 127, 128, 129, 130, 131] (by decide +kernel) (by decide +kernel)
set_option maxRecDepth 20000 in
theorem gX2_visit_X2_enter : GoodIn wsX2_visit (wsV RX2 149 RX2 yX2_enter wsX2_enter) := goodIn_app (goodIn_of _ (by decide +kernel)) ggX2_visit_X2_enter
set_option maxRecDepth 20000 in
theorem ggX2_visit_X0_find : GoodIn wsX2_visit wsX0_find := goodIn_r _ [43, 24, 34, 35, 36, 125, 126, 127, 128, 129, 130, 131] (by decide +kernel) (by decide +kernel)
set_option maxRecDepth 20000 in
theorem gX2_visit_X0_find : GoodIn wsX2_visit (wsV RX2 152 RX0 yX0_find wsX0_find) := goodIn_app (goodIn_of _ (by decide +kernel)) ggX2_visit_X0_find
set_option maxRecDepth 20000 in
theorem ggX2_visit_X0_has : GoodIn wsX2_visit wsX0_has := goodIn_r _ [47, 24, 125, 126, 127, 128, 129, 130, 131] (by decide +kernel) (by decide +kernel)
set_option maxRecDepth 20000 in
theorem gX2_visit_X0_has : GoodIn wsX2_visit (wsV RX2 156 RX0 yX0_has wsX0_has) := goodIn_app (goodIn_of _ (by decide +kernel)) ggX2_visit_X0_has
set_option maxRecDepth 20000 in
theorem ggX2_visit_X2_useNote : GoodIn wsX2_visit wsX2_useNote := goodIn_r _ [51, 52, 3, 5, 18, 2, 53, 54, 55, 22, 56, 34, 35, 36, 37, 30, 31, 32, 33, 24, 38, 8, 39, 57, 58, 59, 60, 113, 114, 115, 116, 117, 118, 119, 120, 121, 122, 125, 126, 127, 128, 129, 130, 131] (by decide +kernel) (by decide +kernel)
set_option maxRecDepth 20000 in
theorem gX2_visit_X2_useNote : GoodIn wsX2_visit (wsV RX2 157 RX2 yX2_useNote wsX2_useNote) := goodIn_app (goodIn_of _ (by decide +kernel)) ggX2_visit_X2_useNote
set_option maxRecDepth 20000 in
theorem ggX2_visit_X5_go : GoodIn wsX2_visit wsX5_go := goodIn_r _ [65, 66, 67, 68, 69, 70, 71, 72, 15, 73, 74, 7, 8, 9, 75, 76, 77, 78, 79, 80, 81, 82, 64, 83, 84, 85, 86, 87, 38, 39, 88, 89, 90, 91, 92, 93, 94, 95, 96, 97, 98, 99, 100, 101, 123, 124, 113, 114, 115, 116, 117, 118, 119, 120, 121, 122, 132, 133, 134, 135, 136, 137, 138, 139] (by decide +kernel) (by decide +kernel)
set_option maxRecDepth 20000 in
theorem gX2_visit_X5_go : GoodIn wsX2_visit (wsV RX2 160 RX5 yX5_go wsX5_go) := goodIn_app (goodIn_of _ (by decide +kernel)) ggX2_visit_X5_go
set_option maxRecDepth 20000 in
theorem ggX2_visit_X2_addNote : GoodIn wsX2_visit wsX2_addNote := goodIn_r _ [105, 92, 2, 18, 94, 106, 71, 72, 15, 73, 74, 7, 8, 9, 99, 76, 77, 78, 79, 80, 107, 108, 109, 22, 110, 24, 111, 30, 31, 32, 33, 34, 35, 36, 37, 38, 39, 112, 58, 59, 60, 113, 114, 115, 116, 117, 118, 119, 120, 121, 122, 132, 133, 134, 135, 136, 137, 138, 139, 125, 126, 127, 128, 129, 130, 131] (by decide +kernel) (by decide +kernel)
set_option maxRecDepth 20000 in
theorem gX2_visit_X2_addNote : GoodIn wsX2_visit (wsV RX2 170 RX2 yX2_addNote wsX2_addNote) := goodIn_app (goodIn_of _ (by decide +kernel)) ggX2_visit_X2_addNote
theorem dX2_visit_0 : decode cX2_visit 0 = .ok (.iload_n 1, 1) := by decide +kernel
theorem dX2_visit_1 : decode cX2_visit 1 = .ok (.iload_n 2, 1) := by decide +kernel
theorem dX2_visit_2 : decode cX2_visit 2 = .ok (.invokestatic 134, 3) := by decide +kernel
theorem dX2_visit_5 : decode cX2_visit 5 = .ok (.ifCond .ne 5, 3) := by decide +kernel
theorem dX2_visit_8 : decode cX2_visit 8 = .ok (.iconst (-1), 1) := by decide +kernel
theorem dX2_visit_9 : decode cX2_visit 9 = .ok (.ireturn, 1) := by decide +kernel
theorem dX2_visit_10 : decode cX2_visit 10 = .ok (.iload_n 3, 1) := by decide +kernel
theorem dX2_visit_11 : decode cX2_visit 11 = .ok (.invokestatic 146, 3) := by decide +kernel
theorem dX2_visit_14 : decode cX2_visit 14 = .ok (.ifCond .ne 6, 3) := by decide +kernel
theorem dX2_visit_17 : decode cX2_visit 17 = .ok (.bipush (-2), 2) := by decide +kernel
theorem dX2_visit_19 : decode cX2_visit 19 = .ok (.ireturn, 1) := by decide +kernel
theorem dX2_visit_20 : decode cX2_visit 20 = .ok (.aload_n 0, 1) := by decide +kernel
theorem dX2_visit_21 : decode cX2_visit 21 = .ok (.iload_n 1, 1) := by decide +kernel
theorem dX2_visit_22 : decode cX2_visit 22 = .ok (.invokevirtual 149, 3) := by decide +kernel
theorem dX2_visit_25 : decode cX2_visit 25 = .ok (.aload_n 0, 1) := by decide +kernel
theorem dX2_visit_26 : decode cX2_visit 26 = .ok (.dup, 1) := by decide +kernel
theorem dX2_visit_27 : decode cX2_visit 27 = .ok (.getfield 69, 3) := by decide +kernel
theorem dX2_visit_30 : decode cX2_visit 30 = .ok (.iconst 1, 1) := by decide +kernel
theorem dX2_visit_31 : decode cX2_visit 31 = .ok (.iadd, 1) := by decide +kernel
theorem dX2_visit_32 : decode cX2_visit 32 = .ok (.putfield 69, 3) := by decide +kernel
theorem dX2_visit_35 : decode cX2_visit 35 = .ok (.aload_n 0, 1) := by decide +kernel
theorem dX2_visit_36 : decode cX2_visit 36 = .ok (.getfield 42, 3) := by decide +kernel
theorem dX2_visit_39 : decode cX2_visit 39 = .ok (.iload_n 1, 1) := by decide +kernel
theorem dX2_visit_40 : decode cX2_visit 40 = .ok (.iload_n 2, 1) := by decide +kernel
theorem dX2_visit_41 : decode cX2_visit 41 = .ok (.iload_n 3, 1) := by decide +kernel
theorem dX2_visit_42 : decode cX2_visit 42 = .ok (.invokevirtual 152, 3) := by decide +kernel
theorem dX2_visit_45 : decode cX2_visit 45 = .ok (.istore 5, 2) := by decide +kernel
theorem dX2_visit_47 : decode cX2_visit 47 = .ok (.aload_n 0, 1) := by decide +kernel
theorem dX2_visit_48 : decode cX2_visit 48 = .ok (.getfield 42, 3) := by decide +kernel
theorem dX2_visit_51 : decode cX2_visit 51 = .ok (.iload 5, 2) := by decide +kernel
theorem dX2_visit_53 : decode cX2_visit 53 = .ok (.invokevirtual 156, 3) := by decide +kernel
theorem dX2_visit_56 : decode cX2_visit 56 = .ok (.ifCond .eq 11, 3) := by decide +kernel
theorem dX2_visit_59 : decode cX2_visit 59 = .ok (.aload_n 0, 1) := by decide +kernel
theorem dX2_visit_60 : decode cX2_visit 60 = .ok (.iload 5, 2) := by decide +kernel
theorem dX2_visit_62 : decode cX2_visit 62 = .ok (.invokevirtual 157, 3) := by decide +kernel
theorem dX2_visit_65 : decode cX2_visit 65 = .ok (.iconst 0, 1) := by decide +kernel
theorem dX2_visit_66 : decode cX2_visit 66 = .ok (.ireturn, 1) := by decide +kernel
theorem dX2_visit_67 : decode cX2_visit 67 = .ok (.aload 4, 2) := by decide +kernel
theorem dX2_visit_69 : decode cX2_visit 69 = .ok (.aload_n 0, 1) := by decide +kernel
theorem dX2_visit_70 : decode cX2_visit 70 = .ok (.iload_n 1, 1) := by decide +kernel
theorem dX2_visit_71 : decode cX2_visit 71 = .ok (.iload_n 2, 1) := by decide +kernel
theorem dX2_visit_72 : decode cX2_visit 72 = .ok (.iload_n 3, 1) := by decide +kernel
theorem dX2_visit_73 : decode cX2_visit 73 = .ok (.invokevirtual 160, 3) := by decide +kernel
theorem dX2_visit_76 : decode cX2_visit 76 = .ok (.aload_n 0, 1) := by decide +kernel
theorem dX2_visit_77 : decode cX2_visit 77 = .ok (.dup, 1) := by decide +kernel
theorem dX2_visit_78 : decode cX2_visit 78 = .ok (.getfield 75, 3) := by decide +kernel
theorem dX2_visit_81 : decode cX2_visit 81 = .ok (.aload 4, 2) := by decide +kernel
theorem dX2_visit_83 : decode cX2_visit 83 = .ok (.getfield 166, 3) := by decide +kernel
theorem dX2_visit_86 : decode cX2_visit 86 = .ok (.iadd, 1) := by decide +kernel
theorem dX2_visit_87 : decode cX2_visit 87 = .ok (.putfield 75, 3) := by decide +kernel
theorem dX2_visit_90 : decode cX2_visit 90 = .ok (.aload_n 0, 1) := by decide +kernel
theorem dX2_visit_91 : decode cX2_visit 91 = .ok (.getfield 29, 3) := by decide +kernel
theorem dX2_visit_94 : decode cX2_visit 94 = .ok (.aload 4, 2) := by decide +kernel
theorem dX2_visit_96 : decode cX2_visit 96 = .ok (.getfield 167, 3) := by decide +kernel
theorem dX2_visit_99 : decode cX2_visit 99 = .ok (.dup2, 1) := by decide +kernel
theorem dX2_visit_100 : decode cX2_visit 100 = .ok (.iaload, 1) := by decide +kernel
theorem dX2_visit_101 : decode cX2_visit 101 = .ok (.iconst 1, 1) := by decide +kernel
theorem dX2_visit_102 : decode cX2_visit 102 = .ok (.iadd, 1) := by decide +kernel
theorem dX2_visit_103 : decode cX2_visit 103 = .ok (.iastore, 1) := by decide +kernel
theorem dX2_visit_104 : decode cX2_visit 104 = .ok (.aload 4, 2) := by decide +kernel
theorem dX2_visit_106 : decode cX2_visit 106 = .ok (.getfield 167, 3) := by decide +kernel
theorem dX2_visit_109 : decode cX2_visit 109 = .ok (.ifCond .ne 10, 3) := by decide +kernel
theorem dX2_visit_112 : decode cX2_visit 112 = .ok (.aload_n 0, 1) := by decide +kernel
theorem dX2_visit_113 : decode cX2_visit 113 = .ok (.iload_n 1, 1) := by decide +kernel
theorem dX2_visit_114 : decode cX2_visit 114 = .ok (.iload_n 2, 1) := by decide +kernel
theorem dX2_visit_115 : decode cX2_visit 115 = .ok (.iload_n 3, 1) := by decide +kernel
theorem dX2_visit_116 : decode cX2_visit 116 = .ok (.invokevirtual 170, 3) := by decide +kernel
theorem dX2_visit_119 : decode cX2_visit 119 = .ok (.aload 4, 2) := by decide +kernel
theorem dX2_visit_121 : decode cX2_visit 121 = .ok (.getfield 167, 3) := by decide +kernel
theorem dX2_visit_124 : decode cX2_visit 124 = .ok (.ireturn, 1) := by decide +kernel
set_option maxRecDepth 20000 in
theorem ggX2_enter_X0_allNotes : GoodIn wsX2_enter wsX0_allNotes := goodIn_r _ [8, 9, 36, 37, 38, 39, 40, 41, 42] (by decide +kernel) (by decide +kernel)
set_option maxRecDepth 20000 in
theorem gX2_enter_X0_allNotes : GoodIn wsX2_enter (wsV RX2 174 RX0 yX0_allNotes wsX0_allNotes) := goodIn_app (goodIn_of _ (by decide +kernel)) ggX2_enter_X0_allNotes
set_option maxRecDepth 20000 in
theorem ggX2_enter_X0_wipeThese : GoodIn wsX2_enter wsX0_wipeThese := goodIn_r _ [13, 14, 15, 16, 17, 7, 18, 9, 19, 20, 21, 22, 23, 24, 25, 36, 37, 38, 39, 40, 41, 42] (by decide +kernel) (by decide +kernel)
set_option maxRecDepth 20000 in
theorem gX2_enter_X0_wipeThese : GoodIn wsX2_enter (wsV RX2 142 RX0 yX0_wipeThese wsX0_wipeThese) := goodIn_app (goodIn_of _ (by decide +kernel)) ggX2_enter_X0_wipeThese
theorem dX2_enter_0 : decode cX2_enter 0 = .ok (.aload_n 0, 1) := by decide +kernel
theorem dX2_enter_1 : decode cX2_enter 1 = .ok (.getfield 65, 3) := by decide +kernel
theorem dX2_enter_4 : decode cX2_enter 4 = .ok (.iload_n 1, 1) := by decide +kernel
theorem dX2_enter_5 : decode cX2_enter 5 = .ok (.if_icmp .eq 27, 3) := by decide +kernel
theorem dX2_enter_8 : decode cX2_enter 8 = .ok (.aload_n 0, 1) := by decide +kernel
theorem dX2_enter_9 : decode cX2_enter 9 = .ok (.getfield 26, 3) := by decide +kernel
theorem dX2_enter_12 : decode cX2_enter 12 = .ok (.iconst 1, 1) := by decide +kernel
theorem dX2_enter_13 : decode cX2_enter 13 = .ok (.iaload, 1) := by decide +kernel
theorem dX2_enter_14 : decode cX2_enter 14 = .ok (.ifCond .ne 18, 3) := by decide +kernel
theorem dX2_enter_17 : decode cX2_enter 17 = .ok (.aload_n 0, 1) := by decide +kernel
theorem dX2_enter_18 : decode cX2_enter 18 = .ok (.getfield 42, 3) := by decide +kernel
theorem dX2_enter_21 : decode cX2_enter 21 = .ok (.aload_n 0, 1) := by decide +kernel
theorem dX2_enter_22 : decode cX2_enter 22 = .ok (.getfield 42, 3) := by decide +kernel
theorem dX2_enter_25 : decode cX2_enter 25 = .ok (.invokevirtual 174, 3) := by decide +kernel
theorem dX2_enter_28 : decode cX2_enter 28 = .ok (.invokevirtual 142, 3) := by decide +kernel
theorem dX2_enter_31 : decode cX2_enter 31 = .ok (.pop, 1) := by decide +kernel
theorem dX2_enter_32 : decode cX2_enter 32 = .ok (.aload_n 0, 1) := by decide +kernel
theorem dX2_enter_33 : decode cX2_enter 33 = .ok (.iload_n 1, 1) := by decide +kernel
theorem dX2_enter_34 : decode cX2_enter 34 = .ok (.putfield 65, 3) := by decide +kernel
theorem dX2_enter_37 : decode cX2_enter 37 = .ok (.return_, 1) := by decide +kernel
set_option maxRecDepth 20000 in
theorem ggX2_useNote_X0_moveToEnd : GoodIn wsX2_useNote wsX0_moveToEnd := goodIn_r _ [10, 11, 12, 13, 14, 15, 16, 17, 9, 18, 19, 20, 21, 22, 23, 24, 25, 26, 37, 38, 39, 40, 41, 42, 43] (by decide +kernel) (by decide +kernel)
set_option maxRecDepth 20000 in
theorem gX2_useNote_X0_moveToEnd : GoodIn wsX2_useNote (wsV RX2 178 RX0 yX0_moveToEnd wsX0_moveToEnd) := goodIn_app (goodIn_of _ (by decide +kernel)) ggX2_useNote_X0_moveToEnd
theorem dX2_useNote_0 : decode cX2_useNote 0 = .ok (.aload_n 0, 1) := by decide +kernel
theorem dX2_useNote_1 : decode cX2_useNote 1 = .ok (.dup, 1) := by decide +kernel
theorem dX2_useNote_2 : decode cX2_useNote 2 = .ok (.getfield 72, 3) := by decide +kernel
theorem dX2_useNote_5 : decode cX2_useNote 5 = .ok (.iconst 1, 1) := by decide +kernel
theorem dX2_useNote_6 : decode cX2_useNote 6 = .ok (.iadd, 1) := by decide +kernel
theorem dX2_useNote_7 : decode cX2_useNote 7 = .ok (.putfield 72, 3) := by decide +kernel
theorem dX2_useNote_10 : decode cX2_useNote 10 = .ok (.aload_n 0, 1) := by decide +kernel
theorem dX2_useNote_11 : decode cX2_useNote 11 = .ok (.dup, 1) := by decide +kernel
theorem dX2_useNote_12 : decode cX2_useNote 12 = .ok (.getfield 75, 3) := by decide +kernel
theorem dX2_useNote_15 : decode cX2_useNote 15 = .ok (.iconst 1, 1) := by decide +kernel
theorem dX2_useNote_16 : decode cX2_useNote 16 = .ok (.iadd, 1) := by decide +kernel
theorem dX2_useNote_17 : decode cX2_useNote 17 = .ok (.putfield 75, 3) := by decide +kernel
theorem dX2_useNote_20 : decode cX2_useNote 20 = .ok (.aload_n 0, 1) := by decide +kernel
theorem dX2_useNote_21 : decode cX2_useNote 21 = .ok (.getfield 29, 3) := by decide +kernel
theorem dX2_useNote_24 : decode cX2_useNote 24 = .ok (.iconst 0, 1) := by decide +kernel
theorem dX2_useNote_25 : decode cX2_useNote 25 = .ok (.dup2, 1) := by decide +kernel
theorem dX2_useNote_26 : decode cX2_useNote 26 = .ok (.iaload, 1) := by decide +kernel
theorem dX2_useNote_27 : decode cX2_useNote 27 = .ok (.iconst 1, 1) := by decide +kernel
theorem dX2_useNote_28 : decode cX2_useNote 28 = .ok (.iadd, 1) := by decide +kernel
theorem dX2_useNote_29 : decode cX2_useNote 29 = .ok (.iastore, 1) := by decide +kernel
theorem dX2_useNote_30 : decode cX2_useNote 30 = .ok (.aload_n 0, 1) := by decide +kernel
theorem dX2_useNote_31 : decode cX2_useNote 31 = .ok (.getfield 26, 3) := by decide +kernel
theorem dX2_useNote_34 : decode cX2_useNote 34 = .ok (.iconst 3, 1) := by decide +kernel
theorem dX2_useNote_35 : decode cX2_useNote 35 = .ok (.iaload, 1) := by decide +kernel
theorem dX2_useNote_36 : decode cX2_useNote 36 = .ok (.iconst 1, 1) := by decide +kernel
theorem dX2_useNote_37 : decode cX2_useNote 37 = .ok (.if_icmp .ne 11, 3) := by decide +kernel
theorem dX2_useNote_40 : decode cX2_useNote 40 = .ok (.aload_n 0, 1) := by decide +kernel
theorem dX2_useNote_41 : decode cX2_useNote 41 = .ok (.getfield 42, 3) := by decide +kernel
theorem dX2_useNote_44 : decode cX2_useNote 44 = .ok (.iload_n 1, 1) := by decide +kernel
theorem dX2_useNote_45 : decode cX2_useNote 45 = .ok (.invokevirtual 178, 3) := by decide +kernel
theorem dX2_useNote_48 : decode cX2_useNote 48 = .ok (.return_, 1) := by decide +kernel
set_option maxRecDepth 20000 in
theorem ggX2_addNote_X2_ledBy : GoodIn wsX2_addNote wsX2_ledBy := goodIn_r _ [9, 10, 11, 12, 13, 41, 42, 43, 44, 45, 46, 47, 48, 49, 50] (by decide +kernel) (by decide +kernel)
set_option maxRecDepth 20000 in
theorem gX2_addNote_X2_ledBy : GoodIn wsX2_addNote (wsV RX2 181 RX2 yX2_ledBy wsX2_ledBy) := goodIn_app (goodIn_of _ (by decide +kernel)) ggX2_addNote_X2_ledBy
set_option maxRecDepth 20000 in
theorem ggX2_addNote_X4_has : GoodIn wsX2_addNote wsX4_has := goodIn_r _ [18, 19, 51, 52, 53, 54, 55, 56, 57, 58] (by decide +kernel) (by decide +kernel)
set_option maxRecDepth 20000 in
theorem gX2_addNote_X4_has : GoodIn wsX2_addNote (wsV RX2 114 RX4 yX4_has wsX4_has) := goodIn_app (goodIn_of _ (by decide +kernel)) ggX2_addNote_X4_has
set_option maxRecDepth 20000 in
theorem ggX2_addNote_X0_dropDownTo : GoodIn wsX2_addNote wsX0_dropDownTo := goodIn_r _ [24, 25, 26, 27, 28, 29, 23, 30, 31, 32, 33, 34, 35, 12, 36, 59, 60, 61, 62, 63, 64, 65] (by decide +kernel) (by decide +kernel)
set_option maxRecDepth 20000 in
theorem gX2_addNote_X0_dropDownTo : GoodIn wsX2_addNote (wsV RX2 84 RX0 yX0_dropDownTo wsX0_dropDownTo) := goodIn_app (goodIn_of _ (by decide +kernel)) ggX2_addNote_X0_dropDownTo
set_option maxRecDepth 20000 in
theorem ggX2_addNote_X0_add : GoodIn wsX2_addNote wsX0_add := goodIn_r _ [40, 25, 31, 32, 33, 34, 59, 60, 61, 62, 63, 64, 65] (by decide +kernel) (by decide +kernel)
set_option maxRecDepth 20000 in
theorem gX2_addNote_X0_add : GoodIn wsX2_addNote (wsV RX2 184 RX0 yX0_add wsX0_add) := goodIn_app (goodIn_of _ (by decide +kernel)) ggX2_addNote_X0_add
theorem dX2_addNote_0 : decode cX2_addNote 0 = .ok (.aload_n 0, 1) := by decide +kernel
theorem dX2_addNote_1 : decode cX2_addNote 1 = .ok (.iload_n 1, 1) := by decide +kernel
theorem dX2_addNote_2 : decode cX2_addNote 2 = .ok (.iload_n 2, 1) := by decide +kernel
theorem dX2_addNote_3 : decode cX2_addNote 3 = .ok (.invokevirtual 181, 3) := by decide +kernel
theorem dX2_addNote_6 : decode cX2_addNote 6 = .ok (.istore 4, 2) := by decide +kernel
theorem dX2_addNote_8 : decode cX2_addNote 8 = .ok (.aload_n 0, 1) := by decide +kernel
theorem dX2_addNote_9 : decode cX2_addNote 9 = .ok (.getfield 35, 3) := by decide +kernel
theorem dX2_addNote_12 : decode cX2_addNote 12 = .ok (.iload 4, 2) := by decide +kernel
theorem dX2_addNote_14 : decode cX2_addNote 14 = .ok (.invokevirtual 114, 3) := by decide +kernel
theorem dX2_addNote_17 : decode cX2_addNote 17 = .ok (.ifCond .eq 38, 3) := by decide +kernel
theorem dX2_addNote_20 : decode cX2_addNote 20 = .ok (.aload_n 0, 1) := by decide +kernel
theorem dX2_addNote_21 : decode cX2_addNote 21 = .ok (.getfield 42, 3) := by decide +kernel
theorem dX2_addNote_24 : decode cX2_addNote 24 = .ok (.aload_n 0, 1) := by decide +kernel
theorem dX2_addNote_25 : decode cX2_addNote 25 = .ok (.getfield 26, 3) := by decide +kernel
theorem dX2_addNote_28 : decode cX2_addNote 28 = .ok (.iconst 0, 1) := by decide +kernel
theorem dX2_addNote_29 : decode cX2_addNote 29 = .ok (.iaload, 1) := by decide +kernel
theorem dX2_addNote_30 : decode cX2_addNote 30 = .ok (.iconst 1, 1) := by decide +kernel
theorem dX2_addNote_31 : decode cX2_addNote 31 = .ok (.isub, 1) := by decide +kernel
theorem dX2_addNote_32 : decode cX2_addNote 32 = .ok (.invokevirtual 84, 3) := by decide +kernel
theorem dX2_addNote_35 : decode cX2_addNote 35 = .ok (.aload_n 0, 1) := by decide +kernel
theorem dX2_addNote_36 : decode cX2_addNote 36 = .ok (.getfield 42, 3) := by decide +kernel
theorem dX2_addNote_39 : decode cX2_addNote 39 = .ok (.iload_n 1, 1) := by decide +kernel
theorem dX2_addNote_40 : decode cX2_addNote 40 = .ok (.iload_n 2, 1) := by decide +kernel
theorem dX2_addNote_41 : decode cX2_addNote 41 = .ok (.iload_n 3, 1) := by decide +kernel
theorem dX2_addNote_42 : decode cX2_addNote 42 = .ok (.aload_n 0, 1) := by decide +kernel
theorem dX2_addNote_43 : decode cX2_addNote 43 = .ok (.getfield 35, 3) := by decide +kernel
theorem dX2_addNote_46 : decode cX2_addNote 46 = .ok (.getfield 127, 3) := by decide +kernel
theorem dX2_addNote_49 : decode cX2_addNote 49 = .ok (.iload 4, 2) := by decide +kernel
theorem dX2_addNote_51 : decode cX2_addNote 51 = .ok (.iaload, 1) := by decide +kernel
theorem dX2_addNote_52 : decode cX2_addNote 52 = .ok (.invokevirtual 184, 3) := by decide +kernel
theorem dX2_addNote_55 : decode cX2_addNote 55 = .ok (.return_, 1) := by decide +kernel
set_option maxRecDepth 20000 in
theorem ggX2_follow_X2_changeOwner : GoodIn wsX2_follow wsX2_changeOwner := goodIn_r _ [7, 8, 9, 10, 11, 12, 13, 14, 15, 16, 6, 17, 18, 19, 20, 21, 22, 23, 24, 25, 26, 27, 28, 29, 30, 31, 32, 33, 34, 35, 36, 37, 38, 39, 40, 41, 42, 43, 44, 45, 46, 47, 48, 49, 50, 51, 52, 53, 54, 55, 56, 57, 58, 59, 60, 61, 62, 63, 64, 65, 66, 67, 68, 69, 70, 71, 72, 73, 74, 75, 76, 77, 78, 79, 80, 81, 82, 192, 193, 194, 195, 196, 197, 198, 199, 200, 201, 202, 203, 204, 205, 206, 207, 208, 209, 210, 211, 212, 213, 214, 215, 216] (by decide +kernel) (by decide +kernel)
set_option maxRecDepth 20000 in
theorem gX2_follow_X2_changeOwner : GoodIn wsX2_follow (wsV RX2 196 RX2 yX2_changeOwner wsX2_changeOwner) := goodIn_app (goodIn_of _ (by decide +kernel)) ggX2_follow_X2_changeOwner
set_option maxRecDepth 20000 in
theorem ggX2_follow_X2_giveStamp : GoodIn wsX2_follow wsX2_giveStamp := goodIn_r _ [86, 18, 8, 12, 10, 13, 9, 11, 87, 88, 89, 90, 91, 36, 92, 38, 93, 94, 95, 96, 97, 98, 99, 100, 101, 102, 103, 192, 193, 194, 195, 196, 197, 198, 199, 200, 201, 202, 203, 204, 205, 206, 207, 208, 209] (by decide +kernel) (by decide +kernel)
set_option maxRecDepth 20000 in
theorem gX2_follow_X2_giveStamp : GoodIn wsX2_follow (wsV RX2 199 RX2 yX2_giveStamp wsX2_giveStamp) := goodIn_app (goodIn_of _ (by decide +kernel)) ggX2_follow_X2_giveStamp
set_option maxRecDepth 20000 in
theorem ggX2_follow_X2_passOn : GoodIn wsX2_follow wsX2_passOn := goodIn_r _ [107, 18, 31, 32, 29, 33, 34, 35, 36, 37, 38, 12, 10, 13, 87, 88, 89, 90, 91, 92, 14, 15, 16, 6, 17, 19, 20, 21, 22, 23, 24, 25, 26, 27, 28, 30, 8, 9, 11, 93, 94, 95, 96, 97, 98, 99, 100, 101, 102, 103, 192, 193, 194, 195, 196, 197, 198, 199, 200, 201, 202, 203, 204, 205, 206, 207, 208, 209] (by decide +kernel) (by decide +kernel)
set_option maxRecDepth 20000 in
theorem gX2_follow_X2_passOn : GoodIn wsX2_follow (wsV RX2 203 RX2 yX2_passOn wsX2_passOn) := goodIn_app (goodIn_of _ (by decide +kernel)) ggX2_follow_X2_passOn
set_option maxRecDepth 20000 in
theorem ggX2_follow_X2_revoke : GoodIn wsX2_follow wsX2_revoke := goodIn_r _ [111, 18, 22, 29, 33, 34, 35, 36, 37, 38, 23, 10, 24, 14, 15, 16, 6, 17, 19, 20, 21, 25, 26, 27, 28, 30, 8, 31, 32, 9, 11, 39, 40, 41, 42, 43, 44, 45, 46, 47, 48, 49, 50, 51, 52, 53, 54, 55, 56, 57, 58, 59, 60, 61, 62, 63, 64, 65, 66, 67, 68, 69, 70, 71, 72, 73, 74, 75, 76, 77, 78, 79, 80, 81, 82, 192, 193, 194, 195, 196, 197, 198, 199, 200, 201, 202, 203, 204, 205, 206, 207, 208, 209, 210, 211, 212, 213, 214, 215, 216] (by decide +kernel) (by decide +kernel)
set_option maxRecDepth 20000 in
theorem gX2_follow_X2_revoke : GoodIn wsX2_follow (wsV RX2 206 RX2 yX2_revoke wsX2_revoke) := goodIn_app (goodIn_of _ (by decide +kernel)) ggX2_follow_X2_revoke
set_option maxRecDepth 20000 in
theorem ggX2_follow_X2_leadDoor : GoodIn wsX2_follow wsX2_leadDoor := goodIn_r _ [115, 18, 80, 44, 81, 10, 82, 33, 34, 35, 36, 37, 38, 116, 117, 118, 49, 119, 51, 61, 62, 52, 53, 54, 55, 56, 57, 58, 59, 60, 63, 64, 23, 24, 192, 193, 194, 195, 196, 197, 198, 199, 200, 201, 202, 203, 204, 205, 206, 207, 208, 209, 210, 211, 212, 213, 214, 215, 216] (by decide +kernel) (by decide +kernel)
set_option maxRecDepth 20000 in
theorem gX2_follow_X2_leadDoor : GoodIn wsX2_follow (wsV RX2 209 RX2 yX2_leadDoor wsX2_leadDoor) := goodIn_app (goodIn_of _ (by decide +kernel)) ggX2_follow_X2_leadDoor
set_option maxRecDepth 20000 in
theorem ggX2_follow_X2_visit : GoodIn wsX2_follow wsX2_visit := goodIn_r _ [123, 124, 44, 125, 126, 127, 128, 81, 10, 82, 129, 130, 131, 132, 133, 6, 134, 135, 43, 46, 47, 48, 49, 50, 51, 52, 53, 54, 55, 56, 57, 58, 59, 60, 61, 62, 63, 64, 23, 24, 136, 137, 138, 139, 140, 141, 142, 143, 144, 145, 146, 147, 148, 149, 150, 151, 152, 153, 154, 155, 156, 157, 158, 159, 160, 161, 162, 163, 164, 165, 166, 77, 78, 79, 80, 167, 34, 35, 36, 37, 38, 168, 169, 170, 171, 172, 173, 174, 175, 26, 27, 28, 18, 20, 29, 30, 8, 31, 32, 33, 9, 11, 176, 177, 178, 179, 76, 180, 181, 182, 183, 184, 185, 192, 193, 194, 195, 196, 197, 198, 199, 200, 201, 217, 218, 210, 211, 212, 213, 214, 215, 216, 202, 203, 204, 205, 206, 207, 208, 209] (by decide +kernel) (by decide +kernel)
set_option maxRecDepth 20000 in
theorem gX2_follow_X2_visit : GoodIn wsX2_follow (wsV RX2 212 RX2 yX2_visit wsX2_visit) := goodIn_app (goodIn_of _ (by decide +kernel)) ggX2_follow_X2_visit
theorem dX2_follow_0 : decode cX2_follow 0 = .ok (.aload_n 1, 1) := by decide +kernel
theorem dX2_follow_1 : decode cX2_follow 1 = .ok (.getfield 187, 3) := by decide +kernel
theorem dX2_follow_4 : decode cX2_follow 4 = .ok (.astore_n 3, 1) := by decide +kernel
theorem dX2_follow_5 : decode cX2_follow 5 = .ok (.aload_n 1, 1) := by decide +kernel
theorem dX2_follow_6 : decode cX2_follow 6 = .ok (.getfield 192, 3) := by decide +kernel
theorem dX2_follow_9 : decode cX2_follow 9 = .ok (.lookupswitch 138 #[(63, 123), (100, 109), (111, 59), (112, 87), (115, 70), (116, 101)], 59) := by decide +kernel
theorem dX2_follow_68 : decode cX2_follow 68 = .ok (.aload_n 0, 1) := by decide +kernel
theorem dX2_follow_69 : decode cX2_follow 69 = .ok (.aload_n 3, 1) := by decide +kernel
theorem dX2_follow_70 : decode cX2_follow 70 = .ok (.iconst 0, 1) := by decide +kernel
theorem dX2_follow_71 : decode cX2_follow 71 = .ok (.iaload, 1) := by decide +kernel
theorem dX2_follow_72 : decode cX2_follow 72 = .ok (.aload_n 3, 1) := by decide +kernel
theorem dX2_follow_73 : decode cX2_follow 73 = .ok (.iconst 1, 1) := by decide +kernel
theorem dX2_follow_74 : decode cX2_follow 74 = .ok (.iaload, 1) := by decide +kernel
theorem dX2_follow_75 : decode cX2_follow 75 = .ok (.invokevirtual 196, 3) := by decide +kernel
theorem dX2_follow_78 : decode cX2_follow 78 = .ok (.ireturn, 1) := by decide +kernel
theorem dX2_follow_79 : decode cX2_follow 79 = .ok (.aload_n 0, 1) := by decide +kernel
theorem dX2_follow_80 : decode cX2_follow 80 = .ok (.aload_n 3, 1) := by decide +kernel
theorem dX2_follow_81 : decode cX2_follow 81 = .ok (.iconst 0, 1) := by decide +kernel
theorem dX2_follow_82 : decode cX2_follow 82 = .ok (.iaload, 1) := by decide +kernel
theorem dX2_follow_83 : decode cX2_follow 83 = .ok (.aload_n 3, 1) := by decide +kernel
theorem dX2_follow_84 : decode cX2_follow 84 = .ok (.iconst 1, 1) := by decide +kernel
theorem dX2_follow_85 : decode cX2_follow 85 = .ok (.iaload, 1) := by decide +kernel
theorem dX2_follow_86 : decode cX2_follow 86 = .ok (.aload_n 3, 1) := by decide +kernel
theorem dX2_follow_87 : decode cX2_follow 87 = .ok (.iconst 2, 1) := by decide +kernel
theorem dX2_follow_88 : decode cX2_follow 88 = .ok (.iaload, 1) := by decide +kernel
theorem dX2_follow_89 : decode cX2_follow 89 = .ok (.aload_n 3, 1) := by decide +kernel
theorem dX2_follow_90 : decode cX2_follow 90 = .ok (.iconst 3, 1) := by decide +kernel
theorem dX2_follow_91 : decode cX2_follow 91 = .ok (.iaload, 1) := by decide +kernel
theorem dX2_follow_92 : decode cX2_follow 92 = .ok (.invokevirtual 199, 3) := by decide +kernel
theorem dX2_follow_95 : decode cX2_follow 95 = .ok (.ireturn, 1) := by decide +kernel
theorem dX2_follow_96 : decode cX2_follow 96 = .ok (.aload_n 0, 1) := by decide +kernel
theorem dX2_follow_97 : decode cX2_follow 97 = .ok (.aload_n 3, 1) := by decide +kernel
theorem dX2_follow_98 : decode cX2_follow 98 = .ok (.iconst 0, 1) := by decide +kernel
theorem dX2_follow_99 : decode cX2_follow 99 = .ok (.iaload, 1) := by decide +kernel
theorem dX2_follow_100 : decode cX2_follow 100 = .ok (.aload_n 3, 1) := by decide +kernel
theorem dX2_follow_101 : decode cX2_follow 101 = .ok (.iconst 1, 1) := by decide +kernel
theorem dX2_follow_102 : decode cX2_follow 102 = .ok (.iaload, 1) := by decide +kernel
theorem dX2_follow_103 : decode cX2_follow 103 = .ok (.aload_n 3, 1) := by decide +kernel
theorem dX2_follow_104 : decode cX2_follow 104 = .ok (.iconst 2, 1) := by decide +kernel
theorem dX2_follow_105 : decode cX2_follow 105 = .ok (.iaload, 1) := by decide +kernel
theorem dX2_follow_106 : decode cX2_follow 106 = .ok (.invokevirtual 203, 3) := by decide +kernel
theorem dX2_follow_109 : decode cX2_follow 109 = .ok (.ireturn, 1) := by decide +kernel
theorem dX2_follow_110 : decode cX2_follow 110 = .ok (.aload_n 0, 1) := by decide +kernel
theorem dX2_follow_111 : decode cX2_follow 111 = .ok (.aload_n 3, 1) := by decide +kernel
theorem dX2_follow_112 : decode cX2_follow 112 = .ok (.iconst 0, 1) := by decide +kernel
theorem dX2_follow_113 : decode cX2_follow 113 = .ok (.iaload, 1) := by decide +kernel
theorem dX2_follow_114 : decode cX2_follow 114 = .ok (.invokevirtual 206, 3) := by decide +kernel
theorem dX2_follow_117 : decode cX2_follow 117 = .ok (.ireturn, 1) := by decide +kernel
theorem dX2_follow_118 : decode cX2_follow 118 = .ok (.aload_n 0, 1) := by decide +kernel
theorem dX2_follow_119 : decode cX2_follow 119 = .ok (.aload_n 3, 1) := by decide +kernel
theorem dX2_follow_120 : decode cX2_follow 120 = .ok (.iconst 0, 1) := by decide +kernel
theorem dX2_follow_121 : decode cX2_follow 121 = .ok (.iaload, 1) := by decide +kernel
theorem dX2_follow_122 : decode cX2_follow 122 = .ok (.aload_n 3, 1) := by decide +kernel
theorem dX2_follow_123 : decode cX2_follow 123 = .ok (.iconst 1, 1) := by decide +kernel
theorem dX2_follow_124 : decode cX2_follow 124 = .ok (.iaload, 1) := by decide +kernel
theorem dX2_follow_125 : decode cX2_follow 125 = .ok (.aload_n 3, 1) := by decide +kernel
theorem dX2_follow_126 : decode cX2_follow 126 = .ok (.iconst 2, 1) := by decide +kernel
theorem dX2_follow_127 : decode cX2_follow 127 = .ok (.iaload, 1) := by decide +kernel
theorem dX2_follow_128 : decode cX2_follow 128 = .ok (.invokevirtual 209, 3) := by decide +kernel
theorem dX2_follow_131 : decode cX2_follow 131 = .ok (.ireturn, 1) := by decide +kernel
theorem dX2_follow_132 : decode cX2_follow 132 = .ok (.aload_n 0, 1) := by decide +kernel
theorem dX2_follow_133 : decode cX2_follow 133 = .ok (.aload_n 3, 1) := by decide +kernel
theorem dX2_follow_134 : decode cX2_follow 134 = .ok (.iconst 0, 1) := by decide +kernel
theorem dX2_follow_135 : decode cX2_follow 135 = .ok (.iaload, 1) := by decide +kernel
theorem dX2_follow_136 : decode cX2_follow 136 = .ok (.aload_n 3, 1) := by decide +kernel
theorem dX2_follow_137 : decode cX2_follow 137 = .ok (.iconst 1, 1) := by decide +kernel
theorem dX2_follow_138 : decode cX2_follow 138 = .ok (.iaload, 1) := by decide +kernel
theorem dX2_follow_139 : decode cX2_follow 139 = .ok (.aload_n 3, 1) := by decide +kernel
theorem dX2_follow_140 : decode cX2_follow 140 = .ok (.iconst 2, 1) := by decide +kernel
theorem dX2_follow_141 : decode cX2_follow 141 = .ok (.iaload, 1) := by decide +kernel
theorem dX2_follow_142 : decode cX2_follow 142 = .ok (.aload_n 2, 1) := by decide +kernel
theorem dX2_follow_143 : decode cX2_follow 143 = .ok (.invokevirtual 212, 3) := by decide +kernel
theorem dX2_follow_146 : decode cX2_follow 146 = .ok (.ireturn, 1) := by decide +kernel
theorem dX2_follow_147 : decode cX2_follow 147 = .ok (.bipush (-3), 2) := by decide +kernel
theorem dX2_follow_149 : decode cX2_follow 149 = .ok (.ireturn, 1) := by decide +kernel
set_option maxRecDepth 20000 in
theorem ggX2_ledBy_X6_isDoor : GoodIn wsX2_ledBy wsX6_isDoor := goodIn_r _ [4] (by decide +kernel) (by decide +kernel)
set_option maxRecDepth 20000 in
theorem gX2_ledBy_X6_isDoor_n134 : GoodIn wsX2_ledBy (wsX6_isDoor) := ggX2_ledBy_X6_isDoor
theorem dX2_ledBy_0 : decode cX2_ledBy 0 = .ok (.iload_n 1, 1) := by decide +kernel
theorem dX2_ledBy_1 : decode cX2_ledBy 1 = .ok (.iload_n 2, 1) := by decide +kernel
theorem dX2_ledBy_2 : decode cX2_ledBy 2 = .ok (.invokestatic 134, 3) := by decide +kernel
theorem dX2_ledBy_5 : decode cX2_ledBy 5 = .ok (.ifCond .eq 17, 3) := by decide +kernel
theorem dX2_ledBy_8 : decode cX2_ledBy 8 = .ok (.aload_n 0, 1) := by decide +kernel
theorem dX2_ledBy_9 : decode cX2_ledBy 9 = .ok (.getfield 15, 3) := by decide +kernel
theorem dX2_ledBy_12 : decode cX2_ledBy 12 = .ok (.iload_n 1, 1) := by decide +kernel
theorem dX2_ledBy_13 : decode cX2_ledBy 13 = .ok (.bipush 10, 2) := by decide +kernel
theorem dX2_ledBy_15 : decode cX2_ledBy 15 = .ok (.imul, 1) := by decide +kernel
theorem dX2_ledBy_16 : decode cX2_ledBy 16 = .ok (.iload_n 2, 1) := by decide +kernel
theorem dX2_ledBy_17 : decode cX2_ledBy 17 = .ok (.iadd, 1) := by decide +kernel
theorem dX2_ledBy_18 : decode cX2_ledBy 18 = .ok (.iaload, 1) := by decide +kernel
theorem dX2_ledBy_19 : decode cX2_ledBy 19 = .ok (.goto 5, 3) := by decide +kernel
theorem dX2_ledBy_22 : decode cX2_ledBy 22 = .ok (.bipush (-6), 2) := by decide +kernel
theorem dX2_ledBy_24 : decode cX2_ledBy 24 = .ok (.ireturn, 1) := by decide +kernel
set_option maxRecDepth 20000 in
theorem ggX2_goodStamps_X6_isIn : GoodIn wsX2_goodStamps wsX6_isIn := goodIn_r _ [8] (by decide +kernel) (by decide +kernel)
set_option maxRecDepth 20000 in
theorem gX2_goodStamps_X6_isIn_n117 : GoodIn wsX2_goodStamps (wsX6_isIn) := ggX2_goodStamps_X6_isIn
set_option maxRecDepth 20000 in
theorem ggX2_goodStamps_X2_isBacked : GoodIn wsX2_goodStamps wsX2_isBacked := goodIn_r _ [13, 1, 3, 14, 15, 16, 17, 18, 19, 20, 21, 22, 23, 24, 25, 7, 26, 27, 28, 29, 30, 31, 32, 33, 34, 35, 36, 37, 38, 39, 40, 41, 42, 43, 44] (by decide +kernel) (by decide +kernel)
set_option maxRecDepth 20000 in
theorem gX2_goodStamps_X2_isBacked : GoodIn wsX2_goodStamps (wsV RX2 225 RX2 yX2_isBacked wsX2_isBacked) := goodIn_app (goodIn_of _ (by decide +kernel)) ggX2_goodStamps_X2_isBacked
theorem dX2_goodStamps_0 : decode cX2_goodStamps 0 = .ok (.lconst 0, 1) := by decide +kernel
theorem dX2_goodStamps_1 : decode cX2_goodStamps 1 = .ok (.lstore_n 2, 1) := by decide +kernel
theorem dX2_goodStamps_2 : decode cX2_goodStamps 2 = .ok (.iconst 0, 1) := by decide +kernel
theorem dX2_goodStamps_3 : decode cX2_goodStamps 3 = .ok (.istore 4, 2) := by decide +kernel
theorem dX2_goodStamps_5 : decode cX2_goodStamps 5 = .ok (.iload 4, 2) := by decide +kernel
theorem dX2_goodStamps_7 : decode cX2_goodStamps 7 = .ok (.aload_n 0, 1) := by decide +kernel
theorem dX2_goodStamps_8 : decode cX2_goodStamps 8 = .ok (.getfield 35, 3) := by decide +kernel
theorem dX2_goodStamps_11 : decode cX2_goodStamps 11 = .ok (.getfield 216, 3) := by decide +kernel
theorem dX2_goodStamps_14 : decode cX2_goodStamps 14 = .ok (.if_icmp .ge 94, 3) := by decide +kernel
theorem dX2_goodStamps_17 : decode cX2_goodStamps 17 = .ok (.aload_n 0, 1) := by decide +kernel
theorem dX2_goodStamps_18 : decode cX2_goodStamps 18 = .ok (.getfield 35, 3) := by decide +kernel
theorem dX2_goodStamps_21 : decode cX2_goodStamps 21 = .ok (.getfield 219, 3) := by decide +kernel
theorem dX2_goodStamps_24 : decode cX2_goodStamps 24 = .ok (.iload 4, 2) := by decide +kernel
theorem dX2_goodStamps_26 : decode cX2_goodStamps 26 = .ok (.iaload, 1) := by decide +kernel
theorem dX2_goodStamps_27 : decode cX2_goodStamps 27 = .ok (.istore 5, 2) := by decide +kernel
theorem dX2_goodStamps_29 : decode cX2_goodStamps 29 = .ok (.iload 4, 2) := by decide +kernel
theorem dX2_goodStamps_31 : decode cX2_goodStamps 31 = .ok (.iload_n 1, 1) := by decide +kernel
theorem dX2_goodStamps_32 : decode cX2_goodStamps 32 = .ok (.if_icmp .eq 30, 3) := by decide +kernel
theorem dX2_goodStamps_35 : decode cX2_goodStamps 35 = .ok (.aload_n 0, 1) := by decide +kernel
theorem dX2_goodStamps_36 : decode cX2_goodStamps 36 = .ok (.getfield 35, 3) := by decide +kernel
theorem dX2_goodStamps_39 : decode cX2_goodStamps 39 = .ok (.getfield 222, 3) := by decide +kernel
theorem dX2_goodStamps_42 : decode cX2_goodStamps 42 = .ok (.aload_n 0, 1) := by decide +kernel
theorem dX2_goodStamps_43 : decode cX2_goodStamps 43 = .ok (.getfield 35, 3) := by decide +kernel
theorem dX2_goodStamps_46 : decode cX2_goodStamps 46 = .ok (.getfield 130, 3) := by decide +kernel
theorem dX2_goodStamps_49 : decode cX2_goodStamps 49 = .ok (.lor, 1) := by decide +kernel
theorem dX2_goodStamps_50 : decode cX2_goodStamps 50 = .ok (.iload 4, 2) := by decide +kernel
theorem dX2_goodStamps_52 : decode cX2_goodStamps 52 = .ok (.invokestatic 117, 3) := by decide +kernel
theorem dX2_goodStamps_55 : decode cX2_goodStamps 55 = .ok (.ifCond .ne 7, 3) := by decide +kernel
theorem dX2_goodStamps_58 : decode cX2_goodStamps 58 = .ok (.iconst 1, 1) := by decide +kernel
theorem dX2_goodStamps_59 : decode cX2_goodStamps 59 = .ok (.goto 4, 3) := by decide +kernel
theorem dX2_goodStamps_62 : decode cX2_goodStamps 62 = .ok (.iconst 0, 1) := by decide +kernel
theorem dX2_goodStamps_63 : decode cX2_goodStamps 63 = .ok (.istore 6, 2) := by decide +kernel
theorem dX2_goodStamps_65 : decode cX2_goodStamps 65 = .ok (.iload 6, 2) := by decide +kernel
theorem dX2_goodStamps_67 : decode cX2_goodStamps 67 = .ok (.ifCond .eq 35, 3) := by decide +kernel
theorem dX2_goodStamps_70 : decode cX2_goodStamps 70 = .ok (.iload 5, 2) := by decide +kernel
theorem dX2_goodStamps_72 : decode cX2_goodStamps 72 = .ok (.bipush (-6), 2) := by decide +kernel
theorem dX2_goodStamps_74 : decode cX2_goodStamps 74 = .ok (.if_icmp .eq 12, 3) := by decide +kernel
theorem dX2_goodStamps_77 : decode cX2_goodStamps 77 = .ok (.lload_n 2, 1) := by decide +kernel
theorem dX2_goodStamps_78 : decode cX2_goodStamps 78 = .ok (.iload 5, 2) := by decide +kernel
theorem dX2_goodStamps_80 : decode cX2_goodStamps 80 = .ok (.invokestatic 117, 3) := by decide +kernel
theorem dX2_goodStamps_83 : decode cX2_goodStamps 83 = .ok (.ifCond .eq 19, 3) := by decide +kernel
theorem dX2_goodStamps_86 : decode cX2_goodStamps 86 = .ok (.aload_n 0, 1) := by decide +kernel
theorem dX2_goodStamps_87 : decode cX2_goodStamps 87 = .ok (.iload 4, 2) := by decide +kernel
theorem dX2_goodStamps_89 : decode cX2_goodStamps 89 = .ok (.invokevirtual 225, 3) := by decide +kernel
theorem dX2_goodStamps_92 : decode cX2_goodStamps 92 = .ok (.ifCond .eq 10, 3) := by decide +kernel
theorem dX2_goodStamps_95 : decode cX2_goodStamps 95 = .ok (.lload_n 2, 1) := by decide +kernel
theorem dX2_goodStamps_96 : decode cX2_goodStamps 96 = .ok (.lconst 1, 1) := by decide +kernel
theorem dX2_goodStamps_97 : decode cX2_goodStamps 97 = .ok (.iload 4, 2) := by decide +kernel
theorem dX2_goodStamps_99 : decode cX2_goodStamps 99 = .ok (.lshl, 1) := by decide +kernel
theorem dX2_goodStamps_100 : decode cX2_goodStamps 100 = .ok (.lor, 1) := by decide +kernel
theorem dX2_goodStamps_101 : decode cX2_goodStamps 101 = .ok (.lstore_n 2, 1) := by decide +kernel
theorem dX2_goodStamps_102 : decode cX2_goodStamps 102 = .ok (.iinc 4 1, 3) := by decide +kernel
theorem dX2_goodStamps_105 : decode cX2_goodStamps 105 = .ok (.goto (-100), 3) := by decide +kernel
theorem dX2_goodStamps_108 : decode cX2_goodStamps 108 = .ok (.lload_n 2, 1) := by decide +kernel
theorem dX2_goodStamps_109 : decode cX2_goodStamps 109 = .ok (.lreturn, 1) := by decide +kernel
set_option maxRecDepth 20000 in
theorem ggX2_isBacked_X4_has : GoodIn wsX2_isBacked wsX4_has := goodIn_r _ [12, 13, 27, 28, 29, 30, 31, 32, 33, 34] (by decide +kernel) (by decide +kernel)
set_option maxRecDepth 20000 in
theorem gX2_isBacked_X4_has : GoodIn wsX2_isBacked (wsV RX2 114 RX4 yX4_has wsX4_has) := goodIn_app (goodIn_of _ (by decide +kernel)) ggX2_isBacked_X4_has
set_option maxRecDepth 20000 in
theorem ggX2_isBacked_X6_isPage : GoodIn wsX2_isBacked wsX6_isPage := goodIn_r _ [16] (by decide +kernel) (by decide +kernel)
set_option maxRecDepth 20000 in
theorem gX2_isBacked_X6_isPage_n88 : GoodIn wsX2_isBacked (wsX6_isPage) := ggX2_isBacked_X6_isPage
theorem dX2_isBacked_0 : decode cX2_isBacked 0 = .ok (.aload_n 0, 1) := by decide +kernel
theorem dX2_isBacked_1 : decode cX2_isBacked 1 = .ok (.getfield 35, 3) := by decide +kernel
theorem dX2_isBacked_4 : decode cX2_isBacked 4 = .ok (.getfield 219, 3) := by decide +kernel
theorem dX2_isBacked_7 : decode cX2_isBacked 7 = .ok (.iload_n 1, 1) := by decide +kernel
theorem dX2_isBacked_8 : decode cX2_isBacked 8 = .ok (.iaload, 1) := by decide +kernel
theorem dX2_isBacked_9 : decode cX2_isBacked 9 = .ok (.istore_n 2, 1) := by decide +kernel
theorem dX2_isBacked_10 : decode cX2_isBacked 10 = .ok (.aload_n 0, 1) := by decide +kernel
theorem dX2_isBacked_11 : decode cX2_isBacked 11 = .ok (.getfield 35, 3) := by decide +kernel
theorem dX2_isBacked_14 : decode cX2_isBacked 14 = .ok (.getfield 127, 3) := by decide +kernel
theorem dX2_isBacked_17 : decode cX2_isBacked 17 = .ok (.iload_n 1, 1) := by decide +kernel
theorem dX2_isBacked_18 : decode cX2_isBacked 18 = .ok (.iaload, 1) := by decide +kernel
theorem dX2_isBacked_19 : decode cX2_isBacked 19 = .ok (.istore_n 3, 1) := by decide +kernel
theorem dX2_isBacked_20 : decode cX2_isBacked 20 = .ok (.aload_n 0, 1) := by decide +kernel
theorem dX2_isBacked_21 : decode cX2_isBacked 21 = .ok (.getfield 35, 3) := by decide +kernel
theorem dX2_isBacked_24 : decode cX2_isBacked 24 = .ok (.getfield 228, 3) := by decide +kernel
theorem dX2_isBacked_27 : decode cX2_isBacked 27 = .ok (.iload_n 1, 1) := by decide +kernel
theorem dX2_isBacked_28 : decode cX2_isBacked 28 = .ok (.iaload, 1) := by decide +kernel
theorem dX2_isBacked_29 : decode cX2_isBacked 29 = .ok (.istore 4, 2) := by decide +kernel
theorem dX2_isBacked_31 : decode cX2_isBacked 31 = .ok (.aload_n 0, 1) := by decide +kernel
theorem dX2_isBacked_32 : decode cX2_isBacked 32 = .ok (.getfield 35, 3) := by decide +kernel
theorem dX2_isBacked_35 : decode cX2_isBacked 35 = .ok (.iload_n 2, 1) := by decide +kernel
theorem dX2_isBacked_36 : decode cX2_isBacked 36 = .ok (.invokevirtual 114, 3) := by decide +kernel
theorem dX2_isBacked_39 : decode cX2_isBacked 39 = .ok (.ifCond .ne 27, 3) := by decide +kernel
theorem dX2_isBacked_42 : decode cX2_isBacked 42 = .ok (.iload_n 3, 1) := by decide +kernel
theorem dX2_isBacked_43 : decode cX2_isBacked 43 = .ok (.invokestatic 88, 3) := by decide +kernel
theorem dX2_isBacked_46 : decode cX2_isBacked 46 = .ok (.ifCond .eq 18, 3) := by decide +kernel
theorem dX2_isBacked_49 : decode cX2_isBacked 49 = .ok (.aload_n 0, 1) := by decide +kernel
theorem dX2_isBacked_50 : decode cX2_isBacked 50 = .ok (.getfield 9, 3) := by decide +kernel
theorem dX2_isBacked_53 : decode cX2_isBacked 53 = .ok (.iload_n 3, 1) := by decide +kernel
theorem dX2_isBacked_54 : decode cX2_isBacked 54 = .ok (.iaload, 1) := by decide +kernel
theorem dX2_isBacked_55 : decode cX2_isBacked 55 = .ok (.iload 4, 2) := by decide +kernel
theorem dX2_isBacked_57 : decode cX2_isBacked 57 = .ok (.if_icmp .ne 7, 3) := by decide +kernel
theorem dX2_isBacked_60 : decode cX2_isBacked 60 = .ok (.iconst 1, 1) := by decide +kernel
theorem dX2_isBacked_61 : decode cX2_isBacked 61 = .ok (.goto 4, 3) := by decide +kernel
theorem dX2_isBacked_64 : decode cX2_isBacked 64 = .ok (.iconst 0, 1) := by decide +kernel
theorem dX2_isBacked_65 : decode cX2_isBacked 65 = .ok (.ireturn, 1) := by decide +kernel
theorem dX2_isBacked_66 : decode cX2_isBacked 66 = .ok (.aload_n 0, 1) := by decide +kernel
theorem dX2_isBacked_67 : decode cX2_isBacked 67 = .ok (.getfield 35, 3) := by decide +kernel
theorem dX2_isBacked_70 : decode cX2_isBacked 70 = .ok (.getfield 121, 3) := by decide +kernel
theorem dX2_isBacked_73 : decode cX2_isBacked 73 = .ok (.iload_n 1, 1) := by decide +kernel
theorem dX2_isBacked_74 : decode cX2_isBacked 74 = .ok (.iaload, 1) := by decide +kernel
theorem dX2_isBacked_75 : decode cX2_isBacked 75 = .ok (.iconst 4, 1) := by decide +kernel
theorem dX2_isBacked_76 : decode cX2_isBacked 76 = .ok (.ior, 1) := by decide +kernel
theorem dX2_isBacked_77 : decode cX2_isBacked 77 = .ok (.istore 5, 2) := by decide +kernel
theorem dX2_isBacked_79 : decode cX2_isBacked 79 = .ok (.aload_n 0, 1) := by decide +kernel
theorem dX2_isBacked_80 : decode cX2_isBacked 80 = .ok (.getfield 35, 3) := by decide +kernel
theorem dX2_isBacked_83 : decode cX2_isBacked 83 = .ok (.getfield 127, 3) := by decide +kernel
theorem dX2_isBacked_86 : decode cX2_isBacked 86 = .ok (.iload_n 2, 1) := by decide +kernel
theorem dX2_isBacked_87 : decode cX2_isBacked 87 = .ok (.iaload, 1) := by decide +kernel
theorem dX2_isBacked_88 : decode cX2_isBacked 88 = .ok (.iload_n 3, 1) := by decide +kernel
theorem dX2_isBacked_89 : decode cX2_isBacked 89 = .ok (.if_icmp .ne 38, 3) := by decide +kernel
theorem dX2_isBacked_92 : decode cX2_isBacked 92 = .ok (.aload_n 0, 1) := by decide +kernel
theorem dX2_isBacked_93 : decode cX2_isBacked 93 = .ok (.getfield 35, 3) := by decide +kernel
theorem dX2_isBacked_96 : decode cX2_isBacked 96 = .ok (.getfield 124, 3) := by decide +kernel
theorem dX2_isBacked_99 : decode cX2_isBacked 99 = .ok (.iload_n 2, 1) := by decide +kernel
theorem dX2_isBacked_100 : decode cX2_isBacked 100 = .ok (.iaload, 1) := by decide +kernel
theorem dX2_isBacked_101 : decode cX2_isBacked 101 = .ok (.iload 4, 2) := by decide +kernel
theorem dX2_isBacked_103 : decode cX2_isBacked 103 = .ok (.if_icmp .ne 24, 3) := by decide +kernel
theorem dX2_isBacked_106 : decode cX2_isBacked 106 = .ok (.iload 5, 2) := by decide +kernel
theorem dX2_isBacked_108 : decode cX2_isBacked 108 = .ok (.aload_n 0, 1) := by decide +kernel
theorem dX2_isBacked_109 : decode cX2_isBacked 109 = .ok (.getfield 35, 3) := by decide +kernel
theorem dX2_isBacked_112 : decode cX2_isBacked 112 = .ok (.getfield 121, 3) := by decide +kernel
theorem dX2_isBacked_115 : decode cX2_isBacked 115 = .ok (.iload_n 2, 1) := by decide +kernel
theorem dX2_isBacked_116 : decode cX2_isBacked 116 = .ok (.iaload, 1) := by decide +kernel
theorem dX2_isBacked_117 : decode cX2_isBacked 117 = .ok (.iconst (-1), 1) := by decide +kernel
theorem dX2_isBacked_118 : decode cX2_isBacked 118 = .ok (.ixor, 1) := by decide +kernel
theorem dX2_isBacked_119 : decode cX2_isBacked 119 = .ok (.iand, 1) := by decide +kernel
theorem dX2_isBacked_120 : decode cX2_isBacked 120 = .ok (.ifCond .ne 7, 3) := by decide +kernel
theorem dX2_isBacked_123 : decode cX2_isBacked 123 = .ok (.iconst 1, 1) := by decide +kernel
theorem dX2_isBacked_124 : decode cX2_isBacked 124 = .ok (.goto 4, 3) := by decide +kernel
theorem dX2_isBacked_127 : decode cX2_isBacked 127 = .ok (.iconst 0, 1) := by decide +kernel
theorem dX2_isBacked_128 : decode cX2_isBacked 128 = .ok (.ireturn, 1) := by decide +kernel
