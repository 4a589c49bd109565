theorem good_app {T a b : List Cond} (h1 : GoodIn T a) (h2 : GoodIn T b) : GoodIn T (a ++ b) := fun w h => (List.mem_append.mp h).elim (h1 w) (h2 w)
theorem good_cons {T b : List Cond} {a : Cond} (h1 : GoodIn T [a]) (h2 : GoodIn T b) : GoodIn T (a :: b) := fun w h => (List.mem_cons.mp h).elim (fun e => h1 w (by rw [e]; exact List.mem_singleton_self a)) (h2 w)
theorem goodX00 : GoodIn wsL_law wsX00 := fun w h => ⟨inlX0 w h, good_of_word (List.all_eq_true.mp (show wsX00.all goodWord = true by decide +kernel) w h)⟩
theorem goodX10 : GoodIn wsL_law wsX10 := fun w h => ⟨inlX1 w h, good_of_word (List.all_eq_true.mp (show wsX10.all goodWord = true by decide +kernel) w h)⟩
theorem goodX20 : GoodIn wsL_law wsX20 := fun w h => ⟨inlX2 w h, good_of_word (List.all_eq_true.mp (show wsX20.all goodWord = true by decide +kernel) w h)⟩
theorem goodX30 : GoodIn wsL_law wsX30 := fun w h => ⟨inlX3 w h, good_of_word (List.all_eq_true.mp (show wsX30.all goodWord = true by decide +kernel) w h)⟩
theorem goodX40 : GoodIn wsL_law wsX40 := fun w h => ⟨inlX4 w h, good_of_word (List.all_eq_true.mp (show wsX40.all goodWord = true by decide +kernel) w h)⟩
theorem goodX50 : GoodIn wsL_law wsX50 := fun w h => ⟨inlX5 w h, good_of_word (List.all_eq_true.mp (show wsX50.all goodWord = true by decide +kernel) w h)⟩
theorem goodX60 : GoodIn wsL_law wsX60 := fun w h => ⟨inlX6 w h, good_of_word (List.all_eq_true.mp (show wsX60.all goodWord = true by decide +kernel) w h)⟩
theorem goodX70 : GoodIn wsL_law wsX70 := fun w h => ⟨inlX7 w h, good_of_word (List.all_eq_true.mp (show wsX70.all goodWord = true by decide +kernel) w h)⟩
set_option maxRecDepth 20000 in
theorem gL_law_X6_put : GoodIn wsL_law (wsV RL 98 RX6 yX6_put wsX6_put) := goodIn_app (goodIn_of _ (by decide +kernel)) ggL_law_X6_put
set_option maxRecDepth 20000 in
theorem ggL_law_X7_put : GoodIn wsL_law wsX7_put := goodIn_r _ [720, 721, 629, 97, 164, 165, 5, 166, 957, 958, 959, 960, 961, 962, 963, 964, 965, 966, 967, 968, 969, 970, 971, 972] (by decide +kernel) (by decide +kernel)
set_option maxRecDepth 20000 in
theorem gL_law_X7_put : GoodIn wsL_law (wsV RL 102 RX7 yX7_put wsX7_put) := goodIn_app (goodIn_of _ (by decide +kernel)) ggL_law_X7_put
set_option maxRecDepth 20000 in
theorem ggL_law_X6_wipe : GoodIn wsL_law wsX6_wipe := goodIn_r _ [725, 24, 726, 727, 728, 23, 729, 709, 952, 953, 954, 955, 956, 985, 986, 987, 988, 989, 990] (by decide +kernel) (by decide +kernel)
set_option maxRecDepth 20000 in
theorem gL_law_X6_wipe : GoodIn wsL_law (wsV RL 103 RX6 yX6_wipe wsX6_wipe) := goodIn_app (goodIn_of _ (by decide +kernel)) ggL_law_X6_wipe
set_option maxRecDepth 20000 in
theorem ggL_law_X7_wipe : GoodIn wsL_law wsX7_wipe := goodIn_r _ [733, 629, 957, 958, 959, 960, 961, 962, 963, 964, 965, 966, 967, 968, 969, 970, 971, 972] (by decide +kernel) (by decide +kernel)
set_option maxRecDepth 20000 in
theorem gL_law_X7_wipe : GoodIn wsL_law (wsV RL 106 RX7 yX7_wipe wsX7_wipe) := goodIn_app (goodIn_of _ (by decide +kernel)) ggL_law_X7_wipe
set_option maxRecDepth 20000 in
theorem ggL_law_X6_fault : GoodIn wsL_law wsX6_fault := goodIn_r _ [737, 24, 738, 739, 740, 23, 741, 742, 709, 79, 743, 744, 745, 746, 747, 748, 749, 750, 751, 752, 753, 754, 755, 756, 757, 758, 759, 760, 761, 762, 763, 764, 765, 766, 767, 768, 769, 770, 771, 772, 773, 774, 775, 776, 777, 778, 779, 780, 781, 782, 783, 784, 785, 786, 787, 788, 789, 790, 791, 792, 793, 794, 795, 796, 797, 798, 799, 800, 801, 802, 803, 804, 805, 806, 807, 808, 809, 810, 811, 812, 813, 814, 815, 816, 817, 818, 819, 820, 821, 822, 823, 824, 80, 825, 826, 827, 828, 829, 830, 831, 832, 833, 834, 835, 836, 952, 953, 954, 955, 956, 985, 986, 987, 988, 989, 990] (by decide +kernel) (by decide +kernel)
set_option maxRecDepth 20000 in
theorem gL_law_X6_fault : GoodIn wsL_law (wsV RL 107 RX6 yX6_fault wsX6_fault) := goodIn_app (goodIn_of _ (by decide +kernel)) ggL_law_X6_fault
set_option maxRecDepth 20000 in
theorem ggL_law_X7_fault : GoodIn wsL_law wsX7_fault := goodIn_r _ [840, 841, 842, 843, 629, 844, 845, 846, 5, 847, 98, 848, 849, 850, 851, 97, 852, 853, 854, 855, 856, 857, 858, 859, 164, 165, 166, 860, 861, 862, 863, 99, 864, 865, 866, 867, 868, 869, 870, 871, 872, 873, 874, 875, 876, 877, 878, 879, 880, 881, 882, 883, 884, 885, 886, 887, 888, 889, 890, 891, 957, 958, 959, 960, 961, 962, 963, 964, 965, 966, 967, 968, 969, 970, 971, 972] (by decide +kernel) (by decide +kernel)
set_option maxRecDepth 20000 in
theorem gL_law_X7_fault : GoodIn wsL_law (wsV RL 110 RX7 yX7_fault wsX7_fault) := goodIn_app (goodIn_of _ (by decide +kernel)) ggL_law_X7_fault
set_option maxRecDepth 20000 in
theorem gc_wsX6_carryOut_r1 : GoodIn wsL_law wsX6_carryOut_r1 := goodIn_r _ [24, 28, 16, 20, 738, 739, 740, 23, 741, 742, 709, 79, 743, 744, 745, 746, 747, 748, 749, 750, 751, 752, 753, 754] (by decide +kernel) (by decide +kernel)
set_option maxRecDepth 20000 in
theorem gc_wsX6_carryOut_r2 : GoodIn wsL_law wsX6_carryOut_r2 := goodIn_r _ [755, 756, 757, 758, 759, 760, 761, 762, 763, 764, 765, 766, 767, 768, 769, 770, 771, 772, 773, 774, 775, 776, 777, 778] (by decide +kernel) (by decide +kernel)
set_option maxRecDepth 20000 in
theorem gc_wsX6_carryOut_r3 : GoodIn wsL_law wsX6_carryOut_r3 := goodIn_r _ [779, 780, 781, 782, 783, 784, 785, 786, 787, 788, 789, 790, 791, 792, 793, 794, 795, 796, 797, 798, 799, 800, 801, 802] (by decide +kernel) (by decide +kernel)
set_option maxRecDepth 20000 in
theorem gc_wsX6_carryOut_r4 : GoodIn wsL_law wsX6_carryOut_r4 := goodIn_r _ [803, 804, 805, 806, 807, 808, 809, 810, 811, 812, 813, 814, 815, 816, 817, 818, 819, 820, 821, 822, 823, 824, 80, 825] (by decide +kernel) (by decide +kernel)
set_option maxRecDepth 20000 in
theorem gc_wsX6_carryOut_r5 : GoodIn wsL_law wsX6_carryOut_r5 := goodIn_r _ [826, 827, 828, 829, 830, 831, 832, 833, 834, 835, 836, 104, 105, 106, 27, 107, 85, 108, 84, 14, 15, 109, 31, 32] (by decide +kernel) (by decide +kernel)
set_option maxRecDepth 20000 in
theorem gc_wsX6_carryOut_r6 : GoodIn wsL_law wsX6_carryOut_r6 := goodIn_r _ [33, 11, 12, 34, 35, 36, 37, 38, 39, 40, 41, 42, 43, 44, 45, 46, 47, 48, 49, 50, 51, 52, 53, 54] (by decide +kernel) (by decide +kernel)
set_option maxRecDepth 20000 in
theorem gc_wsX6_carryOut_r7 : GoodIn wsL_law wsX6_carryOut_r7 := goodIn_r _ [55, 56, 57, 58, 59, 60, 61, 62, 63, 64, 65, 66, 67, 68, 69, 70, 71, 110, 111, 112, 113, 114, 115, 116] (by decide +kernel) (by decide +kernel)
set_option maxRecDepth 20000 in
theorem gc_wsX6_carryOut_r8 : GoodIn wsL_law wsX6_carryOut_r8 := goodIn_r _ [117, 118, 119, 120, 121, 122, 123, 124, 125, 126, 127, 128, 129, 130, 131, 132, 133, 134, 135, 136, 137, 896, 897, 898] (by decide +kernel) (by decide +kernel)
set_option maxRecDepth 20000 in
theorem gc_wsX6_carryOut_r9 : GoodIn wsL_law wsX6_carryOut_r9 := goodIn_r _ [899, 900, 901, 902, 903, 904, 186, 187, 188, 189, 2, 190, 191, 192, 193, 194, 195, 196, 197, 198, 199, 200, 150, 151] (by decide +kernel) (by decide +kernel)
set_option maxRecDepth 20000 in
theorem gc_wsX6_carryOut_r10 : GoodIn wsL_law wsX6_carryOut_r10 := goodIn_r _ [201, 202, 203, 204, 205, 206, 207, 208, 209, 210, 211, 212, 213, 214, 215, 216, 217, 218, 219, 220, 221, 222, 223, 224] (by decide +kernel) (by decide +kernel)
set_option maxRecDepth 20000 in
theorem gc_wsX6_carryOut_r11 : GoodIn wsL_law wsX6_carryOut_r11 := goodIn_r _ [225, 146, 147, 148, 149, 226, 227, 228, 229, 230, 231, 232, 233, 234, 235, 236, 237, 238, 239, 240, 241, 242, 905, 298] (by decide +kernel) (by decide +kernel)
set_option maxRecDepth 20000 in
theorem gc_wsX6_carryOut_r12 : GoodIn wsL_law wsX6_carryOut_r12 := goodIn_r _ [299, 300, 301, 302, 303, 304, 305, 306, 307, 308, 309, 310, 311, 906, 332, 333, 334, 907, 364, 365, 366, 908, 380, 381] (by decide +kernel) (by decide +kernel)
set_option maxRecDepth 20000 in
theorem gc_wsX6_carryOut_r13 : GoodIn wsL_law wsX6_carryOut_r13 := goodIn_r _ [382, 383, 384, 385, 386, 909, 407, 408, 409, 410, 411, 412, 413, 414, 415, 416, 417, 418, 419, 420, 421, 422, 423, 424] (by decide +kernel) (by decide +kernel)
set_option maxRecDepth 20000 in
theorem gc_wsX6_carryOut_r14 : GoodIn wsL_law wsX6_carryOut_r14 := goodIn_r _ [425, 426, 427, 428, 429, 430, 431, 432, 433, 434, 435, 436, 437, 438, 439, 440, 19, 441, 442, 443, 444, 445, 446, 447] (by decide +kernel) (by decide +kernel)
set_option maxRecDepth 20000 in
theorem gc_wsX6_carryOut_r15 : GoodIn wsL_law wsX6_carryOut_r15 := goodIn_r _ [448, 449, 450, 451, 452, 453, 454, 455, 456, 457, 458, 459, 142, 143, 144, 145, 460, 910, 726, 727, 728, 729, 152, 153] (by decide +kernel) (by decide +kernel)
set_option maxRecDepth 20000 in
theorem gc_wsX6_carryOut_r16 : GoodIn wsL_law wsX6_carryOut_r16 := goodIn_r _ [154, 155, 156, 157, 158, 159] (by decide +kernel) (by decide +kernel)
set_option maxRecDepth 20000 in
theorem gc_X6_carryOut_h : GoodIn wsL_law [.code yX6_carryOut cX6_carryOut 2 (some .int)] := goodIn_r _ [895] (by decide +kernel) (by decide +kernel)
theorem ggL_law_X6_carryOut : GoodIn wsL_law wsX6_carryOut := good_cons gc_X6_carryOut_h (good_app (good_app (good_app (good_app (good_app (good_app (good_app (good_app gc_wsX6_carryOut_r1 (good_app gc_wsX6_carryOut_r2 (good_app gc_wsX6_carryOut_r3 (good_app gc_wsX6_carryOut_r4 (good_app gc_wsX6_carryOut_r5 (good_app gc_wsX6_carryOut_r6 (good_app gc_wsX6_carryOut_r7 (good_app gc_wsX6_carryOut_r8 (good_app gc_wsX6_carryOut_r9 (good_app gc_wsX6_carryOut_r10 (good_app gc_wsX6_carryOut_r11 (good_app gc_wsX6_carryOut_r12 (good_app gc_wsX6_carryOut_r13 (good_app gc_wsX6_carryOut_r14 (good_app gc_wsX6_carryOut_r15 (gc_wsX6_carryOut_r16)))))))))))))))) goodX60) goodX30) goodX10) goodX20) goodX40) goodX00) goodX50)
set_option maxRecDepth 20000 in
theorem gL_law_X6_carryOut : GoodIn wsL_law (wsV RL 111 RX6 yX6_carryOut wsX6_carryOut) := goodIn_app (goodIn_of _ (by decide +kernel)) ggL_law_X6_carryOut
set_option maxRecDepth 20000 in
theorem gc_wsX7_carryOut_r1 : GoodIn wsL_law wsX7_carryOut_r1 := goodIn_r _ [843, 629, 915, 838, 839, 5, 840, 841, 842, 844, 845, 846, 847, 98, 848, 849, 850, 851, 97, 852, 853, 854, 855, 856] (by decide +kernel) (by decide +kernel)
set_option maxRecDepth 20000 in
theorem gc_wsX7_carryOut_r2 : GoodIn wsL_law wsX7_carryOut_r2 := goodIn_r _ [857, 858, 859, 164, 165, 166, 860, 861, 862, 863, 99, 864, 865, 866, 867, 868, 869, 870, 871, 872, 873, 874, 875, 876] (by decide +kernel) (by decide +kernel)
set_option maxRecDepth 20000 in
theorem gc_wsX7_carryOut_r3 : GoodIn wsL_law wsX7_carryOut_r3 := goodIn_r _ [877, 878, 879, 880, 881, 882, 883, 884, 885, 886, 887, 888, 889, 890, 891, 167, 168, 169, 170, 171, 172, 91, 90, 916] (by decide +kernel) (by decide +kernel)
set_option maxRecDepth 20000 in
theorem gc_wsX7_carryOut_r4 : GoodIn wsL_law wsX7_carryOut_r4 := goodIn_r _ [917, 918, 919, 247, 248, 249, 250, 251, 252, 253, 254, 255, 256, 257, 258, 259, 260, 261, 262, 263, 264, 96, 95, 265] (by decide +kernel) (by decide +kernel)
set_option maxRecDepth 20000 in
theorem gc_wsX7_carryOut_r5 : GoodIn wsL_law wsX7_carryOut_r5 := goodIn_r _ [266, 267, 268, 269, 270, 271, 272, 273, 274, 275, 276, 277, 278, 279, 280, 281, 282, 283, 284, 285, 286, 287, 288, 289] (by decide +kernel) (by decide +kernel)
set_option maxRecDepth 20000 in
theorem gc_wsX7_carryOut_r6 : GoodIn wsL_law wsX7_carryOut_r6 := goodIn_r _ [290, 291, 292, 177, 178, 179, 180, 316, 317, 318, 319, 320, 321, 322, 323, 324, 325, 326, 339, 340, 341, 342, 343, 344] (by decide +kernel) (by decide +kernel)
set_option maxRecDepth 20000 in
theorem gc_wsX7_carryOut_r7 : GoodIn wsL_law wsX7_carryOut_r7 := goodIn_r _ [345, 346, 371, 372, 373, 374, 391, 392, 393, 394, 395, 396, 397, 398, 399, 400, 401, 465, 466, 467, 468, 469, 470, 471] (by decide +kernel) (by decide +kernel)
set_option maxRecDepth 20000 in
theorem gc_wsX7_carryOut_r8 : GoodIn wsL_law wsX7_carryOut_r8 := goodIn_r _ [472, 473, 474, 475, 476, 477, 478, 479, 480, 481, 482, 483, 484, 485, 486, 487, 488, 489, 490, 491, 492, 493, 494, 495] (by decide +kernel) (by decide +kernel)
set_option maxRecDepth 20000 in
theorem gc_wsX7_carryOut_r9 : GoodIn wsL_law wsX7_carryOut_r9 := goodIn_r _ [496, 497, 173, 174, 175, 176] (by decide +kernel) (by decide +kernel)
set_option maxRecDepth 20000 in
theorem gc_X7_carryOut_h : GoodIn wsL_law [.code yX7_carryOut cX7_carryOut 2 (some .int)] := goodIn_r _ [914] (by decide +kernel) (by decide +kernel)
theorem ggL_law_X7_carryOut : GoodIn wsL_law wsX7_carryOut := good_cons gc_X7_carryOut_h (good_app (good_app gc_wsX7_carryOut_r1 (good_app gc_wsX7_carryOut_r2 (good_app gc_wsX7_carryOut_r3 (good_app gc_wsX7_carryOut_r4 (good_app gc_wsX7_carryOut_r5 (good_app gc_wsX7_carryOut_r6 (good_app gc_wsX7_carryOut_r7 (good_app gc_wsX7_carryOut_r8 (gc_wsX7_carryOut_r9))))))))) goodX70)
set_option maxRecDepth 20000 in
theorem gL_law_X7_carryOut : GoodIn wsL_law (wsV RL 114 RX7 yX7_carryOut wsX7_carryOut) := goodIn_app (goodIn_of _ (by decide +kernel)) ggL_law_X7_carryOut
set_option maxRecDepth 20000 in
theorem ggL_law_X6_undo : GoodIn wsL_law wsX6_undo := goodIn_r _ [923, 28, 16, 924, 925, 926, 27, 927, 108, 85, 110, 111, 112, 15, 113, 35, 114, 115, 116, 117, 36, 43, 44, 48, 52, 118, 119, 120, 121, 122, 123, 124, 47, 125, 56, 126, 57, 58, 59, 60, 127, 128, 129, 130, 131, 132, 51, 133, 64, 134, 65, 66, 67, 135, 136, 137, 952, 953, 954, 955, 956, 991, 992, 973, 974, 975, 976, 977, 978, 979, 980, 981, 982, 993, 994, 995, 996, 997, 998, 999, 1000, 1001, 1002, 1003, 1004, 1005, 1006, 1007] (by decide +kernel) (by decide +kernel)
set_option maxRecDepth 20000 in
theorem gL_law_X6_undo : GoodIn wsL_law (wsV RL 115 RX6 yX6_undo wsX6_undo) := goodIn_app (goodIn_of _ (by decide +kernel)) ggL_law_X6_undo
set_option maxRecDepth 20000 in
theorem ggL_law_X7_undo : GoodIn wsL_law wsX7_undo := goodIn_r _ [931, 171, 172, 90, 91, 957, 958, 959, 960, 961, 962, 963, 964, 965, 966, 967, 968, 969, 970, 971, 972] (by decide +kernel) (by decide +kernel)
set_option maxRecDepth 20000 in
theorem gL_law_X7_undo : GoodIn wsL_law (wsV RL 118 RX7 yX7_undo wsX7_undo) := goodIn_app (goodIn_of _ (by decide +kernel)) ggL_law_X7_undo
set_option maxRecDepth 20000 in
theorem ggL_law_X6_save : GoodIn wsL_law wsX6_save := goodIn_r _ [935, 29, 13, 14, 15, 16, 514, 614, 936, 937, 2, 938, 30, 31, 32, 33, 11, 12, 34, 35, 36, 37, 38, 39, 40, 41, 42, 43, 44, 45, 46, 47, 48, 49, 50, 51, 52, 53, 54, 55, 56, 57, 58, 59, 60, 61, 62, 63, 64, 65, 66, 67, 68, 69, 70, 71, 939, 111, 112, 113, 114, 115, 116, 117, 118, 119, 120, 121, 122, 123, 124, 125, 126, 127, 128, 129, 130, 131, 132, 133, 134, 135, 136, 137, 952, 953, 954, 955, 956, 973, 974, 975, 976, 977, 978, 979, 980, 981, 982, 993, 994, 995, 996, 997, 998, 999, 1000, 1001, 1002, 1003, 1004, 1005, 1006, 1007] (by decide +kernel) (by decide +kernel)
set_option maxRecDepth 20000 in
theorem gL_law_X6_save : GoodIn wsL_law (wsV RL 119 RX6 yX6_save wsX6_save) := goodIn_app (goodIn_of _ (by decide +kernel)) ggL_law_X6_save
set_option maxRecDepth 20000 in
theorem ggL_law_X7_save : GoodIn wsL_law wsX7_save := goodIn_r _ [943, 92, 90, 94, 164, 165, 5, 166, 957, 958, 959, 960, 961, 962, 963, 964, 965, 966, 967, 968, 969, 970, 971, 972] (by decide +kernel) (by decide +kernel)
set_option maxRecDepth 20000 in
theorem gL_law_X7_save : GoodIn wsL_law (wsV RL 122 RX7 yX7_save wsX7_save) := goodIn_app (goodIn_of _ (by decide +kernel)) ggL_law_X7_save
set_option maxRecDepth 20000 in
theorem gc_wsX6_restore_r1 : GoodIn wsL_law wsX6_restore_r1 := goodIn_r _ [29, 28, 16, 514, 614, 936, 937, 2, 938, 104, 105, 106, 27, 107, 85, 108, 84, 14, 15, 109, 31, 32, 33, 11] (by decide +kernel) (by decide +kernel)
set_option maxRecDepth 20000 in
theorem gc_wsX6_restore_r2 : GoodIn wsL_law wsX6_restore_r2 := goodIn_r _ [12, 34, 35, 36, 37, 38, 39, 40, 41, 42, 43, 44, 45, 46, 47, 48, 49, 50, 51, 52, 53, 54, 55, 56] (by decide +kernel) (by decide +kernel)
set_option maxRecDepth 20000 in
theorem gc_wsX6_restore_r3 : GoodIn wsL_law wsX6_restore_r3 := goodIn_r _ [57, 58, 59, 60, 61, 62, 63, 64, 65, 66, 67, 68, 69, 70, 71, 110, 111, 112, 113, 114, 115, 116, 117, 118] (by decide +kernel) (by decide +kernel)
set_option maxRecDepth 20000 in
theorem gc_wsX6_restore_r4 : GoodIn wsL_law wsX6_restore_r4 := goodIn_r _ [119, 120, 121, 122, 123, 124, 125, 126, 127, 128, 129, 130, 131, 132, 133, 134, 135, 136, 137, 939, 152, 153, 154, 155] (by decide +kernel) (by decide +kernel)
set_option maxRecDepth 20000 in
theorem gc_wsX6_restore_r5 : GoodIn wsL_law wsX6_restore_r5 := goodIn_r _ [156, 157, 158, 159] (by decide +kernel) (by decide +kernel)
set_option maxRecDepth 20000 in
theorem gc_X6_restore_h : GoodIn wsL_law [.code yX6_restore cX6_restore 3 (some .int)] := goodIn_r _ [947] (by decide +kernel) (by decide +kernel)
theorem ggL_law_X6_restore : GoodIn wsL_law wsX6_restore := good_cons gc_X6_restore_h (good_app (good_app (good_app (good_app (good_app (good_app gc_wsX6_restore_r1 (good_app gc_wsX6_restore_r2 (good_app gc_wsX6_restore_r3 (good_app gc_wsX6_restore_r4 (gc_wsX6_restore_r5))))) goodX60) goodX20) goodX40) goodX10) goodX00)
set_option maxRecDepth 20000 in
theorem gL_law_X6_restore : GoodIn wsL_law (wsV RL 123 RX6 yX6_restore wsX6_restore) := goodIn_app (goodIn_of _ (by decide +kernel)) ggL_law_X6_restore
set_option maxRecDepth 20000 in
theorem ggL_law_X7_restore : GoodIn wsL_law wsX7_restore := goodIn_r _ [951, 94, 90, 92, 164, 165, 5, 166, 167, 168, 169, 170, 171, 172, 91, 957, 958, 959, 960, 961, 962, 963, 964, 965, 966, 967, 968, 969, 970, 971, 972] (by decide +kernel) (by decide +kernel)
set_option maxRecDepth 20000 in
theorem gL_law_X7_restore : GoodIn wsL_law (wsV RL 126 RX7 yX7_restore wsX7_restore) := goodIn_app (goodIn_of _ (by decide +kernel)) ggL_law_X7_restore
