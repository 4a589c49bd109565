theorem dL_act_1002 : decode cL_act 1002 = .ok (.goto 22, 3) := by decide +kernel
theorem dL_act_1005 : decode cL_act 1005 = .ok (.iload 8, 2) := by decide +kernel
theorem dL_act_1007 : decode cL_act 1007 = .ok (.iconst 2, 1) := by decide +kernel
theorem dL_act_1008 : decode cL_act 1008 = .ok (.if_icmp .ne 11, 3) := by decide +kernel
theorem dL_act_1011 : decode cL_act 1011 = .ok (.iload_n 3, 1) := by decide +kernel
theorem dL_act_1012 : decode cL_act 1012 = .ok (.iconst 3, 1) := by decide +kernel
theorem dL_act_1013 : decode cL_act 1013 = .ok (.invokestatic 22, 3) := by decide +kernel
theorem dL_act_1016 : decode cL_act 1016 = .ok (.goto 8, 3) := by decide +kernel
theorem dL_act_1019 : decode cL_act 1019 = .ok (.iload_n 3, 1) := by decide +kernel
theorem dL_act_1020 : decode cL_act 1020 = .ok (.iconst 2, 1) := by decide +kernel
theorem dL_act_1021 : decode cL_act 1021 = .ok (.invokestatic 22, 3) := by decide +kernel
theorem dL_act_1024 : decode cL_act 1024 = .ok (.istore 9, 2) := by decide +kernel
theorem dL_act_1026 : decode cL_act 1026 = .ok (.aload_n 0, 1) := by decide +kernel
theorem dL_act_1027 : decode cL_act 1027 = .ok (.bipush 9, 2) := by decide +kernel
theorem dL_act_1029 : decode cL_act 1029 = .ok (.iload 8, 2) := by decide +kernel
theorem dL_act_1031 : decode cL_act 1031 = .ok (.iadd, 1) := by decide +kernel
theorem dL_act_1032 : decode cL_act 1032 = .ok (.invokevirtual 46, 3) := by decide +kernel
theorem dL_act_1035 : decode cL_act 1035 = .ok (.istore 10, 2) := by decide +kernel
theorem dL_act_1037 : decode cL_act 1037 = .ok (.aload_n 0, 1) := by decide +kernel
theorem dL_act_1038 : decode cL_act 1038 = .ok (.iconst 2, 1) := by decide +kernel
theorem dL_act_1039 : decode cL_act 1039 = .ok (.invokevirtual 46, 3) := by decide +kernel
theorem dL_act_1042 : decode cL_act 1042 = .ok (.istore 11, 2) := by decide +kernel
theorem dL_act_1044 : decode cL_act 1044 = .ok (.aload_n 0, 1) := by decide +kernel
theorem dL_act_1045 : decode cL_act 1045 = .ok (.bipush 8, 2) := by decide +kernel
theorem dL_act_1047 : decode cL_act 1047 = .ok (.invokevirtual 46, 3) := by decide +kernel
theorem dL_act_1050 : decode cL_act 1050 = .ok (.istore 12, 2) := by decide +kernel
theorem dL_act_1052 : decode cL_act 1052 = .ok (.aload_n 0, 1) := by decide +kernel
theorem dL_act_1053 : decode cL_act 1053 = .ok (.iload 8, 2) := by decide +kernel
theorem dL_act_1055 : decode cL_act 1055 = .ok (.iload 9, 2) := by decide +kernel
theorem dL_act_1057 : decode cL_act 1057 = .ok (.invokevirtual 26, 3) := by decide +kernel
theorem dL_act_1060 : decode cL_act 1060 = .ok (.iload 10, 2) := by decide +kernel
theorem dL_act_1062 : decode cL_act 1062 = .ok (.if_icmp .ne 17, 3) := by decide +kernel
theorem dL_act_1065 : decode cL_act 1065 = .ok (.aload_n 0, 1) := by decide +kernel
theorem dL_act_1066 : decode cL_act 1066 = .ok (.bipush 9, 2) := by decide +kernel
theorem dL_act_1068 : decode cL_act 1068 = .ok (.iload 8, 2) := by decide +kernel
theorem dL_act_1070 : decode cL_act 1070 = .ok (.iadd, 1) := by decide +kernel
theorem dL_act_1071 : decode cL_act 1071 = .ok (.invokevirtual 46, 3) := by decide +kernel
theorem dL_act_1074 : decode cL_act 1074 = .ok (.iload 9, 2) := by decide +kernel
theorem dL_act_1076 : decode cL_act 1076 = .ok (.if_icmp .eq 5, 3) := by decide +kernel
theorem dL_act_1079 : decode cL_act 1079 = .ok (.iconst 0, 1) := by decide +kernel
theorem dL_act_1080 : decode cL_act 1080 = .ok (.ireturn, 1) := by decide +kernel
theorem dL_act_1081 : decode cL_act 1081 = .ok (.iload 11, 2) := by decide +kernel
theorem dL_act_1083 : decode cL_act 1083 = .ok (.aload_n 0, 1) := by decide +kernel
theorem dL_act_1084 : decode cL_act 1084 = .ok (.bipush 9, 2) := by decide +kernel
theorem dL_act_1086 : decode cL_act 1086 = .ok (.invokevirtual 46, 3) := by decide +kernel
theorem dL_act_1089 : decode cL_act 1089 = .ok (.if_icmp .le 12, 3) := by decide +kernel
theorem dL_act_1092 : decode cL_act 1092 = .ok (.aload_n 0, 1) := by decide +kernel
theorem dL_act_1093 : decode cL_act 1093 = .ok (.bipush 9, 2) := by decide +kernel
theorem dL_act_1095 : decode cL_act 1095 = .ok (.invokevirtual 46, 3) := by decide +kernel
theorem dL_act_1098 : decode cL_act 1098 = .ok (.goto 5, 3) := by decide +kernel
theorem dL_act_1101 : decode cL_act 1101 = .ok (.iload 11, 2) := by decide +kernel
theorem dL_act_1103 : decode cL_act 1103 = .ok (.istore 13, 2) := by decide +kernel
theorem dL_act_1105 : decode cL_act 1105 = .ok (.aload_n 0, 1) := by decide +kernel
theorem dL_act_1106 : decode cL_act 1106 = .ok (.iconst 2, 1) := by decide +kernel
theorem dL_act_1107 : decode cL_act 1107 = .ok (.invokevirtual 46, 3) := by decide +kernel
theorem dL_act_1110 : decode cL_act 1110 = .ok (.iload 13, 2) := by decide +kernel
theorem dL_act_1112 : decode cL_act 1112 = .ok (.if_icmp .ne 20, 3) := by decide +kernel
theorem dL_act_1115 : decode cL_act 1115 = .ok (.aload_n 0, 1) := by decide +kernel
theorem dL_act_1116 : decode cL_act 1116 = .ok (.bipush 8, 2) := by decide +kernel
theorem dL_act_1118 : decode cL_act 1118 = .ok (.invokevirtual 46, 3) := by decide +kernel
theorem dL_act_1121 : decode cL_act 1121 = .ok (.iload 12, 2) := by decide +kernel
theorem dL_act_1123 : decode cL_act 1123 = .ok (.iload 11, 2) := by decide +kernel
theorem dL_act_1125 : decode cL_act 1125 = .ok (.iadd, 1) := by decide +kernel
theorem dL_act_1126 : decode cL_act 1126 = .ok (.iload 13, 2) := by decide +kernel
theorem dL_act_1128 : decode cL_act 1128 = .ok (.isub, 1) := by decide +kernel
theorem dL_act_1129 : decode cL_act 1129 = .ok (.if_icmp .eq 5, 3) := by decide +kernel
theorem dL_act_1132 : decode cL_act 1132 = .ok (.iconst 0, 1) := by decide +kernel
theorem dL_act_1133 : decode cL_act 1133 = .ok (.ireturn, 1) := by decide +kernel
theorem dL_act_1134 : decode cL_act 1134 = .ok (.aload_n 0, 1) := by decide +kernel
theorem dL_act_1135 : decode cL_act 1135 = .ok (.bipush 7, 2) := by decide +kernel
theorem dL_act_1137 : decode cL_act 1137 = .ok (.invokevirtual 46, 3) := by decide +kernel
theorem dL_act_1140 : decode cL_act 1140 = .ok (.istore 14, 2) := by decide +kernel
theorem dL_act_1142 : decode cL_act 1142 = .ok (.iload_n 3, 1) := by decide +kernel
theorem dL_act_1143 : decode cL_act 1143 = .ok (.iconst 5, 1) := by decide +kernel
theorem dL_act_1144 : decode cL_act 1144 = .ok (.ishr, 1) := by decide +kernel
theorem dL_act_1145 : decode cL_act 1145 = .ok (.iconst 3, 1) := by decide +kernel
theorem dL_act_1146 : decode cL_act 1146 = .ok (.invokestatic 22, 3) := by decide +kernel
theorem dL_act_1149 : decode cL_act 1149 = .ok (.ifCond .gt 34, 3) := by decide +kernel
theorem dL_act_1152 : decode cL_act 1152 = .ok (.aload_n 0, 1) := by decide +kernel
theorem dL_act_1153 : decode cL_act 1153 = .ok (.invokevirtual 104, 3) := by decide +kernel
theorem dL_act_1156 : decode cL_act 1156 = .ok (.iload 13, 2) := by decide +kernel
theorem dL_act_1158 : decode cL_act 1158 = .ok (.if_icmp .ne 29, 3) := by decide +kernel
theorem dL_act_1161 : decode cL_act 1161 = .ok (.aload_n 0, 1) := by decide +kernel
theorem dL_act_1162 : decode cL_act 1162 = .ok (.iconst 2, 1) := by decide +kernel
theorem dL_act_1163 : decode cL_act 1163 = .ok (.invokevirtual 46, 3) := by decide +kernel
theorem dL_act_1166 : decode cL_act 1166 = .ok (.ifCond .ne 21, 3) := by decide +kernel
theorem dL_act_1169 : decode cL_act 1169 = .ok (.aload_n 0, 1) := by decide +kernel
theorem dL_act_1170 : decode cL_act 1170 = .ok (.bipush 7, 2) := by decide +kernel
theorem dL_act_1172 : decode cL_act 1172 = .ok (.invokevirtual 46, 3) := by decide +kernel
theorem dL_act_1175 : decode cL_act 1175 = .ok (.iload 14, 2) := by decide +kernel
theorem dL_act_1177 : decode cL_act 1177 = .ok (.iload 13, 2) := by decide +kernel
theorem dL_act_1179 : decode cL_act 1179 = .ok (.iadd, 1) := by decide +kernel
theorem dL_act_1180 : decode cL_act 1180 = .ok (.if_icmp .ne 7, 3) := by decide +kernel
theorem dL_act_1183 : decode cL_act 1183 = .ok (.iconst 1, 1) := by decide +kernel
theorem dL_act_1184 : decode cL_act 1184 = .ok (.goto 4, 3) := by decide +kernel
theorem dL_act_1187 : decode cL_act 1187 = .ok (.iconst 0, 1) := by decide +kernel
theorem dL_act_1188 : decode cL_act 1188 = .ok (.ireturn, 1) := by decide +kernel
theorem dL_noted_0 : decode cL_noted 0 = .ok (.iconst 0, 1) := by decide +kernel
theorem dL_noted_1 : decode cL_noted 1 = .ok (.istore 4, 2) := by decide +kernel
theorem dL_noted_3 : decode cL_noted 3 = .ok (.iload 4, 2) := by decide +kernel
theorem dL_noted_5 : decode cL_noted 5 = .ok (.aload_n 0, 1) := by decide +kernel
theorem dL_noted_6 : decode cL_noted 6 = .ok (.iconst 2, 1) := by decide +kernel
theorem dL_noted_7 : decode cL_noted 7 = .ok (.invokevirtual 46, 3) := by decide +kernel
theorem dL_noted_10 : decode cL_noted 10 = .ok (.if_icmp .ge 37, 3) := by decide +kernel
theorem dL_noted_13 : decode cL_noted 13 = .ok (.iload_n 3, 1) := by decide +kernel
theorem dL_noted_14 : decode cL_noted 14 = .ok (.ifCond .le 33, 3) := by decide +kernel
theorem dL_noted_17 : decode cL_noted 17 = .ok (.aload_n 0, 1) := by decide +kernel
theorem dL_noted_18 : decode cL_noted 18 = .ok (.iload 4, 2) := by decide +kernel
theorem dL_noted_20 : decode cL_noted 20 = .ok (.iconst 0, 1) := by decide +kernel
theorem dL_noted_21 : decode cL_noted 21 = .ok (.invokevirtual 56, 3) := by decide +kernel
theorem dL_noted_24 : decode cL_noted 24 = .ok (.iload_n 1, 1) := by decide +kernel
theorem dL_noted_25 : decode cL_noted 25 = .ok (.if_icmp .ne 16, 3) := by decide +kernel
theorem dL_noted_28 : decode cL_noted 28 = .ok (.aload_n 0, 1) := by decide +kernel
theorem dL_noted_29 : decode cL_noted 29 = .ok (.iload 4, 2) := by decide +kernel
theorem dL_noted_31 : decode cL_noted 31 = .ok (.iconst 1, 1) := by decide +kernel
theorem dL_noted_32 : decode cL_noted 32 = .ok (.invokevirtual 56, 3) := by decide +kernel
theorem dL_noted_35 : decode cL_noted 35 = .ok (.iload_n 2, 1) := by decide +kernel
theorem dL_noted_36 : decode cL_noted 36 = .ok (.if_icmp .ne 5, 3) := by decide +kernel
theorem dL_noted_39 : decode cL_noted 39 = .ok (.iconst 1, 1) := by decide +kernel
theorem dL_noted_40 : decode cL_noted 40 = .ok (.ireturn, 1) := by decide +kernel
theorem dL_noted_41 : decode cL_noted 41 = .ok (.iinc 4 1, 3) := by decide +kernel
theorem dL_noted_44 : decode cL_noted 44 = .ok (.goto (-41), 3) := by decide +kernel
theorem dL_noted_47 : decode cL_noted 47 = .ok (.iconst 0, 1) := by decide +kernel
theorem dL_noted_48 : decode cL_noted 48 = .ok (.ireturn, 1) := by decide +kernel
theorem dL_made_0 : decode cL_made 0 = .ok (.aload_n 0, 1) := by decide +kernel
theorem dL_made_1 : decode cL_made 1 = .ok (.iconst 0, 1) := by decide +kernel
theorem dL_made_2 : decode cL_made 2 = .ok (.invokevirtual 46, 3) := by decide +kernel
theorem dL_made_5 : decode cL_made 5 = .ok (.iload_n 1, 1) := by decide +kernel
theorem dL_made_6 : decode cL_made 6 = .ok (.iconst 1, 1) := by decide +kernel
theorem dL_made_7 : decode cL_made 7 = .ok (.iadd, 1) := by decide +kernel
theorem dL_made_8 : decode cL_made 8 = .ok (.if_icmp .ne 105, 3) := by decide +kernel
theorem dL_made_11 : decode cL_made 11 = .ok (.aload_n 0, 1) := by decide +kernel
theorem dL_made_12 : decode cL_made 12 = .ok (.iload_n 1, 1) := by decide +kernel
theorem dL_made_13 : decode cL_made 13 = .ok (.iconst 0, 1) := by decide +kernel
theorem dL_made_14 : decode cL_made 14 = .ok (.invokevirtual 50, 3) := by decide +kernel
theorem dL_made_17 : decode cL_made 17 = .ok (.iload_n 2, 1) := by decide +kernel
theorem dL_made_18 : decode cL_made 18 = .ok (.if_icmp .ne 95, 3) := by decide +kernel
theorem dL_made_21 : decode cL_made 21 = .ok (.aload_n 0, 1) := by decide +kernel
theorem dL_made_22 : decode cL_made 22 = .ok (.iload_n 1, 1) := by decide +kernel
theorem dL_made_23 : decode cL_made 23 = .ok (.iconst 1, 1) := by decide +kernel
theorem dL_made_24 : decode cL_made 24 = .ok (.invokevirtual 50, 3) := by decide +kernel
theorem dL_made_27 : decode cL_made 27 = .ok (.iload_n 3, 1) := by decide +kernel
theorem dL_made_28 : decode cL_made 28 = .ok (.if_icmp .ne 85, 3) := by decide +kernel
theorem dL_made_31 : decode cL_made 31 = .ok (.aload_n 0, 1) := by decide +kernel
theorem dL_made_32 : decode cL_made 32 = .ok (.iload_n 1, 1) := by decide +kernel
theorem dL_made_33 : decode cL_made 33 = .ok (.iconst 2, 1) := by decide +kernel
theorem dL_made_34 : decode cL_made 34 = .ok (.invokevirtual 50, 3) := by decide +kernel
theorem dL_made_37 : decode cL_made 37 = .ok (.iload 4, 2) := by decide +kernel
theorem dL_made_39 : decode cL_made 39 = .ok (.if_icmp .ne 74, 3) := by decide +kernel
theorem dL_made_42 : decode cL_made 42 = .ok (.aload_n 0, 1) := by decide +kernel
theorem dL_made_43 : decode cL_made 43 = .ok (.iload_n 1, 1) := by decide +kernel
theorem dL_made_44 : decode cL_made 44 = .ok (.iconst 3, 1) := by decide +kernel
theorem dL_made_45 : decode cL_made 45 = .ok (.invokevirtual 50, 3) := by decide +kernel
theorem dL_made_48 : decode cL_made 48 = .ok (.iload 5, 2) := by decide +kernel
theorem dL_made_50 : decode cL_made 50 = .ok (.if_icmp .ne 63, 3) := by decide +kernel
theorem dL_made_53 : decode cL_made 53 = .ok (.aload_n 0, 1) := by decide +kernel
theorem dL_made_54 : decode cL_made 54 = .ok (.iload_n 1, 1) := by decide +kernel
theorem dL_made_55 : decode cL_made 55 = .ok (.iconst 4, 1) := by decide +kernel
theorem dL_made_56 : decode cL_made 56 = .ok (.invokevirtual 50, 3) := by decide +kernel
theorem dL_made_59 : decode cL_made 59 = .ok (.iload 6, 2) := by decide +kernel
theorem dL_made_61 : decode cL_made 61 = .ok (.if_icmp .ne 52, 3) := by decide +kernel
theorem dL_made_64 : decode cL_made 64 = .ok (.aload_n 0, 1) := by decide +kernel
theorem dL_made_65 : decode cL_made 65 = .ok (.iload_n 1, 1) := by decide +kernel
theorem dL_made_66 : decode cL_made 66 = .ok (.iconst 5, 1) := by decide +kernel
theorem dL_made_67 : decode cL_made 67 = .ok (.invokevirtual 50, 3) := by decide +kernel
theorem dL_made_70 : decode cL_made 70 = .ok (.iload 7, 2) := by decide +kernel
theorem dL_made_72 : decode cL_made 72 = .ok (.if_icmp .ne 41, 3) := by decide +kernel
theorem dL_made_75 : decode cL_made 75 = .ok (.aload_n 0, 1) := by decide +kernel
theorem dL_made_76 : decode cL_made 76 = .ok (.iload_n 1, 1) := by decide +kernel
theorem dL_made_77 : decode cL_made 77 = .ok (.bipush 6, 2) := by decide +kernel
theorem dL_made_79 : decode cL_made 79 = .ok (.invokevirtual 50, 3) := by decide +kernel
theorem dL_made_82 : decode cL_made 82 = .ok (.ifCond .ne 31, 3) := by decide +kernel
theorem dL_made_85 : decode cL_made 85 = .ok (.aload_n 0, 1) := by decide +kernel
theorem dL_made_86 : decode cL_made 86 = .ok (.iload_n 1, 1) := by decide +kernel
theorem dL_made_87 : decode cL_made 87 = .ok (.bipush 7, 2) := by decide +kernel
theorem dL_made_89 : decode cL_made 89 = .ok (.invokevirtual 50, 3) := by decide +kernel
theorem dL_made_92 : decode cL_made 92 = .ok (.iconst 1, 1) := by decide +kernel
theorem dL_made_93 : decode cL_made 93 = .ok (.iload 7, 2) := by decide +kernel
theorem dL_made_95 : decode cL_made 95 = .ok (.isub, 1) := by decide +kernel
theorem dL_made_96 : decode cL_made 96 = .ok (.if_icmp .ne 17, 3) := by decide +kernel
theorem dL_made_99 : decode cL_made 99 = .ok (.aload_n 0, 1) := by decide +kernel
theorem dL_made_100 : decode cL_made 100 = .ok (.iload_n 1, 1) := by decide +kernel
theorem dL_made_101 : decode cL_made 101 = .ok (.bipush 9, 2) := by decide +kernel
theorem dL_made_103 : decode cL_made 103 = .ok (.invokevirtual 50, 3) := by decide +kernel
theorem dL_made_106 : decode cL_made 106 = .ok (.ifCond .ne 7, 3) := by decide +kernel
theorem dL_made_109 : decode cL_made 109 = .ok (.iconst 1, 1) := by decide +kernel
theorem dL_made_110 : decode cL_made 110 = .ok (.goto 4, 3) := by decide +kernel
theorem dL_made_113 : decode cL_made 113 = .ok (.iconst 0, 1) := by decide +kernel
theorem dL_made_114 : decode cL_made 114 = .ok (.ireturn, 1) := by decide +kernel
theorem dL_changed_0 : decode cL_changed 0 = .ok (.aload_n 0, 1) := by decide +kernel
theorem dL_changed_1 : decode cL_changed 1 = .ok (.iconst 2, 1) := by decide +kernel
theorem dL_changed_2 : decode cL_changed 2 = .ok (.invokevirtual 46, 3) := by decide +kernel
theorem dL_changed_5 : decode cL_changed 5 = .ok (.istore 5, 2) := by decide +kernel
theorem dL_changed_7 : decode cL_changed 7 = .ok (.aload_n 0, 1) := by decide +kernel
theorem dL_changed_8 : decode cL_changed 8 = .ok (.bipush 7, 2) := by decide +kernel
theorem dL_changed_10 : decode cL_changed 10 = .ok (.invokevirtual 46, 3) := by decide +kernel
theorem dL_changed_13 : decode cL_changed 13 = .ok (.istore 6, 2) := by decide +kernel
theorem dL_changed_15 : decode cL_changed 15 = .ok (.bipush 8, 2) := by decide +kernel
theorem dL_changed_17 : decode cL_changed 17 = .ok (.newarray .int, 2) := by decide +kernel
theorem dL_changed_19 : decode cL_changed 19 = .ok (.astore 7, 2) := by decide +kernel
theorem dL_changed_21 : decode cL_changed 21 = .ok (.bipush 8, 2) := by decide +kernel
theorem dL_changed_23 : decode cL_changed 23 = .ok (.newarray .int, 2) := by decide +kernel
theorem dL_changed_25 : decode cL_changed 25 = .ok (.astore 8, 2) := by decide +kernel
theorem dL_changed_27 : decode cL_changed 27 = .ok (.iconst 0, 1) := by decide +kernel
theorem dL_changed_28 : decode cL_changed 28 = .ok (.istore 9, 2) := by decide +kernel
theorem dL_changed_30 : decode cL_changed 30 = .ok (.iload 9, 2) := by decide +kernel
theorem dL_changed_32 : decode cL_changed 32 = .ok (.iload 5, 2) := by decide +kernel
theorem dL_changed_34 : decode cL_changed 34 = .ok (.if_icmp .ge 99, 3) := by decide +kernel
theorem dL_changed_37 : decode cL_changed 37 = .ok (.aload_n 0, 1) := by decide +kernel
theorem dL_changed_38 : decode cL_changed 38 = .ok (.aload_n 0, 1) := by decide +kernel
theorem dL_changed_39 : decode cL_changed 39 = .ok (.iload 9, 2) := by decide +kernel
theorem dL_changed_41 : decode cL_changed 41 = .ok (.iconst 0, 1) := by decide +kernel
theorem dL_changed_42 : decode cL_changed 42 = .ok (.invokevirtual 56, 3) := by decide +kernel
theorem dL_changed_45 : decode cL_changed 45 = .ok (.aload_n 0, 1) := by decide +kernel
theorem dL_changed_46 : decode cL_changed 46 = .ok (.iload 9, 2) := by decide +kernel
theorem dL_changed_48 : decode cL_changed 48 = .ok (.iconst 1, 1) := by decide +kernel
theorem dL_changed_49 : decode cL_changed 49 = .ok (.invokevirtual 56, 3) := by decide +kernel
theorem dL_changed_52 : decode cL_changed 52 = .ok (.invokevirtual 53, 3) := by decide +kernel
theorem dL_changed_55 : decode cL_changed 55 = .ok (.istore 10, 2) := by decide +kernel
theorem dL_changed_57 : decode cL_changed 57 = .ok (.aload 7, 2) := by decide +kernel
theorem dL_changed_59 : decode cL_changed 59 = .ok (.iload 9, 2) := by decide +kernel
theorem dL_changed_61 : decode cL_changed 61 = .ok (.iload 10, 2) := by decide +kernel
theorem dL_changed_63 : decode cL_changed 63 = .ok (.ifCond .lt 16, 3) := by decide +kernel
theorem dL_changed_66 : decode cL_changed 66 = .ok (.aload_n 0, 1) := by decide +kernel
theorem dL_changed_67 : decode cL_changed 67 = .ok (.iload 10, 2) := by decide +kernel
theorem dL_changed_69 : decode cL_changed 69 = .ok (.invokestatic 84, 3) := by decide +kernel
theorem dL_changed_72 : decode cL_changed 72 = .ok (.ifCond .eq 7, 3) := by decide +kernel
theorem dL_changed_75 : decode cL_changed 75 = .ok (.iconst 1, 1) := by decide +kernel
theorem dL_changed_76 : decode cL_changed 76 = .ok (.goto 4, 3) := by decide +kernel
theorem dL_changed_79 : decode cL_changed 79 = .ok (.iconst 0, 1) := by decide +kernel
theorem dL_changed_80 : decode cL_changed 80 = .ok (.iastore, 1) := by decide +kernel
theorem dL_changed_81 : decode cL_changed 81 = .ok (.aload 8, 2) := by decide +kernel
theorem dL_changed_83 : decode cL_changed 83 = .ok (.iload 9, 2) := by decide +kernel
theorem dL_changed_85 : decode cL_changed 85 = .ok (.sipush 1000, 3) := by decide +kernel
theorem dL_changed_88 : decode cL_changed 88 = .ok (.aload_n 0, 1) := by decide +kernel
theorem dL_changed_89 : decode cL_changed 89 = .ok (.iload 9, 2) := by decide +kernel
theorem dL_changed_91 : decode cL_changed 91 = .ok (.iconst 0, 1) := by decide +kernel
theorem dL_changed_92 : decode cL_changed 92 = .ok (.invokevirtual 56, 3) := by decide +kernel
theorem dL_changed_95 : decode cL_changed 95 = .ok (.imul, 1) := by decide +kernel
theorem dL_changed_96 : decode cL_changed 96 = .ok (.bipush 100, 2) := by decide +kernel
theorem dL_changed_98 : decode cL_changed 98 = .ok (.aload_n 0, 1) := by decide +kernel
theorem dL_changed_99 : decode cL_changed 99 = .ok (.iload 9, 2) := by decide +kernel
theorem dL_changed_101 : decode cL_changed 101 = .ok (.iconst 1, 1) := by decide +kernel
theorem dL_changed_102 : decode cL_changed 102 = .ok (.invokevirtual 56, 3) := by decide +kernel
theorem dL_changed_105 : decode cL_changed 105 = .ok (.imul, 1) := by decide +kernel
theorem dL_changed_106 : decode cL_changed 106 = .ok (.iadd, 1) := by decide +kernel
theorem dL_changed_107 : decode cL_changed 107 = .ok (.bipush 20, 2) := by decide +kernel
theorem dL_changed_109 : decode cL_changed 109 = .ok (.aload_n 0, 1) := by decide +kernel
theorem dL_changed_110 : decode cL_changed 110 = .ok (.iload 9, 2) := by decide +kernel
theorem dL_changed_112 : decode cL_changed 112 = .ok (.iconst 2, 1) := by decide +kernel
theorem dL_changed_113 : decode cL_changed 113 = .ok (.invokevirtual 56, 3) := by decide +kernel
theorem dL_changed_116 : decode cL_changed 116 = .ok (.imul, 1) := by decide +kernel
theorem dL_changed_117 : decode cL_changed 117 = .ok (.iadd, 1) := by decide +kernel
theorem dL_changed_118 : decode cL_changed 118 = .ok (.aload_n 0, 1) := by decide +kernel
theorem dL_changed_119 : decode cL_changed 119 = .ok (.iload 9, 2) := by decide +kernel
theorem dL_changed_121 : decode cL_changed 121 = .ok (.iconst 3, 1) := by decide +kernel
theorem dL_changed_122 : decode cL_changed 122 = .ok (.invokevirtual 56, 3) := by decide +kernel
theorem dL_changed_125 : decode cL_changed 125 = .ok (.iadd, 1) := by decide +kernel
theorem dL_changed_126 : decode cL_changed 126 = .ok (.iastore, 1) := by decide +kernel
theorem dL_changed_127 : decode cL_changed 127 = .ok (.iinc 9 1, 3) := by decide +kernel
theorem dL_changed_130 : decode cL_changed 130 = .ok (.goto (-100), 3) := by decide +kernel
theorem dL_changed_133 : decode cL_changed 133 = .ok (.iload_n 2, 1) := by decide +kernel
theorem dL_changed_134 : decode cL_changed 134 = .ok (.ifCond .lt 11, 3) := by decide +kernel
theorem dL_changed_137 : decode cL_changed 137 = .ok (.aload_n 0, 1) := by decide +kernel
theorem dL_changed_138 : decode cL_changed 138 = .ok (.iload_n 2, 1) := by decide +kernel
theorem dL_changed_139 : decode cL_changed 139 = .ok (.invokevirtual 69, 3) := by decide +kernel
theorem dL_changed_142 : decode cL_changed 142 = .ok (.goto 9, 3) := by decide +kernel
theorem dL_changed_145 : decode cL_changed 145 = .ok (.aload_n 0, 1) := by decide +kernel
theorem dL_changed_146 : decode cL_changed 146 = .ok (.iload_n 1, 1) := by decide +kernel
theorem dL_changed_147 : decode cL_changed 147 = .ok (.iload_n 3, 1) := by decide +kernel
theorem dL_changed_148 : decode cL_changed 148 = .ok (.invokevirtual 108, 3) := by decide +kernel
theorem dL_changed_151 : decode cL_changed 151 = .ok (.istore 9, 2) := by decide +kernel
theorem dL_changed_153 : decode cL_changed 153 = .ok (.iconst 0, 1) := by decide +kernel
theorem dL_changed_154 : decode cL_changed 154 = .ok (.istore 10, 2) := by decide +kernel
theorem dL_changed_156 : decode cL_changed 156 = .ok (.iconst 0, 1) := by decide +kernel
theorem dL_changed_157 : decode cL_changed 157 = .ok (.istore 11, 2) := by decide +kernel
theorem dL_changed_159 : decode cL_changed 159 = .ok (.iload 11, 2) := by decide +kernel
theorem dL_changed_161 : decode cL_changed 161 = .ok (.iload 5, 2) := by decide +kernel
theorem dL_changed_163 : decode cL_changed 163 = .ok (.if_icmp .ge 178, 3) := by decide +kernel
theorem dL_changed_166 : decode cL_changed 166 = .ok (.aload_n 0, 1) := by decide +kernel
theorem dL_changed_167 : decode cL_changed 167 = .ok (.aload 8, 2) := by decide +kernel
theorem dL_changed_169 : decode cL_changed 169 = .ok (.iload 11, 2) := by decide +kernel
theorem dL_changed_171 : decode cL_changed 171 = .ok (.iaload, 1) := by decide +kernel
theorem dL_changed_172 : decode cL_changed 172 = .ok (.sipush 1000, 3) := by decide +kernel
theorem dL_changed_175 : decode cL_changed 175 = .ok (.idiv, 1) := by decide +kernel
theorem dL_changed_176 : decode cL_changed 176 = .ok (.aload 8, 2) := by decide +kernel
theorem dL_changed_178 : decode cL_changed 178 = .ok (.iload 11, 2) := by decide +kernel
theorem dL_changed_180 : decode cL_changed 180 = .ok (.iaload, 1) := by decide +kernel
theorem dL_changed_181 : decode cL_changed 181 = .ok (.bipush 100, 2) := by decide +kernel
theorem dL_changed_183 : decode cL_changed 183 = .ok (.idiv, 1) := by decide +kernel
theorem dL_changed_184 : decode cL_changed 184 = .ok (.bipush 10, 2) := by decide +kernel
theorem dL_changed_186 : decode cL_changed 186 = .ok (.irem, 1) := by decide +kernel
theorem dL_changed_187 : decode cL_changed 187 = .ok (.invokevirtual 53, 3) := by decide +kernel
theorem dL_changed_190 : decode cL_changed 190 = .ok (.istore 12, 2) := by decide +kernel
theorem dL_changed_192 : decode cL_changed 192 = .ok (.iload 4, 2) := by decide +kernel
theorem dL_changed_194 : decode cL_changed 194 = .ok (.ifCond .ne 59, 3) := by decide +kernel
theorem dL_changed_197 : decode cL_changed 197 = .ok (.aload_n 0, 1) := by decide +kernel
theorem dL_changed_198 : decode cL_changed 198 = .ok (.bipush 11, 2) := by decide +kernel
theorem dL_changed_200 : decode cL_changed 200 = .ok (.invokevirtual 46, 3) := by decide +kernel
theorem dL_changed_203 : decode cL_changed 203 = .ok (.ifCond .eq 46, 3) := by decide +kernel
theorem dL_changed_206 : decode cL_changed 206 = .ok (.aload_n 0, 1) := by decide +kernel
theorem dL_changed_207 : decode cL_changed 207 = .ok (.bipush 11, 2) := by decide +kernel
theorem dL_changed_209 : decode cL_changed 209 = .ok (.invokevirtual 46, 3) := by decide +kernel
theorem dL_changed_212 : decode cL_changed 212 = .ok (.iconst 1, 1) := by decide +kernel
theorem dL_changed_213 : decode cL_changed 213 = .ok (.if_icmp .ne 18, 3) := by decide +kernel
theorem dL_changed_216 : decode cL_changed 216 = .ok (.aload 8, 2) := by decide +kernel
theorem dL_changed_218 : decode cL_changed 218 = .ok (.iload 11, 2) := by decide +kernel
theorem dL_changed_220 : decode cL_changed 220 = .ok (.iaload, 1) := by decide +kernel
theorem dL_changed_221 : decode cL_changed 221 = .ok (.bipush 20, 2) := by decide +kernel
theorem dL_changed_223 : decode cL_changed 223 = .ok (.irem, 1) := by decide +kernel
theorem dL_changed_224 : decode cL_changed 224 = .ok (.iload_n 1, 1) := by decide +kernel
theorem dL_changed_225 : decode cL_changed 225 = .ok (.if_icmp .ne 28, 3) := by decide +kernel
theorem dL_changed_228 : decode cL_changed 228 = .ok (.goto 21, 3) := by decide +kernel
theorem dL_changed_231 : decode cL_changed 231 = .ok (.aload 7, 2) := by decide +kernel
theorem dL_changed_233 : decode cL_changed 233 = .ok (.iload 11, 2) := by decide +kernel
theorem dL_changed_235 : decode cL_changed 235 = .ok (.iaload, 1) := by decide +kernel
theorem dL_changed_236 : decode cL_changed 236 = .ok (.iconst 1, 1) := by decide +kernel
theorem dL_changed_237 : decode cL_changed 237 = .ok (.if_icmp .ne 16, 3) := by decide +kernel
theorem dL_changed_240 : decode cL_changed 240 = .ok (.aload_n 0, 1) := by decide +kernel
theorem dL_changed_241 : decode cL_changed 241 = .ok (.iload 12, 2) := by decide +kernel
theorem dL_changed_243 : decode cL_changed 243 = .ok (.invokestatic 84, 3) := by decide +kernel
theorem dL_changed_246 : decode cL_changed 246 = .ok (.ifCond .ne 7, 3) := by decide +kernel
theorem dL_changed_249 : decode cL_changed 249 = .ok (.iconst 1, 1) := by decide +kernel
theorem dL_changed_250 : decode cL_changed 250 = .ok (.goto 4, 3) := by decide +kernel
theorem dL_changed_253 : decode cL_changed 253 = .ok (.iconst 0, 1) := by decide +kernel
theorem dL_changed_254 : decode cL_changed 254 = .ok (.istore 13, 2) := by decide +kernel
theorem dL_changed_256 : decode cL_changed 256 = .ok (.iload 13, 2) := by decide +kernel
theorem dL_changed_258 : decode cL_changed 258 = .ok (.ifCond .eq 9, 3) := by decide +kernel
theorem dL_changed_261 : decode cL_changed 261 = .ok (.iinc 10 1, 3) := by decide +kernel
theorem dL_changed_264 : decode cL_changed 264 = .ok (.goto 71, 3) := by decide +kernel
theorem dL_changed_267 : decode cL_changed 267 = .ok (.iload 11, 2) := by decide +kernel
theorem dL_changed_269 : decode cL_changed 269 = .ok (.iload 10, 2) := by decide +kernel
theorem dL_changed_271 : decode cL_changed 271 = .ok (.isub, 1) := by decide +kernel
theorem dL_changed_272 : decode cL_changed 272 = .ok (.istore 14, 2) := by decide +kernel
theorem dL_changed_274 : decode cL_changed 274 = .ok (.iload 14, 2) := by decide +kernel
theorem dL_changed_276 : decode cL_changed 276 = .ok (.aload_n 0, 1) := by decide +kernel
theorem dL_changed_277 : decode cL_changed 277 = .ok (.iconst 2, 1) := by decide +kernel
theorem dL_changed_278 : decode cL_changed 278 = .ok (.invokevirtual 46, 3) := by decide +kernel
theorem dL_changed_281 : decode cL_changed 281 = .ok (.if_icmp .ge 52, 3) := by decide +kernel
theorem dL_changed_284 : decode cL_changed 284 = .ok (.sipush 1000, 3) := by decide +kernel
theorem dL_changed_287 : decode cL_changed 287 = .ok (.aload_n 0, 1) := by decide +kernel
theorem dL_changed_288 : decode cL_changed 288 = .ok (.iload 14, 2) := by decide +kernel
theorem dL_changed_290 : decode cL_changed 290 = .ok (.iconst 0, 1) := by decide +kernel
theorem dL_changed_291 : decode cL_changed 291 = .ok (.invokevirtual 56, 3) := by decide +kernel
theorem dL_changed_294 : decode cL_changed 294 = .ok (.imul, 1) := by decide +kernel
theorem dL_changed_295 : decode cL_changed 295 = .ok (.bipush 100, 2) := by decide +kernel
theorem dL_changed_297 : decode cL_changed 297 = .ok (.aload_n 0, 1) := by decide +kernel
theorem dL_changed_298 : decode cL_changed 298 = .ok (.iload 14, 2) := by decide +kernel
theorem dL_changed_300 : decode cL_changed 300 = .ok (.iconst 1, 1) := by decide +kernel
theorem dL_changed_301 : decode cL_changed 301 = .ok (.invokevirtual 56, 3) := by decide +kernel
theorem dL_changed_304 : decode cL_changed 304 = .ok (.imul, 1) := by decide +kernel
theorem dL_changed_305 : decode cL_changed 305 = .ok (.iadd, 1) := by decide +kernel
theorem dL_changed_306 : decode cL_changed 306 = .ok (.bipush 20, 2) := by decide +kernel
theorem dL_changed_308 : decode cL_changed 308 = .ok (.aload_n 0, 1) := by decide +kernel
theorem dL_changed_309 : decode cL_changed 309 = .ok (.iload 14, 2) := by decide +kernel
theorem dL_changed_311 : decode cL_changed 311 = .ok (.iconst 2, 1) := by decide +kernel
theorem dL_changed_312 : decode cL_changed 312 = .ok (.invokevirtual 56, 3) := by decide +kernel
theorem dL_changed_315 : decode cL_changed 315 = .ok (.imul, 1) := by decide +kernel
theorem dL_changed_316 : decode cL_changed 316 = .ok (.iadd, 1) := by decide +kernel
theorem dL_changed_317 : decode cL_changed 317 = .ok (.aload_n 0, 1) := by decide +kernel
theorem dL_changed_318 : decode cL_changed 318 = .ok (.iload 14, 2) := by decide +kernel
theorem dL_changed_320 : decode cL_changed 320 = .ok (.iconst 3, 1) := by decide +kernel
theorem dL_changed_321 : decode cL_changed 321 = .ok (.invokevirtual 56, 3) := by decide +kernel
theorem dL_changed_324 : decode cL_changed 324 = .ok (.iadd, 1) := by decide +kernel
theorem dL_changed_325 : decode cL_changed 325 = .ok (.aload 8, 2) := by decide +kernel
theorem dL_changed_327 : decode cL_changed 327 = .ok (.iload 11, 2) := by decide +kernel
theorem dL_changed_329 : decode cL_changed 329 = .ok (.iaload, 1) := by decide +kernel
theorem dL_changed_330 : decode cL_changed 330 = .ok (.if_icmp .eq 5, 3) := by decide +kernel
theorem dL_changed_333 : decode cL_changed 333 = .ok (.iconst 0, 1) := by decide +kernel
theorem dL_changed_334 : decode cL_changed 334 = .ok (.ireturn, 1) := by decide +kernel
theorem dL_changed_335 : decode cL_changed 335 = .ok (.iinc 11 1, 3) := by decide +kernel
theorem dL_changed_338 : decode cL_changed 338 = .ok (.goto (-179), 3) := by decide +kernel
theorem dL_changed_341 : decode cL_changed 341 = .ok (.iload 9, 2) := by decide +kernel
theorem dL_changed_343 : decode cL_changed 343 = .ok (.iload 10, 2) := by decide +kernel
theorem dL_changed_345 : decode cL_changed 345 = .ok (.if_icmp .ne 62, 3) := by decide +kernel
theorem dL_changed_348 : decode cL_changed 348 = .ok (.aload_n 0, 1) := by decide +kernel
theorem dL_changed_349 : decode cL_changed 349 = .ok (.iconst 2, 1) := by decide +kernel
theorem dL_changed_350 : decode cL_changed 350 = .ok (.invokevirtual 46, 3) := by decide +kernel
theorem dL_changed_353 : decode cL_changed 353 = .ok (.iload 5, 2) := by decide +kernel
theorem dL_changed_355 : decode cL_changed 355 = .ok (.iload 10, 2) := by decide +kernel
theorem dL_changed_357 : decode cL_changed 357 = .ok (.isub, 1) := by decide +kernel
theorem dL_changed_358 : decode cL_changed 358 = .ok (.if_icmp .ne 49, 3) := by decide +kernel
theorem dL_changed_361 : decode cL_changed 361 = .ok (.aload_n 0, 1) := by decide +kernel
theorem dL_changed_362 : decode cL_changed 362 = .ok (.bipush 7, 2) := by decide +kernel
theorem dL_changed_364 : decode cL_changed 364 = .ok (.invokevirtual 46, 3) := by decide +kernel
theorem dL_changed_367 : decode cL_changed 367 = .ok (.iload 6, 2) := by decide +kernel
theorem dL_changed_369 : decode cL_changed 369 = .ok (.iload 10, 2) := by decide +kernel
theorem dL_changed_371 : decode cL_changed 371 = .ok (.iadd, 1) := by decide +kernel
theorem dL_changed_372 : decode cL_changed 372 = .ok (.if_icmp .ne 35, 3) := by decide +kernel
theorem dL_changed_375 : decode cL_changed 375 = .ok (.iload_n 2, 1) := by decide +kernel
theorem dL_changed_376 : decode cL_changed 376 = .ok (.ifCond .lt 17, 3) := by decide +kernel
theorem dL_changed_379 : decode cL_changed 379 = .ok (.aload_n 0, 1) := by decide +kernel
theorem dL_changed_380 : decode cL_changed 380 = .ok (.iload_n 2, 1) := by decide +kernel
theorem dL_changed_381 : decode cL_changed 381 = .ok (.bipush 6, 2) := by decide +kernel
theorem dL_changed_383 : decode cL_changed 383 = .ok (.invokevirtual 50, 3) := by decide +kernel
theorem dL_changed_386 : decode cL_changed 386 = .ok (.iconst 1, 1) := by decide +kernel
theorem dL_changed_387 : decode cL_changed 387 = .ok (.if_icmp .ne 20, 3) := by decide +kernel
theorem dL_changed_390 : decode cL_changed 390 = .ok (.goto 13, 3) := by decide +kernel
theorem dL_changed_393 : decode cL_changed 393 = .ok (.aload_n 0, 1) := by decide +kernel
theorem dL_changed_394 : decode cL_changed 394 = .ok (.iload_n 1, 1) := by decide +kernel
theorem dL_changed_395 : decode cL_changed 395 = .ok (.iconst 0, 1) := by decide +kernel
theorem dL_changed_396 : decode cL_changed 396 = .ok (.invokevirtual 43, 3) := by decide +kernel
theorem dL_changed_399 : decode cL_changed 399 = .ok (.iload_n 3, 1) := by decide +kernel
theorem dL_changed_400 : decode cL_changed 400 = .ok (.if_icmp .ne 7, 3) := by decide +kernel
theorem dL_changed_403 : decode cL_changed 403 = .ok (.iconst 1, 1) := by decide +kernel
theorem dL_changed_404 : decode cL_changed 404 = .ok (.goto 4, 3) := by decide +kernel
theorem dL_changed_407 : decode cL_changed 407 = .ok (.iconst 0, 1) := by decide +kernel
theorem dL_changed_408 : decode cL_changed 408 = .ok (.ireturn, 1) := by decide +kernel
theorem dL_come_0 : decode cL_come 0 = .ok (.aload_n 0, 1) := by decide +kernel
theorem dL_come_1 : decode cL_come 1 = .ok (.iconst 3, 1) := by decide +kernel
theorem dL_come_2 : decode cL_come 2 = .ok (.invokevirtual 46, 3) := by decide +kernel
theorem dL_come_5 : decode cL_come 5 = .ok (.istore 4, 2) := by decide +kernel
theorem dL_come_7 : decode cL_come 7 = .ok (.aload_n 0, 1) := by decide +kernel
theorem dL_come_8 : decode cL_come 8 = .ok (.iconst 4, 1) := by decide +kernel
theorem dL_come_9 : decode cL_come 9 = .ok (.invokevirtual 46, 3) := by decide +kernel
theorem dL_come_12 : decode cL_come 12 = .ok (.istore 5, 2) := by decide +kernel
theorem dL_come_14 : decode cL_come 14 = .ok (.aload_n 0, 1) := by decide +kernel
theorem dL_come_15 : decode cL_come 15 = .ok (.iconst 5, 1) := by decide +kernel
theorem dL_come_16 : decode cL_come 16 = .ok (.invokevirtual 46, 3) := by decide +kernel
theorem dL_come_19 : decode cL_come 19 = .ok (.istore 6, 2) := by decide +kernel
theorem dL_come_21 : decode cL_come 21 = .ok (.aload_n 0, 1) := by decide +kernel
theorem dL_come_22 : decode cL_come 22 = .ok (.bipush 6, 2) := by decide +kernel
theorem dL_come_24 : decode cL_come 24 = .ok (.invokevirtual 46, 3) := by decide +kernel
theorem dL_come_27 : decode cL_come 27 = .ok (.istore 7, 2) := by decide +kernel
theorem dL_come_29 : decode cL_come 29 = .ok (.aload_n 0, 1) := by decide +kernel
theorem dL_come_30 : decode cL_come 30 = .ok (.iconst 2, 1) := by decide +kernel
theorem dL_come_31 : decode cL_come 31 = .ok (.invokevirtual 46, 3) := by decide +kernel
theorem dL_come_34 : decode cL_come 34 = .ok (.istore 8, 2) := by decide +kernel
theorem dL_come_36 : decode cL_come 36 = .ok (.iload 4, 2) := by decide +kernel
theorem dL_come_38 : decode cL_come 38 = .ok (.iload_n 1, 1) := by decide +kernel
theorem dL_come_39 : decode cL_come 39 = .ok (.if_icmp .eq 16, 3) := by decide +kernel
theorem dL_come_42 : decode cL_come 42 = .ok (.aload_n 0, 1) := by decide +kernel
theorem dL_come_43 : decode cL_come 43 = .ok (.bipush 10, 2) := by decide +kernel
theorem dL_come_45 : decode cL_come 45 = .ok (.invokevirtual 46, 3) := by decide +kernel
theorem dL_come_48 : decode cL_come 48 = .ok (.ifCond .ne 7, 3) := by decide +kernel
theorem dL_come_51 : decode cL_come 51 = .ok (.iconst 1, 1) := by decide +kernel
theorem dL_come_52 : decode cL_come 52 = .ok (.goto 4, 3) := by decide +kernel
theorem dL_come_55 : decode cL_come 55 = .ok (.iconst 0, 1) := by decide +kernel
theorem dL_come_56 : decode cL_come 56 = .ok (.istore 9, 2) := by decide +kernel
theorem dL_come_58 : decode cL_come 58 = .ok (.iconst (-1), 1) := by decide +kernel
theorem dL_come_59 : decode cL_come 59 = .ok (.istore 10, 2) := by decide +kernel
theorem dL_come_61 : decode cL_come 61 = .ok (.iconst 0, 1) := by decide +kernel
theorem dL_come_62 : decode cL_come 62 = .ok (.istore 11, 2) := by decide +kernel
theorem dL_come_64 : decode cL_come 64 = .ok (.iload 11, 2) := by decide +kernel
theorem dL_come_66 : decode cL_come 66 = .ok (.iload 8, 2) := by decide +kernel
theorem dL_come_68 : decode cL_come 68 = .ok (.if_icmp .ge 51, 3) := by decide +kernel
theorem dL_come_71 : decode cL_come 71 = .ok (.iload 9, 2) := by decide +kernel
theorem dL_come_73 : decode cL_come 73 = .ok (.ifCond .ne 46, 3) := by decide +kernel
theorem dL_come_76 : decode cL_come 76 = .ok (.aload_n 0, 1) := by decide +kernel
theorem dL_come_77 : decode cL_come 77 = .ok (.iload 11, 2) := by decide +kernel
theorem dL_come_79 : decode cL_come 79 = .ok (.iconst 0, 1) := by decide +kernel
theorem dL_come_80 : decode cL_come 80 = .ok (.invokevirtual 56, 3) := by decide +kernel
theorem dL_come_83 : decode cL_come 83 = .ok (.iload_n 1, 1) := by decide +kernel
theorem dL_come_84 : decode cL_come 84 = .ok (.if_icmp .ne 29, 3) := by decide +kernel
theorem dL_come_87 : decode cL_come 87 = .ok (.aload_n 0, 1) := by decide +kernel
theorem dL_come_88 : decode cL_come 88 = .ok (.iload 11, 2) := by decide +kernel
theorem dL_come_90 : decode cL_come 90 = .ok (.iconst 1, 1) := by decide +kernel
theorem dL_come_91 : decode cL_come 91 = .ok (.invokevirtual 56, 3) := by decide +kernel
theorem dL_come_94 : decode cL_come 94 = .ok (.iload_n 2, 1) := by decide +kernel
theorem dL_come_95 : decode cL_come 95 = .ok (.if_icmp .ne 18, 3) := by decide +kernel
theorem dL_come_98 : decode cL_come 98 = .ok (.aload_n 0, 1) := by decide +kernel
theorem dL_come_99 : decode cL_come 99 = .ok (.iload 11, 2) := by decide +kernel
theorem dL_come_101 : decode cL_come 101 = .ok (.iconst 2, 1) := by decide +kernel
theorem dL_come_102 : decode cL_come 102 = .ok (.invokevirtual 56, 3) := by decide +kernel
theorem dL_come_105 : decode cL_come 105 = .ok (.iload_n 3, 1) := by decide +kernel
theorem dL_come_106 : decode cL_come 106 = .ok (.if_icmp .ne 7, 3) := by decide +kernel
theorem dL_come_109 : decode cL_come 109 = .ok (.iload 11, 2) := by decide +kernel
theorem dL_come_111 : decode cL_come 111 = .ok (.istore 10, 2) := by decide +kernel
theorem dL_come_113 : decode cL_come 113 = .ok (.iinc 11 1, 3) := by decide +kernel
theorem dL_come_116 : decode cL_come 116 = .ok (.goto (-52), 3) := by decide +kernel
theorem dL_come_119 : decode cL_come 119 = .ok (.aload_n 0, 1) := by decide +kernel
theorem dL_come_120 : decode cL_come 120 = .ok (.iload_n 1, 1) := by decide +kernel
theorem dL_come_121 : decode cL_come 121 = .ok (.iload_n 2, 1) := by decide +kernel
theorem dL_come_122 : decode cL_come 122 = .ok (.iload_n 3, 1) := by decide +kernel
theorem dL_come_123 : decode cL_come 123 = .ok (.invokestatic 111, 3) := by decide +kernel
theorem dL_come_126 : decode cL_come 126 = .ok (.istore 11, 2) := by decide +kernel
theorem dL_come_128 : decode cL_come 128 = .ok (.aload_n 0, 1) := by decide +kernel
theorem dL_come_129 : decode cL_come 129 = .ok (.iload 10, 2) := by decide +kernel
theorem dL_come_131 : decode cL_come 131 = .ok (.ifCond .lt 7, 3) := by decide +kernel
theorem dL_come_134 : decode cL_come 134 = .ok (.iconst 0, 1) := by decide +kernel
theorem dL_come_135 : decode cL_come 135 = .ok (.goto 8, 3) := by decide +kernel
theorem dL_come_138 : decode cL_come 138 = .ok (.iload 11, 2) := by decide +kernel
theorem dL_come_140 : decode cL_come 140 = .ok (.bipush 10, 2) := by decide +kernel
theorem dL_come_142 : decode cL_come 142 = .ok (.irem, 1) := by decide +kernel
theorem dL_come_143 : decode cL_come 143 = .ok (.invokevirtual 59, 3) := by decide +kernel
theorem dL_come_146 : decode cL_come 146 = .ok (.istore 12, 2) := by decide +kernel
theorem dL_come_148 : decode cL_come 148 = .ok (.aload_n 0, 1) := by decide +kernel
theorem dL_come_149 : decode cL_come 149 = .ok (.bipush 7, 2) := by decide +kernel
theorem dL_come_151 : decode cL_come 151 = .ok (.invokevirtual 46, 3) := by decide +kernel
theorem dL_come_154 : decode cL_come 154 = .ok (.istore 13, 2) := by decide +kernel
theorem dL_come_156 : decode cL_come 156 = .ok (.aload_n 0, 1) := by decide +kernel
theorem dL_come_157 : decode cL_come 157 = .ok (.bipush 8, 2) := by decide +kernel
theorem dL_come_159 : decode cL_come 159 = .ok (.invokevirtual 46, 3) := by decide +kernel
theorem dL_come_162 : decode cL_come 162 = .ok (.istore 14, 2) := by decide +kernel
theorem dL_come_164 : decode cL_come 164 = .ok (.aload_n 0, 1) := by decide +kernel
theorem dL_come_165 : decode cL_come 165 = .ok (.iload_n 1, 1) := by decide +kernel
theorem dL_come_166 : decode cL_come 166 = .ok (.iload_n 2, 1) := by decide +kernel
theorem dL_come_167 : decode cL_come 167 = .ok (.iload_n 3, 1) := by decide +kernel
theorem dL_come_168 : decode cL_come 168 = .ok (.iconst 0, 1) := by decide +kernel
theorem dL_come_169 : decode cL_come 169 = .ok (.invokevirtual 115, 3) := by decide +kernel
theorem dL_come_172 : decode cL_come 172 = .ok (.iload 11, 2) := by decide +kernel
theorem dL_come_174 : decode cL_come 174 = .ok (.bipush 10, 2) := by decide +kernel
theorem dL_come_176 : decode cL_come 176 = .ok (.irem, 1) := by decide +kernel
theorem dL_come_177 : decode cL_come 177 = .ok (.if_icmp .ne 19, 3) := by decide +kernel
theorem dL_come_180 : decode cL_come 180 = .ok (.aload_n 0, 1) := by decide +kernel
theorem dL_come_181 : decode cL_come 181 = .ok (.iload_n 1, 1) := by decide +kernel
theorem dL_come_182 : decode cL_come 182 = .ok (.iload_n 2, 1) := by decide +kernel
theorem dL_come_183 : decode cL_come 183 = .ok (.iload_n 3, 1) := by decide +kernel
theorem dL_come_184 : decode cL_come 184 = .ok (.iconst 1, 1) := by decide +kernel
theorem dL_come_185 : decode cL_come 185 = .ok (.invokevirtual 115, 3) := by decide +kernel
theorem dL_come_188 : decode cL_come 188 = .ok (.iload 11, 2) := by decide +kernel
theorem dL_come_190 : decode cL_come 190 = .ok (.bipush 10, 2) := by decide +kernel
theorem dL_come_192 : decode cL_come 192 = .ok (.idiv, 1) := by decide +kernel
theorem dL_come_193 : decode cL_come 193 = .ok (.if_icmp .eq 5, 3) := by decide +kernel
theorem dL_come_196 : decode cL_come 196 = .ok (.iconst 0, 1) := by decide +kernel
theorem dL_come_197 : decode cL_come 197 = .ok (.ireturn, 1) := by decide +kernel
theorem dL_come_198 : decode cL_come 198 = .ok (.aload_n 0, 1) := by decide +kernel
theorem dL_come_199 : decode cL_come 199 = .ok (.iload_n 1, 1) := by decide +kernel
theorem dL_come_200 : decode cL_come 200 = .ok (.iload_n 2, 1) := by decide +kernel
theorem dL_come_201 : decode cL_come 201 = .ok (.iload_n 3, 1) := by decide +kernel
theorem dL_come_202 : decode cL_come 202 = .ok (.invokevirtual 117, 3) := by decide +kernel
theorem dL_come_205 : decode cL_come 205 = .ok (.istore 15, 2) := by decide +kernel
theorem dL_come_207 : decode cL_come 207 = .ok (.aload_n 0, 1) := by decide +kernel
theorem dL_come_208 : decode cL_come 208 = .ok (.iconst 3, 1) := by decide +kernel
theorem dL_come_209 : decode cL_come 209 = .ok (.invokevirtual 46, 3) := by decide +kernel
theorem dL_come_212 : decode cL_come 212 = .ok (.iload_n 1, 1) := by decide +kernel
theorem dL_come_213 : decode cL_come 213 = .ok (.if_icmp .ne 38, 3) := by decide +kernel
theorem dL_come_216 : decode cL_come 216 = .ok (.aload_n 0, 1) := by decide +kernel
theorem dL_come_217 : decode cL_come 217 = .ok (.iconst 4, 1) := by decide +kernel
theorem dL_come_218 : decode cL_come 218 = .ok (.invokevirtual 46, 3) := by decide +kernel
theorem dL_come_221 : decode cL_come 221 = .ok (.iload 5, 2) := by decide +kernel
theorem dL_come_223 : decode cL_come 223 = .ok (.iconst 1, 1) := by decide +kernel
theorem dL_come_224 : decode cL_come 224 = .ok (.iadd, 1) := by decide +kernel
theorem dL_come_225 : decode cL_come 225 = .ok (.if_icmp .ne 26, 3) := by decide +kernel
theorem dL_come_228 : decode cL_come 228 = .ok (.aload_n 0, 1) := by decide +kernel
theorem dL_come_229 : decode cL_come 229 = .ok (.bipush 7, 2) := by decide +kernel
theorem dL_come_231 : decode cL_come 231 = .ok (.invokevirtual 46, 3) := by decide +kernel
theorem dL_come_234 : decode cL_come 234 = .ok (.iload 13, 2) := by decide +kernel
theorem dL_come_236 : decode cL_come 236 = .ok (.iload 9, 2) := by decide +kernel
theorem dL_come_238 : decode cL_come 238 = .ok (.ifCond .eq 8, 3) := by decide +kernel
theorem dL_come_241 : decode cL_come 241 = .ok (.iload 8, 2) := by decide +kernel
theorem dL_come_243 : decode cL_come 243 = .ok (.goto 4, 3) := by decide +kernel
theorem dL_come_246 : decode cL_come 246 = .ok (.iconst 0, 1) := by decide +kernel
theorem dL_come_247 : decode cL_come 247 = .ok (.iadd, 1) := by decide +kernel
theorem dL_come_248 : decode cL_come 248 = .ok (.if_icmp .eq 5, 3) := by decide +kernel
theorem dL_come_251 : decode cL_come 251 = .ok (.iconst 0, 1) := by decide +kernel
theorem dL_come_252 : decode cL_come 252 = .ok (.ireturn, 1) := by decide +kernel
theorem dL_come_253 : decode cL_come 253 = .ok (.iload 9, 2) := by decide +kernel
theorem dL_come_255 : decode cL_come 255 = .ok (.ifCond .eq 7, 3) := by decide +kernel
theorem dL_come_258 : decode cL_come 258 = .ok (.iconst 0, 1) := by decide +kernel
theorem dL_come_259 : decode cL_come 259 = .ok (.goto 5, 3) := by decide +kernel
theorem dL_come_262 : decode cL_come 262 = .ok (.iload 8, 2) := by decide +kernel
theorem dL_come_264 : decode cL_come 264 = .ok (.istore 16, 2) := by decide +kernel
theorem dL_come_266 : decode cL_come 266 = .ok (.iload 10, 2) := by decide +kernel
theorem dL_come_268 : decode cL_come 268 = .ok (.ifCond .lt 115, 3) := by decide +kernel
theorem dL_come_271 : decode cL_come 271 = .ok (.aload_n 0, 1) := by decide +kernel
theorem dL_come_272 : decode cL_come 272 = .ok (.bipush 12, 2) := by decide +kernel
theorem dL_come_274 : decode cL_come 274 = .ok (.invokevirtual 46, 3) := by decide +kernel
theorem dL_come_277 : decode cL_come 277 = .ok (.iconst 1, 1) := by decide +kernel
theorem dL_come_278 : decode cL_come 278 = .ok (.if_icmp .ne 10, 3) := by decide +kernel
theorem dL_come_281 : decode cL_come 281 = .ok (.iload 16, 2) := by decide +kernel
theorem dL_come_283 : decode cL_come 283 = .ok (.iconst 1, 1) := by decide +kernel
theorem dL_come_284 : decode cL_come 284 = .ok (.isub, 1) := by decide +kernel
theorem dL_come_285 : decode cL_come 285 = .ok (.goto 5, 3) := by decide +kernel
theorem dL_come_288 : decode cL_come 288 = .ok (.iload 10, 2) := by decide +kernel
theorem dL_come_290 : decode cL_come 290 = .ok (.istore 17, 2) := by decide +kernel
theorem dL_come_292 : decode cL_come 292 = .ok (.iload 15, 2) := by decide +kernel
theorem dL_come_294 : decode cL_come 294 = .ok (.ifCond .ne 87, 3) := by decide +kernel
theorem dL_come_297 : decode cL_come 297 = .ok (.aload_n 0, 1) := by decide +kernel
theorem dL_come_298 : decode cL_come 298 = .ok (.iconst 5, 1) := by decide +kernel
theorem dL_come_299 : decode cL_come 299 = .ok (.invokevirtual 46, 3) := by decide +kernel
theorem dL_come_302 : decode cL_come 302 = .ok (.iload 6, 2) := by decide +kernel
theorem dL_come_304 : decode cL_come 304 = .ok (.iconst 1, 1) := by decide +kernel
theorem dL_come_305 : decode cL_come 305 = .ok (.iadd, 1) := by decide +kernel
theorem dL_come_306 : decode cL_come 306 = .ok (.if_icmp .ne 75, 3) := by decide +kernel
theorem dL_come_309 : decode cL_come 309 = .ok (.aload_n 0, 1) := by decide +kernel
theorem dL_come_310 : decode cL_come 310 = .ok (.bipush 6, 2) := by decide +kernel
theorem dL_come_312 : decode cL_come 312 = .ok (.invokevirtual 46, 3) := by decide +kernel
theorem dL_come_315 : decode cL_come 315 = .ok (.iload 7, 2) := by decide +kernel
theorem dL_come_317 : decode cL_come 317 = .ok (.iconst 1, 1) := by decide +kernel
theorem dL_come_318 : decode cL_come 318 = .ok (.iadd, 1) := by decide +kernel
theorem dL_come_319 : decode cL_come 319 = .ok (.if_icmp .ne 62, 3) := by decide +kernel
theorem dL_come_322 : decode cL_come 322 = .ok (.aload_n 0, 1) := by decide +kernel
theorem dL_come_323 : decode cL_come 323 = .ok (.iconst 2, 1) := by decide +kernel
theorem dL_come_324 : decode cL_come 324 = .ok (.invokevirtual 46, 3) := by decide +kernel
theorem dL_come_327 : decode cL_come 327 = .ok (.iload 16, 2) := by decide +kernel
theorem dL_come_329 : decode cL_come 329 = .ok (.if_icmp .ne 52, 3) := by decide +kernel
theorem dL_come_332 : decode cL_come 332 = .ok (.aload_n 0, 1) := by decide +kernel
theorem dL_come_333 : decode cL_come 333 = .ok (.iload 17, 2) := by decide +kernel
theorem dL_come_335 : decode cL_come 335 = .ok (.iconst 0, 1) := by decide +kernel
theorem dL_come_336 : decode cL_come 336 = .ok (.invokevirtual 56, 3) := by decide +kernel
theorem dL_come_339 : decode cL_come 339 = .ok (.iload_n 1, 1) := by decide +kernel
theorem dL_come_340 : decode cL_come 340 = .ok (.if_icmp .ne 41, 3) := by decide +kernel
theorem dL_come_343 : decode cL_come 343 = .ok (.aload_n 0, 1) := by decide +kernel
theorem dL_come_344 : decode cL_come 344 = .ok (.iload 17, 2) := by decide +kernel
theorem dL_come_346 : decode cL_come 346 = .ok (.iconst 1, 1) := by decide +kernel
theorem dL_come_347 : decode cL_come 347 = .ok (.invokevirtual 56, 3) := by decide +kernel
theorem dL_come_350 : decode cL_come 350 = .ok (.iload_n 2, 1) := by decide +kernel
theorem dL_come_351 : decode cL_come 351 = .ok (.if_icmp .ne 30, 3) := by decide +kernel
theorem dL_come_354 : decode cL_come 354 = .ok (.aload_n 0, 1) := by decide +kernel
theorem dL_come_355 : decode cL_come 355 = .ok (.iload 17, 2) := by decide +kernel
theorem dL_come_357 : decode cL_come 357 = .ok (.iconst 2, 1) := by decide +kernel
theorem dL_come_358 : decode cL_come 358 = .ok (.invokevirtual 56, 3) := by decide +kernel
theorem dL_come_361 : decode cL_come 361 = .ok (.iload_n 3, 1) := by decide +kernel
theorem dL_come_362 : decode cL_come 362 = .ok (.if_icmp .ne 19, 3) := by decide +kernel
theorem dL_come_365 : decode cL_come 365 = .ok (.aload_n 0, 1) := by decide +kernel
theorem dL_come_366 : decode cL_come 366 = .ok (.iconst 0, 1) := by decide +kernel
theorem dL_come_367 : decode cL_come 367 = .ok (.invokevirtual 59, 3) := by decide +kernel
theorem dL_come_370 : decode cL_come 370 = .ok (.iload 12, 2) := by decide +kernel
theorem dL_come_372 : decode cL_come 372 = .ok (.iconst 1, 1) := by decide +kernel
theorem dL_come_373 : decode cL_come 373 = .ok (.iadd, 1) := by decide +kernel
theorem dL_come_374 : decode cL_come 374 = .ok (.if_icmp .ne 7, 3) := by decide +kernel
theorem dL_come_377 : decode cL_come 377 = .ok (.iconst 1, 1) := by decide +kernel
theorem dL_come_378 : decode cL_come 378 = .ok (.goto 4, 3) := by decide +kernel
theorem dL_come_381 : decode cL_come 381 = .ok (.iconst 0, 1) := by decide +kernel
theorem dL_come_382 : decode cL_come 382 = .ok (.ireturn, 1) := by decide +kernel
theorem dL_come_383 : decode cL_come 383 = .ok (.iload 15, 2) := by decide +kernel
theorem dL_come_385 : decode cL_come 385 = .ok (.iload 11, 2) := by decide +kernel
theorem dL_come_387 : decode cL_come 387 = .ok (.bipush 10, 2) := by decide +kernel
theorem dL_come_389 : decode cL_come 389 = .ok (.irem, 1) := by decide +kernel
theorem dL_come_390 : decode cL_come 390 = .ok (.if_icmp .ne 43, 3) := by decide +kernel
theorem dL_come_393 : decode cL_come 393 = .ok (.aload_n 0, 1) := by decide +kernel
theorem dL_come_394 : decode cL_come 394 = .ok (.iconst 5, 1) := by decide +kernel
theorem dL_come_395 : decode cL_come 395 = .ok (.invokevirtual 46, 3) := by decide +kernel
theorem dL_come_398 : decode cL_come 398 = .ok (.iload 6, 2) := by decide +kernel
theorem dL_come_400 : decode cL_come 400 = .ok (.if_icmp .ne 33, 3) := by decide +kernel
theorem dL_come_403 : decode cL_come 403 = .ok (.aload_n 0, 1) := by decide +kernel
theorem dL_come_404 : decode cL_come 404 = .ok (.bipush 6, 2) := by decide +kernel
theorem dL_come_406 : decode cL_come 406 = .ok (.invokevirtual 46, 3) := by decide +kernel
theorem dL_come_409 : decode cL_come 409 = .ok (.iload 7, 2) := by decide +kernel
theorem dL_come_411 : decode cL_come 411 = .ok (.iload 11, 2) := by decide +kernel
theorem dL_come_413 : decode cL_come 413 = .ok (.bipush 10, 2) := by decide +kernel
theorem dL_come_415 : decode cL_come 415 = .ok (.idiv, 1) := by decide +kernel
theorem dL_come_416 : decode cL_come 416 = .ok (.iadd, 1) := by decide +kernel
theorem dL_come_417 : decode cL_come 417 = .ok (.if_icmp .ne 16, 3) := by decide +kernel
theorem dL_come_420 : decode cL_come 420 = .ok (.aload_n 0, 1) := by decide +kernel
theorem dL_come_421 : decode cL_come 421 = .ok (.iload 15, 2) := by decide +kernel
theorem dL_come_423 : decode cL_come 423 = .ok (.invokevirtual 59, 3) := by decide +kernel
theorem dL_come_426 : decode cL_come 426 = .ok (.iload 12, 2) := by decide +kernel
theorem dL_come_428 : decode cL_come 428 = .ok (.iconst 1, 1) := by decide +kernel
theorem dL_come_429 : decode cL_come 429 = .ok (.iadd, 1) := by decide +kernel
theorem dL_come_430 : decode cL_come 430 = .ok (.if_icmp .eq 5, 3) := by decide +kernel
theorem dL_come_433 : decode cL_come 433 = .ok (.iconst 0, 1) := by decide +kernel
theorem dL_come_434 : decode cL_come 434 = .ok (.ireturn, 1) := by decide +kernel
theorem dL_come_435 : decode cL_come 435 = .ok (.iload 15, 2) := by decide +kernel
theorem dL_come_437 : decode cL_come 437 = .ok (.ifCond .le 30, 3) := by decide +kernel
theorem dL_come_440 : decode cL_come 440 = .ok (.aload_n 0, 1) := by decide +kernel
theorem dL_come_441 : decode cL_come 441 = .ok (.iconst 2, 1) := by decide +kernel
theorem dL_come_442 : decode cL_come 442 = .ok (.invokevirtual 46, 3) := by decide +kernel
theorem dL_come_445 : decode cL_come 445 = .ok (.iload 16, 2) := by decide +kernel
theorem dL_come_447 : decode cL_come 447 = .ok (.if_icmp .ne 18, 3) := by decide +kernel
theorem dL_come_450 : decode cL_come 450 = .ok (.aload_n 0, 1) := by decide +kernel
theorem dL_come_451 : decode cL_come 451 = .ok (.bipush 8, 2) := by decide +kernel
theorem dL_come_453 : decode cL_come 453 = .ok (.invokevirtual 46, 3) := by decide +kernel
theorem dL_come_456 : decode cL_come 456 = .ok (.iload 14, 2) := by decide +kernel
theorem dL_come_458 : decode cL_come 458 = .ok (.if_icmp .ne 7, 3) := by decide +kernel
theorem dL_come_461 : decode cL_come 461 = .ok (.iconst 1, 1) := by decide +kernel
theorem dL_come_462 : decode cL_come 462 = .ok (.goto 4, 3) := by decide +kernel
theorem dL_come_465 : decode cL_come 465 = .ok (.iconst 0, 1) := by decide +kernel
theorem dL_come_466 : decode cL_come 466 = .ok (.ireturn, 1) := by decide +kernel
theorem dL_come_467 : decode cL_come 467 = .ok (.iload 16, 2) := by decide +kernel
theorem dL_come_469 : decode cL_come 469 = .ok (.iconst 1, 1) := by decide +kernel
theorem dL_come_470 : decode cL_come 470 = .ok (.iadd, 1) := by decide +kernel
theorem dL_come_471 : decode cL_come 471 = .ok (.aload_n 0, 1) := by decide +kernel
theorem dL_come_472 : decode cL_come 472 = .ok (.bipush 9, 2) := by decide +kernel
theorem dL_come_474 : decode cL_come 474 = .ok (.invokevirtual 46, 3) := by decide +kernel
theorem dL_come_477 : decode cL_come 477 = .ok (.if_icmp .le 7, 3) := by decide +kernel
theorem dL_come_480 : decode cL_come 480 = .ok (.iconst 1, 1) := by decide +kernel
theorem dL_come_481 : decode cL_come 481 = .ok (.goto 4, 3) := by decide +kernel
theorem dL_come_484 : decode cL_come 484 = .ok (.iconst 0, 1) := by decide +kernel
theorem dL_come_485 : decode cL_come 485 = .ok (.istore 17, 2) := by decide +kernel
theorem dL_come_487 : decode cL_come 487 = .ok (.iload 16, 2) := by decide +kernel
theorem dL_come_489 : decode cL_come 489 = .ok (.iload 17, 2) := by decide +kernel
theorem dL_come_491 : decode cL_come 491 = .ok (.isub, 1) := by decide +kernel
theorem dL_come_492 : decode cL_come 492 = .ok (.istore 18, 2) := by decide +kernel
theorem dL_come_494 : decode cL_come 494 = .ok (.aload_n 0, 1) := by decide +kernel
theorem dL_come_495 : decode cL_come 495 = .ok (.iconst 2, 1) := by decide +kernel
theorem dL_come_496 : decode cL_come 496 = .ok (.invokevirtual 46, 3) := by decide +kernel
theorem dL_come_499 : decode cL_come 499 = .ok (.iload 18, 2) := by decide +kernel
theorem dL_come_501 : decode cL_come 501 = .ok (.iconst 1, 1) := by decide +kernel
theorem dL_come_502 : decode cL_come 502 = .ok (.iadd, 1) := by decide +kernel
theorem dL_come_503 : decode cL_come 503 = .ok (.if_icmp .ne 75, 3) := by decide +kernel
theorem dL_come_506 : decode cL_come 506 = .ok (.aload_n 0, 1) := by decide +kernel
theorem dL_come_507 : decode cL_come 507 = .ok (.bipush 8, 2) := by decide +kernel
theorem dL_come_509 : decode cL_come 509 = .ok (.invokevirtual 46, 3) := by decide +kernel
theorem dL_come_512 : decode cL_come 512 = .ok (.iload 14, 2) := by decide +kernel
theorem dL_come_514 : decode cL_come 514 = .ok (.iload 17, 2) := by decide +kernel
theorem dL_come_516 : decode cL_come 516 = .ok (.iadd, 1) := by decide +kernel
theorem dL_come_517 : decode cL_come 517 = .ok (.if_icmp .ne 61, 3) := by decide +kernel
theorem dL_come_520 : decode cL_come 520 = .ok (.aload_n 0, 1) := by decide +kernel
theorem dL_come_521 : decode cL_come 521 = .ok (.iload 18, 2) := by decide +kernel
theorem dL_come_523 : decode cL_come 523 = .ok (.iconst 0, 1) := by decide +kernel
theorem dL_come_524 : decode cL_come 524 = .ok (.invokevirtual 56, 3) := by decide +kernel
theorem dL_come_527 : decode cL_come 527 = .ok (.iload_n 1, 1) := by decide +kernel
theorem dL_come_528 : decode cL_come 528 = .ok (.if_icmp .ne 50, 3) := by decide +kernel
theorem dL_come_531 : decode cL_come 531 = .ok (.aload_n 0, 1) := by decide +kernel
theorem dL_come_532 : decode cL_come 532 = .ok (.iload 18, 2) := by decide +kernel
theorem dL_come_534 : decode cL_come 534 = .ok (.iconst 1, 1) := by decide +kernel
theorem dL_come_535 : decode cL_come 535 = .ok (.invokevirtual 56, 3) := by decide +kernel
theorem dL_come_538 : decode cL_come 538 = .ok (.iload_n 2, 1) := by decide +kernel
theorem dL_come_539 : decode cL_come 539 = .ok (.if_icmp .ne 39, 3) := by decide +kernel
theorem dL_come_542 : decode cL_come 542 = .ok (.aload_n 0, 1) := by decide +kernel
theorem dL_come_543 : decode cL_come 543 = .ok (.iload 18, 2) := by decide +kernel
theorem dL_come_545 : decode cL_come 545 = .ok (.iconst 2, 1) := by decide +kernel
theorem dL_come_546 : decode cL_come 546 = .ok (.invokevirtual 56, 3) := by decide +kernel
theorem dL_come_549 : decode cL_come 549 = .ok (.iload_n 3, 1) := by decide +kernel
theorem dL_come_550 : decode cL_come 550 = .ok (.if_icmp .ne 28, 3) := by decide +kernel
theorem dL_come_553 : decode cL_come 553 = .ok (.aload_n 0, 1) := by decide +kernel
theorem dL_come_554 : decode cL_come 554 = .ok (.iload 18, 2) := by decide +kernel
theorem dL_come_556 : decode cL_come 556 = .ok (.iconst 3, 1) := by decide +kernel
theorem dL_come_557 : decode cL_come 557 = .ok (.invokevirtual 56, 3) := by decide +kernel
theorem dL_come_560 : decode cL_come 560 = .ok (.aload_n 0, 1) := by decide +kernel
theorem dL_come_561 : decode cL_come 561 = .ok (.aload_n 0, 1) := by decide +kernel
theorem dL_come_562 : decode cL_come 562 = .ok (.iload_n 1, 1) := by decide +kernel
theorem dL_come_563 : decode cL_come 563 = .ok (.iload_n 2, 1) := by decide +kernel
theorem dL_come_564 : decode cL_come 564 = .ok (.invokevirtual 53, 3) := by decide +kernel
theorem dL_come_567 : decode cL_come 567 = .ok (.iconst 0, 1) := by decide +kernel
theorem dL_come_568 : decode cL_come 568 = .ok (.invokevirtual 50, 3) := by decide +kernel
theorem dL_come_571 : decode cL_come 571 = .ok (.if_icmp .ne 7, 3) := by decide +kernel
theorem dL_come_574 : decode cL_come 574 = .ok (.iconst 1, 1) := by decide +kernel
theorem dL_come_575 : decode cL_come 575 = .ok (.goto 4, 3) := by decide +kernel
theorem dL_come_578 : decode cL_come 578 = .ok (.iconst 0, 1) := by decide +kernel
theorem dL_come_579 : decode cL_come 579 = .ok (.ireturn, 1) := by decide +kernel
theorem dL_type_0 : decode cL_type 0 = .ok (.iload_n 1, 1) := by decide +kernel
theorem dL_type_1 : decode cL_type 1 = .ok (.i2l, 1) := by decide +kernel
theorem dL_type_2 : decode cL_type 2 = .ok (.lstore 9, 2) := by decide +kernel
theorem dL_type_4 : decode cL_type 4 = .ok (.iload_n 2, 1) := by decide +kernel
theorem dL_type_5 : decode cL_type 5 = .ok (.ifCond .le 13, 3) := by decide +kernel
theorem dL_type_8 : decode cL_type 8 = .ok (.lload 9, 2) := by decide +kernel
theorem dL_type_10 : decode cL_type 10 = .ok (.bipush 8, 2) := by decide +kernel
theorem dL_type_12 : decode cL_type 12 = .ok (.lshl, 1) := by decide +kernel
theorem dL_type_13 : decode cL_type 13 = .ok (.iload_n 2, 1) := by decide +kernel
theorem dL_type_14 : decode cL_type 14 = .ok (.i2l, 1) := by decide +kernel
theorem dL_type_15 : decode cL_type 15 = .ok (.lor, 1) := by decide +kernel
theorem dL_type_16 : decode cL_type 16 = .ok (.lstore 9, 2) := by decide +kernel
theorem dL_type_18 : decode cL_type 18 = .ok (.iload_n 3, 1) := by decide +kernel
theorem dL_type_19 : decode cL_type 19 = .ok (.ifCond .le 13, 3) := by decide +kernel
theorem dL_type_22 : decode cL_type 22 = .ok (.lload 9, 2) := by decide +kernel
theorem dL_type_24 : decode cL_type 24 = .ok (.bipush 8, 2) := by decide +kernel
theorem dL_type_26 : decode cL_type 26 = .ok (.lshl, 1) := by decide +kernel
theorem dL_type_27 : decode cL_type 27 = .ok (.iload_n 3, 1) := by decide +kernel
theorem dL_type_28 : decode cL_type 28 = .ok (.i2l, 1) := by decide +kernel
theorem dL_type_29 : decode cL_type 29 = .ok (.lor, 1) := by decide +kernel
theorem dL_type_30 : decode cL_type 30 = .ok (.lstore 9, 2) := by decide +kernel
theorem dL_type_32 : decode cL_type 32 = .ok (.iload 4, 2) := by decide +kernel
theorem dL_type_34 : decode cL_type 34 = .ok (.ifCond .le 14, 3) := by decide +kernel
theorem dL_type_37 : decode cL_type 37 = .ok (.lload 9, 2) := by decide +kernel
theorem dL_type_39 : decode cL_type 39 = .ok (.bipush 8, 2) := by decide +kernel
theorem dL_type_41 : decode cL_type 41 = .ok (.lshl, 1) := by decide +kernel
theorem dL_type_42 : decode cL_type 42 = .ok (.iload 4, 2) := by decide +kernel
theorem dL_type_44 : decode cL_type 44 = .ok (.i2l, 1) := by decide +kernel
theorem dL_type_45 : decode cL_type 45 = .ok (.lor, 1) := by decide +kernel
theorem dL_type_46 : decode cL_type 46 = .ok (.lstore 9, 2) := by decide +kernel
theorem dL_type_48 : decode cL_type 48 = .ok (.iload 5, 2) := by decide +kernel
theorem dL_type_50 : decode cL_type 50 = .ok (.ifCond .le 14, 3) := by decide +kernel
theorem dL_type_53 : decode cL_type 53 = .ok (.lload 9, 2) := by decide +kernel
theorem dL_type_55 : decode cL_type 55 = .ok (.bipush 8, 2) := by decide +kernel
theorem dL_type_57 : decode cL_type 57 = .ok (.lshl, 1) := by decide +kernel
theorem dL_type_58 : decode cL_type 58 = .ok (.iload 5, 2) := by decide +kernel
theorem dL_type_60 : decode cL_type 60 = .ok (.i2l, 1) := by decide +kernel
theorem dL_type_61 : decode cL_type 61 = .ok (.lor, 1) := by decide +kernel
theorem dL_type_62 : decode cL_type 62 = .ok (.lstore 9, 2) := by decide +kernel
theorem dL_type_64 : decode cL_type 64 = .ok (.iload 6, 2) := by decide +kernel
theorem dL_type_66 : decode cL_type 66 = .ok (.ifCond .le 14, 3) := by decide +kernel
theorem dL_type_69 : decode cL_type 69 = .ok (.lload 9, 2) := by decide +kernel
theorem dL_type_71 : decode cL_type 71 = .ok (.bipush 8, 2) := by decide +kernel
theorem dL_type_73 : decode cL_type 73 = .ok (.lshl, 1) := by decide +kernel
theorem dL_type_74 : decode cL_type 74 = .ok (.iload 6, 2) := by decide +kernel
theorem dL_type_76 : decode cL_type 76 = .ok (.i2l, 1) := by decide +kernel
theorem dL_type_77 : decode cL_type 77 = .ok (.lor, 1) := by decide +kernel
theorem dL_type_78 : decode cL_type 78 = .ok (.lstore 9, 2) := by decide +kernel
theorem dL_type_80 : decode cL_type 80 = .ok (.iload 7, 2) := by decide +kernel
theorem dL_type_82 : decode cL_type 82 = .ok (.ifCond .le 14, 3) := by decide +kernel
theorem dL_type_85 : decode cL_type 85 = .ok (.lload 9, 2) := by decide +kernel
theorem dL_type_87 : decode cL_type 87 = .ok (.bipush 8, 2) := by decide +kernel
theorem dL_type_89 : decode cL_type 89 = .ok (.lshl, 1) := by decide +kernel
theorem dL_type_90 : decode cL_type 90 = .ok (.iload 7, 2) := by decide +kernel
theorem dL_type_92 : decode cL_type 92 = .ok (.i2l, 1) := by decide +kernel
theorem dL_type_93 : decode cL_type 93 = .ok (.lor, 1) := by decide +kernel
theorem dL_type_94 : decode cL_type 94 = .ok (.lstore 9, 2) := by decide +kernel
theorem dL_type_96 : decode cL_type 96 = .ok (.iload 8, 2) := by decide +kernel
theorem dL_type_98 : decode cL_type 98 = .ok (.ifCond .le 14, 3) := by decide +kernel
theorem dL_type_101 : decode cL_type 101 = .ok (.lload 9, 2) := by decide +kernel
theorem dL_type_103 : decode cL_type 103 = .ok (.bipush 8, 2) := by decide +kernel
theorem dL_type_105 : decode cL_type 105 = .ok (.lshl, 1) := by decide +kernel
theorem dL_type_106 : decode cL_type 106 = .ok (.iload 8, 2) := by decide +kernel
theorem dL_type_108 : decode cL_type 108 = .ok (.i2l, 1) := by decide +kernel
theorem dL_type_109 : decode cL_type 109 = .ok (.lor, 1) := by decide +kernel
theorem dL_type_110 : decode cL_type 110 = .ok (.lstore 9, 2) := by decide +kernel
theorem dL_type_112 : decode cL_type 112 = .ok (.aload_n 0, 1) := by decide +kernel
theorem dL_type_113 : decode cL_type 113 = .ok (.lload 9, 2) := by decide +kernel
theorem dL_type_115 : decode cL_type 115 = .ok (.invokevirtual 119, 3) := by decide +kernel
theorem dL_type_118 : decode cL_type 118 = .ok (.ifCond .le 7, 3) := by decide +kernel
theorem dL_type_121 : decode cL_type 121 = .ok (.iconst 1, 1) := by decide +kernel
theorem dL_type_122 : decode cL_type 122 = .ok (.goto 4, 3) := by decide +kernel
theorem dL_type_125 : decode cL_type 125 = .ok (.iconst 0, 1) := by decide +kernel
theorem dL_type_126 : decode cL_type 126 = .ok (.ireturn, 1) := by decide +kernel
theorem dL_text_0 : decode cL_text 0 = .ok (.iload_n 1, 1) := by decide +kernel
theorem dL_text_1 : decode cL_text 1 = .ok (.bipush 10, 2) := by decide +kernel
theorem dL_text_3 : decode cL_text 3 = .ok (.invokestatic 22, 3) := by decide +kernel
theorem dL_text_6 : decode cL_text 6 = .ok (.istore_n 3, 1) := by decide +kernel
theorem dL_text_7 : decode cL_text 7 = .ok (.iload_n 1, 1) := by decide +kernel
theorem dL_text_8 : decode cL_text 8 = .ok (.iconst 4, 1) := by decide +kernel
theorem dL_text_9 : decode cL_text 9 = .ok (.ishr, 1) := by decide +kernel
theorem dL_text_10 : decode cL_text 10 = .ok (.bipush 6, 2) := by decide +kernel
theorem dL_text_12 : decode cL_text 12 = .ok (.invokestatic 22, 3) := by decide +kernel
theorem dL_text_15 : decode cL_text 15 = .ok (.istore 4, 2) := by decide +kernel
theorem dL_text_17 : decode cL_text 17 = .ok (.iload_n 1, 1) := by decide +kernel
theorem dL_text_18 : decode cL_text 18 = .ok (.bipush 7, 2) := by decide +kernel
theorem dL_text_20 : decode cL_text 20 = .ok (.ishr, 1) := by decide +kernel
theorem dL_text_21 : decode cL_text 21 = .ok (.bipush 6, 2) := by decide +kernel
theorem dL_text_23 : decode cL_text 23 = .ok (.invokestatic 22, 3) := by decide +kernel
theorem dL_text_26 : decode cL_text 26 = .ok (.istore 5, 2) := by decide +kernel
theorem dL_text_28 : decode cL_text 28 = .ok (.iconst 1, 1) := by decide +kernel
theorem dL_text_29 : decode cL_text 29 = .ok (.iload_n 1, 1) := by decide +kernel
theorem dL_text_30 : decode cL_text 30 = .ok (.bipush 10, 2) := by decide +kernel
theorem dL_text_32 : decode cL_text 32 = .ok (.ishr, 1) := by decide +kernel
theorem dL_text_33 : decode cL_text 33 = .ok (.bipush 7, 2) := by decide +kernel
theorem dL_text_35 : decode cL_text 35 = .ok (.invokestatic 22, 3) := by decide +kernel
theorem dL_text_38 : decode cL_text 38 = .ok (.iadd, 1) := by decide +kernel
theorem dL_text_39 : decode cL_text 39 = .ok (.istore 6, 2) := by decide +kernel
theorem dL_text_41 : decode cL_text 41 = .ok (.iload_n 2, 1) := by decide +kernel
theorem dL_text_42 : decode cL_text 42 = .ok (.bipush 10, 2) := by decide +kernel
theorem dL_text_44 : decode cL_text 44 = .ok (.invokestatic 22, 3) := by decide +kernel
theorem dL_text_47 : decode cL_text 47 = .ok (.istore 7, 2) := by decide +kernel
theorem dL_text_49 : decode cL_text 49 = .ok (.iload_n 2, 1) := by decide +kernel
theorem dL_text_50 : decode cL_text 50 = .ok (.iconst 4, 1) := by decide +kernel
theorem dL_text_51 : decode cL_text 51 = .ok (.ishr, 1) := by decide +kernel
theorem dL_text_52 : decode cL_text 52 = .ok (.bipush 6, 2) := by decide +kernel
theorem dL_text_54 : decode cL_text 54 = .ok (.invokestatic 22, 3) := by decide +kernel
theorem dL_text_57 : decode cL_text 57 = .ok (.istore 8, 2) := by decide +kernel
theorem dL_text_59 : decode cL_text 59 = .ok (.iconst 1, 1) := by decide +kernel
theorem dL_text_60 : decode cL_text 60 = .ok (.iload_n 2, 1) := by decide +kernel
theorem dL_text_61 : decode cL_text 61 = .ok (.bipush 7, 2) := by decide +kernel
theorem dL_text_63 : decode cL_text 63 = .ok (.ishr, 1) := by decide +kernel
theorem dL_text_64 : decode cL_text 64 = .ok (.bipush 7, 2) := by decide +kernel
theorem dL_text_66 : decode cL_text 66 = .ok (.invokestatic 22, 3) := by decide +kernel
theorem dL_text_69 : decode cL_text 69 = .ok (.iadd, 1) := by decide +kernel
theorem dL_text_70 : decode cL_text 70 = .ok (.istore 9, 2) := by decide +kernel
theorem dL_text_72 : decode cL_text 72 = .ok (.iload_n 2, 1) := by decide +kernel
theorem dL_text_73 : decode cL_text 73 = .ok (.bipush 10, 2) := by decide +kernel
theorem dL_text_75 : decode cL_text 75 = .ok (.ishr, 1) := by decide +kernel
theorem dL_text_76 : decode cL_text 76 = .ok (.iconst 3, 1) := by decide +kernel
theorem dL_text_77 : decode cL_text 77 = .ok (.invokestatic 22, 3) := by decide +kernel
theorem dL_text_80 : decode cL_text 80 = .ok (.istore 10, 2) := by decide +kernel
theorem dL_text_82 : decode cL_text 82 = .ok (.iload_n 2, 1) := by decide +kernel
theorem dL_text_83 : decode cL_text 83 = .ok (.bipush 12, 2) := by decide +kernel
theorem dL_text_85 : decode cL_text 85 = .ok (.ishr, 1) := by decide +kernel
theorem dL_text_86 : decode cL_text 86 = .ok (.bipush 10, 2) := by decide +kernel
theorem dL_text_88 : decode cL_text 88 = .ok (.invokestatic 22, 3) := by decide +kernel
theorem dL_text_91 : decode cL_text 91 = .ok (.istore 11, 2) := by decide +kernel
theorem dL_text_93 : decode cL_text 93 = .ok (.iload_n 2, 1) := by decide +kernel
theorem dL_text_94 : decode cL_text 94 = .ok (.bipush 16, 2) := by decide +kernel
theorem dL_text_96 : decode cL_text 96 = .ok (.ishr, 1) := by decide +kernel
theorem dL_text_97 : decode cL_text 97 = .ok (.iconst 2, 1) := by decide +kernel
theorem dL_text_98 : decode cL_text 98 = .ok (.invokestatic 22, 3) := by decide +kernel
theorem dL_text_101 : decode cL_text 101 = .ok (.ifCond .ne 7, 3) := by decide +kernel
theorem dL_text_104 : decode cL_text 104 = .ok (.iconst 1, 1) := by decide +kernel
theorem dL_text_105 : decode cL_text 105 = .ok (.goto 4, 3) := by decide +kernel
theorem dL_text_108 : decode cL_text 108 = .ok (.iconst 0, 1) := by decide +kernel
theorem dL_text_109 : decode cL_text 109 = .ok (.istore 12, 2) := by decide +kernel
theorem dL_text_111 : decode cL_text 111 = .ok (.aload_n 0, 1) := by decide +kernel
theorem dL_text_112 : decode cL_text 112 = .ok (.invokevirtual 123, 3) := by decide +kernel
theorem dL_text_115 : decode cL_text 115 = .ok (.pop, 1) := by decide +kernel
theorem dL_text_116 : decode cL_text 116 = .ok (.aload_n 0, 1) := by decide +kernel
theorem dL_text_117 : decode cL_text 117 = .ok (.bipush 111, 2) := by decide +kernel
theorem dL_text_119 : decode cL_text 119 = .ok (.bipush 48, 2) := by decide +kernel
theorem dL_text_121 : decode cL_text 121 = .ok (.iload_n 3, 1) := by decide +kernel
theorem dL_text_122 : decode cL_text 122 = .ok (.iadd, 1) := by decide +kernel
theorem dL_text_123 : decode cL_text 123 = .ok (.bipush 61, 2) := by decide +kernel
theorem dL_text_125 : decode cL_text 125 = .ok (.bipush 48, 2) := by decide +kernel
theorem dL_text_127 : decode cL_text 127 = .ok (.iload 4, 2) := by decide +kernel
theorem dL_text_129 : decode cL_text 129 = .ok (.iadd, 1) := by decide +kernel
theorem dL_text_130 : decode cL_text 130 = .ok (.bipush 59, 2) := by decide +kernel
theorem dL_text_132 : decode cL_text 132 = .ok (.bipush 115, 2) := by decide +kernel
theorem dL_text_134 : decode cL_text 134 = .ok (.bipush 48, 2) := by decide +kernel
theorem dL_text_136 : decode cL_text 136 = .ok (.iload 4, 2) := by decide +kernel
theorem dL_text_138 : decode cL_text 138 = .ok (.iadd, 1) := by decide +kernel
theorem dL_text_139 : decode cL_text 139 = .ok (.bipush 62, 2) := by decide +kernel
theorem dL_text_141 : decode cL_text 141 = .ok (.invokestatic 126, 3) := by decide +kernel
theorem dL_text_144 : decode cL_text 144 = .ok (.ifCond .eq 145, 3) := by decide +kernel
theorem dL_text_147 : decode cL_text 147 = .ok (.aload_n 0, 1) := by decide +kernel
theorem dL_text_148 : decode cL_text 148 = .ok (.bipush 48, 2) := by decide +kernel
theorem dL_text_150 : decode cL_text 150 = .ok (.iload 5, 2) := by decide +kernel
theorem dL_text_152 : decode cL_text 152 = .ok (.iadd, 1) := by decide +kernel
theorem dL_text_153 : decode cL_text 153 = .ok (.bipush 58, 2) := by decide +kernel
theorem dL_text_155 : decode cL_text 155 = .ok (.bipush 48, 2) := by decide +kernel
theorem dL_text_157 : decode cL_text 157 = .ok (.iload_n 3, 1) := by decide +kernel
theorem dL_text_158 : decode cL_text 158 = .ok (.iadd, 1) := by decide +kernel
theorem dL_text_159 : decode cL_text 159 = .ok (.bipush 42, 2) := by decide +kernel
theorem dL_text_161 : decode cL_text 161 = .ok (.bipush 48, 2) := by decide +kernel
theorem dL_text_163 : decode cL_text 163 = .ok (.iload 6, 2) := by decide +kernel
theorem dL_text_165 : decode cL_text 165 = .ok (.iadd, 1) := by decide +kernel
theorem dL_text_166 : decode cL_text 166 = .ok (.bipush 59, 2) := by decide +kernel
theorem dL_text_168 : decode cL_text 168 = .ok (.bipush 112, 2) := by decide +kernel
theorem dL_text_170 : decode cL_text 170 = .ok (.bipush 48, 2) := by decide +kernel
theorem dL_text_172 : decode cL_text 172 = .ok (.iload 7, 2) := by decide +kernel
theorem dL_text_174 : decode cL_text 174 = .ok (.iadd, 1) := by decide +kernel
theorem dL_text_175 : decode cL_text 175 = .ok (.invokestatic 126, 3) := by decide +kernel
theorem dL_text_178 : decode cL_text 178 = .ok (.ifCond .eq 111, 3) := by decide +kernel
theorem dL_text_181 : decode cL_text 181 = .ok (.aload_n 0, 1) := by decide +kernel
theorem dL_text_182 : decode cL_text 182 = .ok (.bipush 62, 2) := by decide +kernel
theorem dL_text_184 : decode cL_text 184 = .ok (.bipush 48, 2) := by decide +kernel
theorem dL_text_186 : decode cL_text 186 = .ok (.iload 8, 2) := by decide +kernel
theorem dL_text_188 : decode cL_text 188 = .ok (.iadd, 1) := by decide +kernel
theorem dL_text_189 : decode cL_text 189 = .ok (.bipush 42, 2) := by decide +kernel
theorem dL_text_191 : decode cL_text 191 = .ok (.bipush 48, 2) := by decide +kernel
theorem dL_text_193 : decode cL_text 193 = .ok (.iload 9, 2) := by decide +kernel
theorem dL_text_195 : decode cL_text 195 = .ok (.iadd, 1) := by decide +kernel
theorem dL_text_196 : decode cL_text 196 = .ok (.bipush 59, 2) := by decide +kernel
theorem dL_text_198 : decode cL_text 198 = .ok (.bipush 100, 2) := by decide +kernel
theorem dL_text_200 : decode cL_text 200 = .ok (.bipush 48, 2) := by decide +kernel
theorem dL_text_202 : decode cL_text 202 = .ok (.iload 8, 2) := by decide +kernel
theorem dL_text_204 : decode cL_text 204 = .ok (.iadd, 1) := by decide +kernel
theorem dL_text_205 : decode cL_text 205 = .ok (.bipush 46, 2) := by decide +kernel
theorem dL_text_207 : decode cL_text 207 = .ok (.invokestatic 126, 3) := by decide +kernel
theorem dL_text_210 : decode cL_text 210 = .ok (.ifCond .eq 79, 3) := by decide +kernel
theorem dL_text_213 : decode cL_text 213 = .ok (.aload_n 0, 1) := by decide +kernel
theorem dL_text_214 : decode cL_text 214 = .ok (.bipush 48, 2) := by decide +kernel
theorem dL_text_216 : decode cL_text 216 = .ok (.iload 10, 2) := by decide +kernel
theorem dL_text_218 : decode cL_text 218 = .ok (.iadd, 1) := by decide +kernel
theorem dL_text_219 : decode cL_text 219 = .ok (.bipush 61, 2) := by decide +kernel
theorem dL_text_221 : decode cL_text 221 = .ok (.bipush 48, 2) := by decide +kernel
theorem dL_text_223 : decode cL_text 223 = .ok (.iload 11, 2) := by decide +kernel
theorem dL_text_225 : decode cL_text 225 = .ok (.iadd, 1) := by decide +kernel
theorem dL_text_226 : decode cL_text 226 = .ok (.bipush 59, 2) := by decide +kernel
theorem dL_text_228 : decode cL_text 228 = .ok (.bipush 63, 2) := by decide +kernel
theorem dL_text_230 : decode cL_text 230 = .ok (.bipush 48, 2) := by decide +kernel
theorem dL_text_232 : decode cL_text 232 = .ok (.iload 8, 2) := by decide +kernel
theorem dL_text_234 : decode cL_text 234 = .ok (.iadd, 1) := by decide +kernel
theorem dL_text_235 : decode cL_text 235 = .ok (.bipush 46, 2) := by decide +kernel
theorem dL_text_237 : decode cL_text 237 = .ok (.bipush 48, 2) := by decide +kernel
theorem dL_text_239 : decode cL_text 239 = .ok (.iload 10, 2) := by decide +kernel
theorem dL_text_241 : decode cL_text 241 = .ok (.iadd, 1) := by decide +kernel
theorem dL_text_242 : decode cL_text 242 = .ok (.invokestatic 126, 3) := by decide +kernel
theorem dL_text_245 : decode cL_text 245 = .ok (.ifCond .eq 44, 3) := by decide +kernel
theorem dL_text_248 : decode cL_text 248 = .ok (.aload_n 0, 1) := by decide +kernel
theorem dL_text_249 : decode cL_text 249 = .ok (.iload 12, 2) := by decide +kernel
