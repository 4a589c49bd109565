theorem dL_cell_0 : decode cL_cell 0 = .ok (.iload_n 1, 1) := by decide +kernel
theorem dL_cell_1 : decode cL_cell 1 = .ok (.aload_n 0, 1) := by decide +kernel
theorem dL_cell_2 : decode cL_cell 2 = .ok (.arraylength, 1) := by decide +kernel
theorem dL_cell_3 : decode cL_cell 3 = .ok (.if_icmp .ge 9, 3) := by decide +kernel
theorem dL_cell_6 : decode cL_cell 6 = .ok (.aload_n 0, 1) := by decide +kernel
theorem dL_cell_7 : decode cL_cell 7 = .ok (.iload_n 1, 1) := by decide +kernel
theorem dL_cell_8 : decode cL_cell 8 = .ok (.iaload, 1) := by decide +kernel
theorem dL_cell_9 : decode cL_cell 9 = .ok (.goto 11, 3) := by decide +kernel
theorem dL_cell_12 : decode cL_cell 12 = .ok (.ldc 7, 2) := by decide +kernel
theorem dL_cell_14 : decode cL_cell 14 = .ok (.iload_n 1, 1) := by decide +kernel
theorem dL_cell_15 : decode cL_cell 15 = .ok (.sipush 1619, 3) := by decide +kernel
theorem dL_cell_18 : decode cL_cell 18 = .ok (.iadd, 1) := by decide +kernel
theorem dL_cell_19 : decode cL_cell 19 = .ok (.imul, 1) := by decide +kernel
theorem dL_cell_20 : decode cL_cell 20 = .ok (.ireturn, 1) := by decide +kernel
theorem dL_up_0 : decode cL_up 0 = .ok (.iload_n 0, 1) := by decide +kernel
theorem dL_up_1 : decode cL_up 1 = .ok (.ldc 8, 2) := by decide +kernel
theorem dL_up_3 : decode cL_up 3 = .ok (.iand, 1) := by decide +kernel
theorem dL_up_4 : decode cL_up 4 = .ok (.iload_n 1, 1) := by decide +kernel
theorem dL_up_5 : decode cL_up 5 = .ok (.irem, 1) := by decide +kernel
theorem dL_up_6 : decode cL_up 6 = .ok (.ireturn, 1) := by decide +kernel
theorem dL_law_0 : decode cL_law 0 = .ok (.new 9, 3) := by decide +kernel
theorem dL_law_3 : decode cL_law 3 = .ok (.dup, 1) := by decide +kernel
theorem dL_law_4 : decode cL_law 4 = .ok (.invokespecial 11, 3) := by decide +kernel
theorem dL_law_7 : decode cL_law 7 = .ok (.astore_n 1, 1) := by decide +kernel
theorem dL_law_8 : decode cL_law 8 = .ok (.iconst 0, 1) := by decide +kernel
theorem dL_law_9 : decode cL_law 9 = .ok (.istore_n 2, 1) := by decide +kernel
theorem dL_law_10 : decode cL_law 10 = .ok (.aload_n 1, 1) := by decide +kernel
theorem dL_law_11 : decode cL_law 11 = .ok (.aload_n 0, 1) := by decide +kernel
theorem dL_law_12 : decode cL_law 12 = .ok (.iload_n 2, 1) := by decide +kernel
theorem dL_law_13 : decode cL_law 13 = .ok (.iinc 2 1, 3) := by decide +kernel
theorem dL_law_16 : decode cL_law 16 = .ok (.invokestatic 12, 3) := by decide +kernel
theorem dL_law_19 : decode cL_law 19 = .ok (.invokestatic 18, 3) := by decide +kernel
theorem dL_law_22 : decode cL_law 22 = .ok (.ifCond .ne 5, 3) := by decide +kernel
theorem dL_law_25 : decode cL_law 25 = .ok (.iconst 0, 1) := by decide +kernel
theorem dL_law_26 : decode cL_law 26 = .ok (.ireturn, 1) := by decide +kernel
theorem dL_law_27 : decode cL_law 27 = .ok (.aload_n 0, 1) := by decide +kernel
theorem dL_law_28 : decode cL_law 28 = .ok (.iload_n 2, 1) := by decide +kernel
theorem dL_law_29 : decode cL_law 29 = .ok (.iinc 2 1, 3) := by decide +kernel
theorem dL_law_32 : decode cL_law 32 = .ok (.invokestatic 12, 3) := by decide +kernel
theorem dL_law_35 : decode cL_law 35 = .ok (.istore_n 3, 1) := by decide +kernel
theorem dL_law_36 : decode cL_law 36 = .ok (.aload_n 1, 1) := by decide +kernel
theorem dL_law_37 : decode cL_law 37 = .ok (.iconst 0, 1) := by decide +kernel
theorem dL_law_38 : decode cL_law 38 = .ok (.iconst 1, 1) := by decide +kernel
theorem dL_law_39 : decode cL_law 39 = .ok (.iload_n 3, 1) := by decide +kernel
theorem dL_law_40 : decode cL_law 40 = .ok (.bipush 8, 2) := by decide +kernel
theorem dL_law_42 : decode cL_law 42 = .ok (.invokestatic 22, 3) := by decide +kernel
theorem dL_law_45 : decode cL_law 45 = .ok (.iadd, 1) := by decide +kernel
theorem dL_law_46 : decode cL_law 46 = .ok (.invokevirtual 26, 3) := by decide +kernel
theorem dL_law_49 : decode cL_law 49 = .ok (.iconst 4, 1) := by decide +kernel
theorem dL_law_50 : decode cL_law 50 = .ok (.if_icmp .ne 59, 3) := by decide +kernel
theorem dL_law_53 : decode cL_law 53 = .ok (.aload_n 1, 1) := by decide +kernel
theorem dL_law_54 : decode cL_law 54 = .ok (.iconst 1, 1) := by decide +kernel
theorem dL_law_55 : decode cL_law 55 = .ok (.iload_n 3, 1) := by decide +kernel
theorem dL_law_56 : decode cL_law 56 = .ok (.iconst 3, 1) := by decide +kernel
theorem dL_law_57 : decode cL_law 57 = .ok (.ishr, 1) := by decide +kernel
theorem dL_law_58 : decode cL_law 58 = .ok (.iconst 3, 1) := by decide +kernel
theorem dL_law_59 : decode cL_law 59 = .ok (.invokestatic 22, 3) := by decide +kernel
theorem dL_law_62 : decode cL_law 62 = .ok (.ifCond .ne 7, 3) := by decide +kernel
theorem dL_law_65 : decode cL_law 65 = .ok (.iconst 0, 1) := by decide +kernel
theorem dL_law_66 : decode cL_law 66 = .ok (.goto 4, 3) := by decide +kernel
theorem dL_law_69 : decode cL_law 69 = .ok (.iconst 1, 1) := by decide +kernel
theorem dL_law_70 : decode cL_law 70 = .ok (.invokevirtual 26, 3) := by decide +kernel
theorem dL_law_73 : decode cL_law 73 = .ok (.iconst 1, 1) := by decide +kernel
theorem dL_law_74 : decode cL_law 74 = .ok (.if_icmp .ne 35, 3) := by decide +kernel
theorem dL_law_77 : decode cL_law 77 = .ok (.aload_n 1, 1) := by decide +kernel
theorem dL_law_78 : decode cL_law 78 = .ok (.iconst 2, 1) := by decide +kernel
theorem dL_law_79 : decode cL_law 79 = .ok (.iload_n 3, 1) := by decide +kernel
theorem dL_law_80 : decode cL_law 80 = .ok (.iconst 5, 1) := by decide +kernel
theorem dL_law_81 : decode cL_law 81 = .ok (.ishr, 1) := by decide +kernel
theorem dL_law_82 : decode cL_law 82 = .ok (.iconst 3, 1) := by decide +kernel
theorem dL_law_83 : decode cL_law 83 = .ok (.invokestatic 22, 3) := by decide +kernel
theorem dL_law_86 : decode cL_law 86 = .ok (.invokevirtual 26, 3) := by decide +kernel
theorem dL_law_89 : decode cL_law 89 = .ok (.iconst 2, 1) := by decide +kernel
theorem dL_law_90 : decode cL_law 90 = .ok (.if_icmp .ne 19, 3) := by decide +kernel
theorem dL_law_93 : decode cL_law 93 = .ok (.aload_n 1, 1) := by decide +kernel
theorem dL_law_94 : decode cL_law 94 = .ok (.iconst 3, 1) := by decide +kernel
theorem dL_law_95 : decode cL_law 95 = .ok (.iload_n 3, 1) := by decide +kernel
theorem dL_law_96 : decode cL_law 96 = .ok (.bipush 7, 2) := by decide +kernel
theorem dL_law_98 : decode cL_law 98 = .ok (.ishr, 1) := by decide +kernel
theorem dL_law_99 : decode cL_law 99 = .ok (.iconst 2, 1) := by decide +kernel
theorem dL_law_100 : decode cL_law 100 = .ok (.invokestatic 22, 3) := by decide +kernel
theorem dL_law_103 : decode cL_law 103 = .ok (.invokevirtual 26, 3) := by decide +kernel
theorem dL_law_106 : decode cL_law 106 = .ok (.ifCond .eq 5, 3) := by decide +kernel
theorem dL_law_109 : decode cL_law 109 = .ok (.iconst 0, 1) := by decide +kernel
theorem dL_law_110 : decode cL_law 110 = .ok (.ireturn, 1) := by decide +kernel
theorem dL_law_111 : decode cL_law 111 = .ok (.iconst 0, 1) := by decide +kernel
theorem dL_law_112 : decode cL_law 112 = .ok (.istore 4, 2) := by decide +kernel
theorem dL_law_114 : decode cL_law 114 = .ok (.iload 4, 2) := by decide +kernel
theorem dL_law_116 : decode cL_law 116 = .ok (.bipush 50, 2) := by decide +kernel
theorem dL_law_118 : decode cL_law 118 = .ok (.if_icmp .ge 95, 3) := by decide +kernel
theorem dL_law_121 : decode cL_law 121 = .ok (.aload_n 0, 1) := by decide +kernel
theorem dL_law_122 : decode cL_law 122 = .ok (.iload_n 2, 1) := by decide +kernel
theorem dL_law_123 : decode cL_law 123 = .ok (.iinc 2 1, 3) := by decide +kernel
theorem dL_law_126 : decode cL_law 126 = .ok (.invokestatic 12, 3) := by decide +kernel
theorem dL_law_129 : decode cL_law 129 = .ok (.istore_n 3, 1) := by decide +kernel
theorem dL_law_130 : decode cL_law 130 = .ok (.aload_n 1, 1) := by decide +kernel
theorem dL_law_131 : decode cL_law 131 = .ok (.iload 4, 2) := by decide +kernel
theorem dL_law_133 : decode cL_law 133 = .ok (.iconst 2, 1) := by decide +kernel
theorem dL_law_134 : decode cL_law 134 = .ok (.if_icmp .ge 7, 3) := by decide +kernel
theorem dL_law_137 : decode cL_law 137 = .ok (.iconst 0, 1) := by decide +kernel
theorem dL_law_138 : decode cL_law 138 = .ok (.goto 21, 3) := by decide +kernel
theorem dL_law_141 : decode cL_law 141 = .ok (.iload 4, 2) := by decide +kernel
theorem dL_law_143 : decode cL_law 143 = .ok (.bipush 8, 2) := by decide +kernel
theorem dL_law_145 : decode cL_law 145 = .ok (.if_icmp .ge 13, 3) := by decide +kernel
theorem dL_law_148 : decode cL_law 148 = .ok (.iconst 4, 1) := by decide +kernel
theorem dL_law_149 : decode cL_law 149 = .ok (.iload 4, 2) := by decide +kernel
theorem dL_law_151 : decode cL_law 151 = .ok (.bipush 6, 2) := by decide +kernel
theorem dL_law_153 : decode cL_law 153 = .ok (.irem, 1) := by decide +kernel
theorem dL_law_154 : decode cL_law 154 = .ok (.iadd, 1) := by decide +kernel
theorem dL_law_155 : decode cL_law 155 = .ok (.goto 4, 3) := by decide +kernel
theorem dL_law_158 : decode cL_law 158 = .ok (.iload_n 3, 1) := by decide +kernel
theorem dL_law_159 : decode cL_law 159 = .ok (.aload_n 0, 1) := by decide +kernel
theorem dL_law_160 : decode cL_law 160 = .ok (.iload_n 2, 1) := by decide +kernel
theorem dL_law_161 : decode cL_law 161 = .ok (.invokestatic 12, 3) := by decide +kernel
theorem dL_law_164 : decode cL_law 164 = .ok (.aload_n 0, 1) := by decide +kernel
theorem dL_law_165 : decode cL_law 165 = .ok (.iload_n 2, 1) := by decide +kernel
theorem dL_law_166 : decode cL_law 166 = .ok (.iinc 2 1, 3) := by decide +kernel
theorem dL_law_169 : decode cL_law 169 = .ok (.iconst 1, 1) := by decide +kernel
theorem dL_law_170 : decode cL_law 170 = .ok (.iadd, 1) := by decide +kernel
theorem dL_law_171 : decode cL_law 171 = .ok (.invokestatic 12, 3) := by decide +kernel
theorem dL_law_174 : decode cL_law 174 = .ok (.invokestatic 29, 3) := by decide +kernel
theorem dL_law_177 : decode cL_law 177 = .ok (.ifCond .ne 5, 3) := by decide +kernel
theorem dL_law_180 : decode cL_law 180 = .ok (.iconst 0, 1) := by decide +kernel
theorem dL_law_181 : decode cL_law 181 = .ok (.ireturn, 1) := by decide +kernel
theorem dL_law_182 : decode cL_law 182 = .ok (.iload 4, 2) := by decide +kernel
theorem dL_law_184 : decode cL_law 184 = .ok (.iconst 2, 1) := by decide +kernel
theorem dL_law_185 : decode cL_law 185 = .ok (.irem, 1) := by decide +kernel
theorem dL_law_186 : decode cL_law 186 = .ok (.iconst 1, 1) := by decide +kernel
theorem dL_law_187 : decode cL_law 187 = .ok (.if_icmp .ne 20, 3) := by decide +kernel
theorem dL_law_190 : decode cL_law 190 = .ok (.aload_n 1, 1) := by decide +kernel
theorem dL_law_191 : decode cL_law 191 = .ok (.aload_n 0, 1) := by decide +kernel
theorem dL_law_192 : decode cL_law 192 = .ok (.iload_n 2, 1) := by decide +kernel
theorem dL_law_193 : decode cL_law 193 = .ok (.iinc 2 1, 3) := by decide +kernel
theorem dL_law_196 : decode cL_law 196 = .ok (.invokestatic 12, 3) := by decide +kernel
theorem dL_law_199 : decode cL_law 199 = .ok (.invokestatic 33, 3) := by decide +kernel
theorem dL_law_202 : decode cL_law 202 = .ok (.ifCond .ne 5, 3) := by decide +kernel
theorem dL_law_205 : decode cL_law 205 = .ok (.iconst 0, 1) := by decide +kernel
theorem dL_law_206 : decode cL_law 206 = .ok (.ireturn, 1) := by decide +kernel
theorem dL_law_207 : decode cL_law 207 = .ok (.iinc 4 1, 3) := by decide +kernel
theorem dL_law_210 : decode cL_law 210 = .ok (.goto (-96), 3) := by decide +kernel
theorem dL_law_213 : decode cL_law 213 = .ok (.aload_n 1, 1) := by decide +kernel
theorem dL_law_214 : decode cL_law 214 = .ok (.aload_n 0, 1) := by decide +kernel
theorem dL_law_215 : decode cL_law 215 = .ok (.iload_n 2, 1) := by decide +kernel
theorem dL_law_216 : decode cL_law 216 = .ok (.iinc 2 1, 3) := by decide +kernel
theorem dL_law_219 : decode cL_law 219 = .ok (.invokestatic 12, 3) := by decide +kernel
theorem dL_law_222 : decode cL_law 222 = .ok (.invokestatic 36, 3) := by decide +kernel
theorem dL_law_225 : decode cL_law 225 = .ok (.ifCond .eq 15, 3) := by decide +kernel
theorem dL_law_228 : decode cL_law 228 = .ok (.aload_n 1, 1) := by decide +kernel
theorem dL_law_229 : decode cL_law 229 = .ok (.iconst 5, 1) := by decide +kernel
theorem dL_law_230 : decode cL_law 230 = .ok (.invokestatic 33, 3) := by decide +kernel
theorem dL_law_233 : decode cL_law 233 = .ok (.ifCond .eq 7, 3) := by decide +kernel
theorem dL_law_236 : decode cL_law 236 = .ok (.iconst 1, 1) := by decide +kernel
theorem dL_law_237 : decode cL_law 237 = .ok (.goto 4, 3) := by decide +kernel
theorem dL_law_240 : decode cL_law 240 = .ok (.iconst 0, 1) := by decide +kernel
theorem dL_law_241 : decode cL_law 241 = .ok (.ireturn, 1) := by decide +kernel
theorem dL_print_0 : decode cL_print 0 = .ok (.ldc2_w 39, 3) := by decide +kernel
theorem dL_print_3 : decode cL_print 3 = .ok (.lstore_n 1, 1) := by decide +kernel
theorem dL_print_4 : decode cL_print 4 = .ok (.iconst 0, 1) := by decide +kernel
theorem dL_print_5 : decode cL_print 5 = .ok (.istore_n 3, 1) := by decide +kernel
theorem dL_print_6 : decode cL_print 6 = .ok (.iload_n 3, 1) := by decide +kernel
theorem dL_print_7 : decode cL_print 7 = .ok (.bipush 12, 2) := by decide +kernel
theorem dL_print_9 : decode cL_print 9 = .ok (.if_icmp .ge 23, 3) := by decide +kernel
theorem dL_print_12 : decode cL_print 12 = .ok (.ldc2_w 41, 3) := by decide +kernel
theorem dL_print_15 : decode cL_print 15 = .ok (.lload_n 1, 1) := by decide +kernel
theorem dL_print_16 : decode cL_print 16 = .ok (.lmul, 1) := by decide +kernel
theorem dL_print_17 : decode cL_print 17 = .ok (.aload_n 0, 1) := by decide +kernel
theorem dL_print_18 : decode cL_print 18 = .ok (.iload_n 3, 1) := by decide +kernel
theorem dL_print_19 : decode cL_print 19 = .ok (.iconst 0, 1) := by decide +kernel
theorem dL_print_20 : decode cL_print 20 = .ok (.invokevirtual 43, 3) := by decide +kernel
theorem dL_print_23 : decode cL_print 23 = .ok (.i2l, 1) := by decide +kernel
theorem dL_print_24 : decode cL_print 24 = .ok (.ladd, 1) := by decide +kernel
theorem dL_print_25 : decode cL_print 25 = .ok (.lstore_n 1, 1) := by decide +kernel
theorem dL_print_26 : decode cL_print 26 = .ok (.iinc 3 1, 3) := by decide +kernel
theorem dL_print_29 : decode cL_print 29 = .ok (.goto (-23), 3) := by decide +kernel
theorem dL_print_32 : decode cL_print 32 = .ok (.iconst 0, 1) := by decide +kernel
theorem dL_print_33 : decode cL_print 33 = .ok (.istore_n 3, 1) := by decide +kernel
theorem dL_print_34 : decode cL_print 34 = .ok (.iload_n 3, 1) := by decide +kernel
theorem dL_print_35 : decode cL_print 35 = .ok (.aload_n 0, 1) := by decide +kernel
theorem dL_print_36 : decode cL_print 36 = .ok (.iconst 0, 1) := by decide +kernel
theorem dL_print_37 : decode cL_print 37 = .ok (.invokevirtual 46, 3) := by decide +kernel
theorem dL_print_40 : decode cL_print 40 = .ok (.if_icmp .ge 40, 3) := by decide +kernel
theorem dL_print_43 : decode cL_print 43 = .ok (.iconst 0, 1) := by decide +kernel
theorem dL_print_44 : decode cL_print 44 = .ok (.istore 4, 2) := by decide +kernel
theorem dL_print_46 : decode cL_print 46 = .ok (.iload 4, 2) := by decide +kernel
theorem dL_print_48 : decode cL_print 48 = .ok (.bipush 7, 2) := by decide +kernel
theorem dL_print_50 : decode cL_print 50 = .ok (.if_icmp .ge 24, 3) := by decide +kernel
theorem dL_print_53 : decode cL_print 53 = .ok (.ldc2_w 41, 3) := by decide +kernel
theorem dL_print_56 : decode cL_print 56 = .ok (.lload_n 1, 1) := by decide +kernel
theorem dL_print_57 : decode cL_print 57 = .ok (.lmul, 1) := by decide +kernel
theorem dL_print_58 : decode cL_print 58 = .ok (.aload_n 0, 1) := by decide +kernel
theorem dL_print_59 : decode cL_print 59 = .ok (.iload_n 3, 1) := by decide +kernel
theorem dL_print_60 : decode cL_print 60 = .ok (.iload 4, 2) := by decide +kernel
theorem dL_print_62 : decode cL_print 62 = .ok (.invokevirtual 50, 3) := by decide +kernel
theorem dL_print_65 : decode cL_print 65 = .ok (.i2l, 1) := by decide +kernel
theorem dL_print_66 : decode cL_print 66 = .ok (.ladd, 1) := by decide +kernel
theorem dL_print_67 : decode cL_print 67 = .ok (.lstore_n 1, 1) := by decide +kernel
theorem dL_print_68 : decode cL_print 68 = .ok (.iinc 4 1, 3) := by decide +kernel
theorem dL_print_71 : decode cL_print 71 = .ok (.goto (-25), 3) := by decide +kernel
theorem dL_print_74 : decode cL_print 74 = .ok (.iinc 3 1, 3) := by decide +kernel
theorem dL_print_77 : decode cL_print 77 = .ok (.goto (-43), 3) := by decide +kernel
theorem dL_print_80 : decode cL_print 80 = .ok (.iconst 0, 1) := by decide +kernel
theorem dL_print_81 : decode cL_print 81 = .ok (.istore_n 3, 1) := by decide +kernel
theorem dL_print_82 : decode cL_print 82 = .ok (.iload_n 3, 1) := by decide +kernel
theorem dL_print_83 : decode cL_print 83 = .ok (.bipush 6, 2) := by decide +kernel
theorem dL_print_85 : decode cL_print 85 = .ok (.if_icmp .ge 40, 3) := by decide +kernel
theorem dL_print_88 : decode cL_print 88 = .ok (.iconst 0, 1) := by decide +kernel
theorem dL_print_89 : decode cL_print 89 = .ok (.istore 4, 2) := by decide +kernel
theorem dL_print_91 : decode cL_print 91 = .ok (.iload 4, 2) := by decide +kernel
theorem dL_print_93 : decode cL_print 93 = .ok (.bipush 10, 2) := by decide +kernel
theorem dL_print_95 : decode cL_print 95 = .ok (.if_icmp .ge 24, 3) := by decide +kernel
theorem dL_print_98 : decode cL_print 98 = .ok (.ldc2_w 41, 3) := by decide +kernel
theorem dL_print_101 : decode cL_print 101 = .ok (.lload_n 1, 1) := by decide +kernel
theorem dL_print_102 : decode cL_print 102 = .ok (.lmul, 1) := by decide +kernel
theorem dL_print_103 : decode cL_print 103 = .ok (.aload_n 0, 1) := by decide +kernel
theorem dL_print_104 : decode cL_print 104 = .ok (.iload_n 3, 1) := by decide +kernel
theorem dL_print_105 : decode cL_print 105 = .ok (.iload 4, 2) := by decide +kernel
theorem dL_print_107 : decode cL_print 107 = .ok (.invokevirtual 53, 3) := by decide +kernel
theorem dL_print_110 : decode cL_print 110 = .ok (.i2l, 1) := by decide +kernel
theorem dL_print_111 : decode cL_print 111 = .ok (.ladd, 1) := by decide +kernel
theorem dL_print_112 : decode cL_print 112 = .ok (.lstore_n 1, 1) := by decide +kernel
theorem dL_print_113 : decode cL_print 113 = .ok (.iinc 4 1, 3) := by decide +kernel
theorem dL_print_116 : decode cL_print 116 = .ok (.goto (-25), 3) := by decide +kernel
theorem dL_print_119 : decode cL_print 119 = .ok (.iinc 3 1, 3) := by decide +kernel
theorem dL_print_122 : decode cL_print 122 = .ok (.goto (-40), 3) := by decide +kernel
theorem dL_print_125 : decode cL_print 125 = .ok (.iconst 0, 1) := by decide +kernel
theorem dL_print_126 : decode cL_print 126 = .ok (.istore_n 3, 1) := by decide +kernel
theorem dL_print_127 : decode cL_print 127 = .ok (.iload_n 3, 1) := by decide +kernel
theorem dL_print_128 : decode cL_print 128 = .ok (.aload_n 0, 1) := by decide +kernel
theorem dL_print_129 : decode cL_print 129 = .ok (.iconst 2, 1) := by decide +kernel
theorem dL_print_130 : decode cL_print 130 = .ok (.invokevirtual 46, 3) := by decide +kernel
theorem dL_print_133 : decode cL_print 133 = .ok (.if_icmp .ge 39, 3) := by decide +kernel
theorem dL_print_136 : decode cL_print 136 = .ok (.iconst 0, 1) := by decide +kernel
theorem dL_print_137 : decode cL_print 137 = .ok (.istore 4, 2) := by decide +kernel
theorem dL_print_139 : decode cL_print 139 = .ok (.iload 4, 2) := by decide +kernel
theorem dL_print_141 : decode cL_print 141 = .ok (.iconst 4, 1) := by decide +kernel
theorem dL_print_142 : decode cL_print 142 = .ok (.if_icmp .ge 24, 3) := by decide +kernel
theorem dL_print_145 : decode cL_print 145 = .ok (.ldc2_w 41, 3) := by decide +kernel
theorem dL_print_148 : decode cL_print 148 = .ok (.lload_n 1, 1) := by decide +kernel
theorem dL_print_149 : decode cL_print 149 = .ok (.lmul, 1) := by decide +kernel
theorem dL_print_150 : decode cL_print 150 = .ok (.aload_n 0, 1) := by decide +kernel
theorem dL_print_151 : decode cL_print 151 = .ok (.iload_n 3, 1) := by decide +kernel
theorem dL_print_152 : decode cL_print 152 = .ok (.iload 4, 2) := by decide +kernel
theorem dL_print_154 : decode cL_print 154 = .ok (.invokevirtual 56, 3) := by decide +kernel
theorem dL_print_157 : decode cL_print 157 = .ok (.i2l, 1) := by decide +kernel
theorem dL_print_158 : decode cL_print 158 = .ok (.ladd, 1) := by decide +kernel
theorem dL_print_159 : decode cL_print 159 = .ok (.lstore_n 1, 1) := by decide +kernel
theorem dL_print_160 : decode cL_print 160 = .ok (.iinc 4 1, 3) := by decide +kernel
theorem dL_print_163 : decode cL_print 163 = .ok (.goto (-24), 3) := by decide +kernel
theorem dL_print_166 : decode cL_print 166 = .ok (.iinc 3 1, 3) := by decide +kernel
theorem dL_print_169 : decode cL_print 169 = .ok (.goto (-42), 3) := by decide +kernel
theorem dL_print_172 : decode cL_print 172 = .ok (.iconst 0, 1) := by decide +kernel
theorem dL_print_173 : decode cL_print 173 = .ok (.istore_n 3, 1) := by decide +kernel
theorem dL_print_174 : decode cL_print 174 = .ok (.iload_n 3, 1) := by decide +kernel
theorem dL_print_175 : decode cL_print 175 = .ok (.bipush 13, 2) := by decide +kernel
theorem dL_print_177 : decode cL_print 177 = .ok (.if_icmp .ge 22, 3) := by decide +kernel
theorem dL_print_180 : decode cL_print 180 = .ok (.ldc2_w 41, 3) := by decide +kernel
theorem dL_print_183 : decode cL_print 183 = .ok (.lload_n 1, 1) := by decide +kernel
theorem dL_print_184 : decode cL_print 184 = .ok (.lmul, 1) := by decide +kernel
theorem dL_print_185 : decode cL_print 185 = .ok (.aload_n 0, 1) := by decide +kernel
theorem dL_print_186 : decode cL_print 186 = .ok (.iload_n 3, 1) := by decide +kernel
theorem dL_print_187 : decode cL_print 187 = .ok (.invokevirtual 46, 3) := by decide +kernel
theorem dL_print_190 : decode cL_print 190 = .ok (.i2l, 1) := by decide +kernel
theorem dL_print_191 : decode cL_print 191 = .ok (.ladd, 1) := by decide +kernel
theorem dL_print_192 : decode cL_print 192 = .ok (.lstore_n 1, 1) := by decide +kernel
theorem dL_print_193 : decode cL_print 193 = .ok (.iinc 3 1, 3) := by decide +kernel
theorem dL_print_196 : decode cL_print 196 = .ok (.goto (-22), 3) := by decide +kernel
theorem dL_print_199 : decode cL_print 199 = .ok (.iconst 0, 1) := by decide +kernel
theorem dL_print_200 : decode cL_print 200 = .ok (.istore_n 3, 1) := by decide +kernel
theorem dL_print_201 : decode cL_print 201 = .ok (.iload_n 3, 1) := by decide +kernel
theorem dL_print_202 : decode cL_print 202 = .ok (.bipush 7, 2) := by decide +kernel
theorem dL_print_204 : decode cL_print 204 = .ok (.if_icmp .ge 22, 3) := by decide +kernel
theorem dL_print_207 : decode cL_print 207 = .ok (.ldc2_w 41, 3) := by decide +kernel
theorem dL_print_210 : decode cL_print 210 = .ok (.lload_n 1, 1) := by decide +kernel
theorem dL_print_211 : decode cL_print 211 = .ok (.lmul, 1) := by decide +kernel
theorem dL_print_212 : decode cL_print 212 = .ok (.aload_n 0, 1) := by decide +kernel
theorem dL_print_213 : decode cL_print 213 = .ok (.iload_n 3, 1) := by decide +kernel
theorem dL_print_214 : decode cL_print 214 = .ok (.invokevirtual 59, 3) := by decide +kernel
theorem dL_print_217 : decode cL_print 217 = .ok (.i2l, 1) := by decide +kernel
theorem dL_print_218 : decode cL_print 218 = .ok (.ladd, 1) := by decide +kernel
theorem dL_print_219 : decode cL_print 219 = .ok (.lstore_n 1, 1) := by decide +kernel
theorem dL_print_220 : decode cL_print 220 = .ok (.iinc 3 1, 3) := by decide +kernel
theorem dL_print_223 : decode cL_print 223 = .ok (.goto (-22), 3) := by decide +kernel
theorem dL_print_226 : decode cL_print 226 = .ok (.lload_n 1, 1) := by decide +kernel
theorem dL_print_227 : decode cL_print 227 = .ok (.lreturn, 1) := by decide +kernel
theorem dL_based_0 : decode cL_based 0 = .ok (.aload_n 0, 1) := by decide +kernel
theorem dL_based_1 : decode cL_based 1 = .ok (.iload_n 1, 1) := by decide +kernel
theorem dL_based_2 : decode cL_based 2 = .ok (.iconst 4, 1) := by decide +kernel
theorem dL_based_3 : decode cL_based 3 = .ok (.invokevirtual 50, 3) := by decide +kernel
theorem dL_based_6 : decode cL_based 6 = .ok (.istore_n 2, 1) := by decide +kernel
theorem dL_based_7 : decode cL_based 7 = .ok (.iload_n 2, 1) := by decide +kernel
theorem dL_based_8 : decode cL_based 8 = .ok (.ifCond .ge 29, 3) := by decide +kernel
theorem dL_based_11 : decode cL_based 11 = .ok (.aload_n 0, 1) := by decide +kernel
theorem dL_based_12 : decode cL_based 12 = .ok (.iload_n 1, 1) := by decide +kernel
theorem dL_based_13 : decode cL_based 13 = .ok (.iconst 1, 1) := by decide +kernel
theorem dL_based_14 : decode cL_based 14 = .ok (.invokevirtual 50, 3) := by decide +kernel
theorem dL_based_17 : decode cL_based 17 = .ok (.aload_n 0, 1) := by decide +kernel
theorem dL_based_18 : decode cL_based 18 = .ok (.aload_n 0, 1) := by decide +kernel
theorem dL_based_19 : decode cL_based 19 = .ok (.iload_n 1, 1) := by decide +kernel
theorem dL_based_20 : decode cL_based 20 = .ok (.iconst 0, 1) := by decide +kernel
theorem dL_based_21 : decode cL_based 21 = .ok (.invokevirtual 50, 3) := by decide +kernel
theorem dL_based_24 : decode cL_based 24 = .ok (.iconst 0, 1) := by decide +kernel
theorem dL_based_25 : decode cL_based 25 = .ok (.invokevirtual 43, 3) := by decide +kernel
theorem dL_based_28 : decode cL_based 28 = .ok (.if_icmp .ne 7, 3) := by decide +kernel
theorem dL_based_31 : decode cL_based 31 = .ok (.iconst 1, 1) := by decide +kernel
theorem dL_based_32 : decode cL_based 32 = .ok (.goto 4, 3) := by decide +kernel
theorem dL_based_35 : decode cL_based 35 = .ok (.iconst 0, 1) := by decide +kernel
theorem dL_based_36 : decode cL_based 36 = .ok (.ireturn, 1) := by decide +kernel
theorem dL_based_37 : decode cL_based 37 = .ok (.aload_n 0, 1) := by decide +kernel
theorem dL_based_38 : decode cL_based 38 = .ok (.iload_n 1, 1) := by decide +kernel
theorem dL_based_39 : decode cL_based 39 = .ok (.iconst 3, 1) := by decide +kernel
theorem dL_based_40 : decode cL_based 40 = .ok (.invokevirtual 50, 3) := by decide +kernel
theorem dL_based_43 : decode cL_based 43 = .ok (.istore_n 3, 1) := by decide +kernel
theorem dL_based_44 : decode cL_based 44 = .ok (.aload_n 0, 1) := by decide +kernel
theorem dL_based_45 : decode cL_based 45 = .ok (.iload_n 2, 1) := by decide +kernel
theorem dL_based_46 : decode cL_based 46 = .ok (.iconst 0, 1) := by decide +kernel
theorem dL_based_47 : decode cL_based 47 = .ok (.invokevirtual 50, 3) := by decide +kernel
theorem dL_based_50 : decode cL_based 50 = .ok (.aload_n 0, 1) := by decide +kernel
theorem dL_based_51 : decode cL_based 51 = .ok (.iload_n 1, 1) := by decide +kernel
theorem dL_based_52 : decode cL_based 52 = .ok (.iconst 0, 1) := by decide +kernel
theorem dL_based_53 : decode cL_based 53 = .ok (.invokevirtual 50, 3) := by decide +kernel
theorem dL_based_56 : decode cL_based 56 = .ok (.if_icmp .ne 44, 3) := by decide +kernel
theorem dL_based_59 : decode cL_based 59 = .ok (.aload_n 0, 1) := by decide +kernel
theorem dL_based_60 : decode cL_based 60 = .ok (.iload_n 2, 1) := by decide +kernel
theorem dL_based_61 : decode cL_based 61 = .ok (.iconst 2, 1) := by decide +kernel
theorem dL_based_62 : decode cL_based 62 = .ok (.invokevirtual 50, 3) := by decide +kernel
theorem dL_based_65 : decode cL_based 65 = .ok (.aload_n 0, 1) := by decide +kernel
theorem dL_based_66 : decode cL_based 66 = .ok (.iload_n 1, 1) := by decide +kernel
theorem dL_based_67 : decode cL_based 67 = .ok (.iconst 1, 1) := by decide +kernel
theorem dL_based_68 : decode cL_based 68 = .ok (.invokevirtual 50, 3) := by decide +kernel
theorem dL_based_71 : decode cL_based 71 = .ok (.if_icmp .ne 29, 3) := by decide +kernel
theorem dL_based_74 : decode cL_based 74 = .ok (.aload_n 0, 1) := by decide +kernel
theorem dL_based_75 : decode cL_based 75 = .ok (.iload_n 2, 1) := by decide +kernel
theorem dL_based_76 : decode cL_based 76 = .ok (.iconst 3, 1) := by decide +kernel
theorem dL_based_77 : decode cL_based 77 = .ok (.invokevirtual 50, 3) := by decide +kernel
theorem dL_based_80 : decode cL_based 80 = .ok (.iconst 4, 1) := by decide +kernel
theorem dL_based_81 : decode cL_based 81 = .ok (.if_icmp .lt 19, 3) := by decide +kernel
theorem dL_based_84 : decode cL_based 84 = .ok (.aload_n 0, 1) := by decide +kernel
theorem dL_based_85 : decode cL_based 85 = .ok (.iload_n 2, 1) := by decide +kernel
theorem dL_based_86 : decode cL_based 86 = .ok (.iconst 3, 1) := by decide +kernel
theorem dL_based_87 : decode cL_based 87 = .ok (.invokevirtual 50, 3) := by decide +kernel
theorem dL_based_90 : decode cL_based 90 = .ok (.iload_n 3, 1) := by decide +kernel
theorem dL_based_91 : decode cL_based 91 = .ok (.iand, 1) := by decide +kernel
theorem dL_based_92 : decode cL_based 92 = .ok (.iload_n 3, 1) := by decide +kernel
theorem dL_based_93 : decode cL_based 93 = .ok (.if_icmp .ne 7, 3) := by decide +kernel
theorem dL_based_96 : decode cL_based 96 = .ok (.iconst 1, 1) := by decide +kernel
theorem dL_based_97 : decode cL_based 97 = .ok (.goto 4, 3) := by decide +kernel
theorem dL_based_100 : decode cL_based 100 = .ok (.iconst 0, 1) := by decide +kernel
theorem dL_based_101 : decode cL_based 101 = .ok (.ireturn, 1) := by decide +kernel
theorem dL_good_0 : decode cL_good 0 = .ok (.iload_n 1, 1) := by decide +kernel
theorem dL_good_1 : decode cL_good 1 = .ok (.istore_n 2, 1) := by decide +kernel
theorem dL_good_2 : decode cL_good 2 = .ok (.iload_n 2, 1) := by decide +kernel
theorem dL_good_3 : decode cL_good 3 = .ok (.ifCond .lt 44, 3) := by decide +kernel
theorem dL_good_6 : decode cL_good 6 = .ok (.aload_n 0, 1) := by decide +kernel
theorem dL_good_7 : decode cL_good 7 = .ok (.iload_n 2, 1) := by decide +kernel
theorem dL_good_8 : decode cL_good 8 = .ok (.iconst 5, 1) := by decide +kernel
theorem dL_good_9 : decode cL_good 9 = .ok (.invokevirtual 50, 3) := by decide +kernel
theorem dL_good_12 : decode cL_good 12 = .ok (.iconst 1, 1) := by decide +kernel
theorem dL_good_13 : decode cL_good 13 = .ok (.if_icmp .eq 22, 3) := by decide +kernel
theorem dL_good_16 : decode cL_good 16 = .ok (.aload_n 0, 1) := by decide +kernel
theorem dL_good_17 : decode cL_good 17 = .ok (.iload_n 2, 1) := by decide +kernel
theorem dL_good_18 : decode cL_good 18 = .ok (.bipush 6, 2) := by decide +kernel
theorem dL_good_20 : decode cL_good 20 = .ok (.invokevirtual 50, 3) := by decide +kernel
theorem dL_good_23 : decode cL_good 23 = .ok (.iconst 1, 1) := by decide +kernel
theorem dL_good_24 : decode cL_good 24 = .ok (.if_icmp .eq 11, 3) := by decide +kernel
theorem dL_good_27 : decode cL_good 27 = .ok (.aload_n 0, 1) := by decide +kernel
theorem dL_good_28 : decode cL_good 28 = .ok (.iload_n 2, 1) := by decide +kernel
theorem dL_good_29 : decode cL_good 29 = .ok (.invokestatic 62, 3) := by decide +kernel
theorem dL_good_32 : decode cL_good 32 = .ok (.ifCond .ne 5, 3) := by decide +kernel
theorem dL_good_35 : decode cL_good 35 = .ok (.iconst 0, 1) := by decide +kernel
theorem dL_good_36 : decode cL_good 36 = .ok (.ireturn, 1) := by decide +kernel
theorem dL_good_37 : decode cL_good 37 = .ok (.aload_n 0, 1) := by decide +kernel
theorem dL_good_38 : decode cL_good 38 = .ok (.iload_n 2, 1) := by decide +kernel
theorem dL_good_39 : decode cL_good 39 = .ok (.iconst 4, 1) := by decide +kernel
theorem dL_good_40 : decode cL_good 40 = .ok (.invokevirtual 50, 3) := by decide +kernel
theorem dL_good_43 : decode cL_good 43 = .ok (.istore_n 2, 1) := by decide +kernel
theorem dL_good_44 : decode cL_good 44 = .ok (.goto (-42), 3) := by decide +kernel
theorem dL_good_47 : decode cL_good 47 = .ok (.iconst 1, 1) := by decide +kernel
theorem dL_good_48 : decode cL_good 48 = .ok (.ireturn, 1) := by decide +kernel
theorem dL_walk_0 : decode cL_walk 0 = .ok (.aload_n 0, 1) := by decide +kernel
theorem dL_walk_1 : decode cL_walk 1 = .ok (.iload_n 1, 1) := by decide +kernel
theorem dL_walk_2 : decode cL_walk 2 = .ok (.iload_n 2, 1) := by decide +kernel
theorem dL_walk_3 : decode cL_walk 3 = .ok (.invokevirtual 53, 3) := by decide +kernel
theorem dL_walk_6 : decode cL_walk 6 = .ok (.istore 4, 2) := by decide +kernel
theorem dL_walk_8 : decode cL_walk 8 = .ok (.iload 4, 2) := by decide +kernel
theorem dL_walk_10 : decode cL_walk 10 = .ok (.ifCond .ge 5, 3) := by decide +kernel
theorem dL_walk_13 : decode cL_walk 13 = .ok (.iconst 1, 1) := by decide +kernel
theorem dL_walk_14 : decode cL_walk 14 = .ok (.ireturn, 1) := by decide +kernel
theorem dL_walk_15 : decode cL_walk 15 = .ok (.aload_n 0, 1) := by decide +kernel
theorem dL_walk_16 : decode cL_walk 16 = .ok (.iload 4, 2) := by decide +kernel
theorem dL_walk_18 : decode cL_walk 18 = .ok (.iconst 2, 1) := by decide +kernel
theorem dL_walk_19 : decode cL_walk 19 = .ok (.invokevirtual 50, 3) := by decide +kernel
theorem dL_walk_22 : decode cL_walk 22 = .ok (.iload_n 1, 1) := by decide +kernel
theorem dL_walk_23 : decode cL_walk 23 = .ok (.if_icmp .eq 6, 3) := by decide +kernel
theorem dL_walk_26 : decode cL_walk 26 = .ok (.bipush 12, 2) := by decide +kernel
theorem dL_walk_28 : decode cL_walk 28 = .ok (.ireturn, 1) := by decide +kernel
theorem dL_walk_29 : decode cL_walk 29 = .ok (.iconst 0, 1) := by decide +kernel
theorem dL_walk_30 : decode cL_walk 30 = .ok (.istore 5, 2) := by decide +kernel
theorem dL_walk_32 : decode cL_walk 32 = .ok (.iload 4, 2) := by decide +kernel
theorem dL_walk_34 : decode cL_walk 34 = .ok (.istore 6, 2) := by decide +kernel
theorem dL_walk_36 : decode cL_walk 36 = .ok (.iload 6, 2) := by decide +kernel
theorem dL_walk_38 : decode cL_walk 38 = .ok (.ifCond .lt 90, 3) := by decide +kernel
theorem dL_walk_41 : decode cL_walk 41 = .ok (.iinc 5 10, 3) := by decide +kernel
theorem dL_walk_44 : decode cL_walk 44 = .ok (.aload_n 0, 1) := by decide +kernel
theorem dL_walk_45 : decode cL_walk 45 = .ok (.iload 6, 2) := by decide +kernel
theorem dL_walk_47 : decode cL_walk 47 = .ok (.iconst 5, 1) := by decide +kernel
theorem dL_walk_48 : decode cL_walk 48 = .ok (.invokevirtual 50, 3) := by decide +kernel
theorem dL_walk_51 : decode cL_walk 51 = .ok (.iconst 1, 1) := by decide +kernel
theorem dL_walk_52 : decode cL_walk 52 = .ok (.if_icmp .ne 8, 3) := by decide +kernel
theorem dL_walk_55 : decode cL_walk 55 = .ok (.iload 5, 2) := by decide +kernel
theorem dL_walk_57 : decode cL_walk 57 = .ok (.iconst 3, 1) := by decide +kernel
theorem dL_walk_58 : decode cL_walk 58 = .ok (.iadd, 1) := by decide +kernel
theorem dL_walk_59 : decode cL_walk 59 = .ok (.ireturn, 1) := by decide +kernel
theorem dL_walk_60 : decode cL_walk 60 = .ok (.aload_n 0, 1) := by decide +kernel
theorem dL_walk_61 : decode cL_walk 61 = .ok (.iload 6, 2) := by decide +kernel
theorem dL_walk_63 : decode cL_walk 63 = .ok (.bipush 6, 2) := by decide +kernel
theorem dL_walk_65 : decode cL_walk 65 = .ok (.invokevirtual 50, 3) := by decide +kernel
theorem dL_walk_68 : decode cL_walk 68 = .ok (.iconst 1, 1) := by decide +kernel
theorem dL_walk_69 : decode cL_walk 69 = .ok (.if_icmp .ne 8, 3) := by decide +kernel
theorem dL_walk_72 : decode cL_walk 72 = .ok (.iload 5, 2) := by decide +kernel
theorem dL_walk_74 : decode cL_walk 74 = .ok (.iconst 4, 1) := by decide +kernel
theorem dL_walk_75 : decode cL_walk 75 = .ok (.iadd, 1) := by decide +kernel
theorem dL_walk_76 : decode cL_walk 76 = .ok (.ireturn, 1) := by decide +kernel
theorem dL_walk_77 : decode cL_walk 77 = .ok (.iload 6, 2) := by decide +kernel
theorem dL_walk_79 : decode cL_walk 79 = .ok (.iload 4, 2) := by decide +kernel
theorem dL_walk_81 : decode cL_walk 81 = .ok (.if_icmp .ne 20, 3) := by decide +kernel
theorem dL_walk_84 : decode cL_walk 84 = .ok (.aload_n 0, 1) := by decide +kernel
theorem dL_walk_85 : decode cL_walk 85 = .ok (.iload 6, 2) := by decide +kernel
theorem dL_walk_87 : decode cL_walk 87 = .ok (.iconst 3, 1) := by decide +kernel
theorem dL_walk_88 : decode cL_walk 88 = .ok (.invokevirtual 50, 3) := by decide +kernel
theorem dL_walk_91 : decode cL_walk 91 = .ok (.iload_n 3, 1) := by decide +kernel
theorem dL_walk_92 : decode cL_walk 92 = .ok (.iand, 1) := by decide +kernel
theorem dL_walk_93 : decode cL_walk 93 = .ok (.ifCond .ne 8, 3) := by decide +kernel
theorem dL_walk_96 : decode cL_walk 96 = .ok (.iload 5, 2) := by decide +kernel
theorem dL_walk_98 : decode cL_walk 98 = .ok (.iconst 5, 1) := by decide +kernel
theorem dL_walk_99 : decode cL_walk 99 = .ok (.iadd, 1) := by decide +kernel
theorem dL_walk_100 : decode cL_walk 100 = .ok (.ireturn, 1) := by decide +kernel
theorem dL_walk_101 : decode cL_walk 101 = .ok (.aload_n 0, 1) := by decide +kernel
theorem dL_walk_102 : decode cL_walk 102 = .ok (.iload 6, 2) := by decide +kernel
theorem dL_walk_104 : decode cL_walk 104 = .ok (.invokestatic 62, 3) := by decide +kernel
theorem dL_walk_107 : decode cL_walk 107 = .ok (.ifCond .ne 9, 3) := by decide +kernel
theorem dL_walk_110 : decode cL_walk 110 = .ok (.iload 5, 2) := by decide +kernel
theorem dL_walk_112 : decode cL_walk 112 = .ok (.bipush 6, 2) := by decide +kernel
theorem dL_walk_114 : decode cL_walk 114 = .ok (.iadd, 1) := by decide +kernel
theorem dL_walk_115 : decode cL_walk 115 = .ok (.ireturn, 1) := by decide +kernel
theorem dL_walk_116 : decode cL_walk 116 = .ok (.aload_n 0, 1) := by decide +kernel
theorem dL_walk_117 : decode cL_walk 117 = .ok (.iload 6, 2) := by decide +kernel
theorem dL_walk_119 : decode cL_walk 119 = .ok (.iconst 4, 1) := by decide +kernel
theorem dL_walk_120 : decode cL_walk 120 = .ok (.invokevirtual 50, 3) := by decide +kernel
theorem dL_walk_123 : decode cL_walk 123 = .ok (.istore 6, 2) := by decide +kernel
theorem dL_walk_125 : decode cL_walk 125 = .ok (.goto (-89), 3) := by decide +kernel
theorem dL_walk_128 : decode cL_walk 128 = .ok (.iload 5, 2) := by decide +kernel
theorem dL_walk_130 : decode cL_walk 130 = .ok (.ireturn, 1) := by decide +kernel
theorem dL_act_0 : decode cL_act 0 = .ok (.iload_n 2, 1) := by decide +kernel
theorem dL_act_1 : decode cL_act 1 = .ok (.bipush 6, 2) := by decide +kernel
theorem dL_act_3 : decode cL_act 3 = .ok (.invokestatic 22, 3) := by decide +kernel
theorem dL_act_6 : decode cL_act 6 = .ok (.istore 4, 2) := by decide +kernel
theorem dL_act_8 : decode cL_act 8 = .ok (.iload_n 2, 1) := by decide +kernel
theorem dL_act_9 : decode cL_act 9 = .ok (.iconst 3, 1) := by decide +kernel
theorem dL_act_10 : decode cL_act 10 = .ok (.ishr, 1) := by decide +kernel
theorem dL_act_11 : decode cL_act 11 = .ok (.iload_n 2, 1) := by decide +kernel
theorem dL_act_12 : decode cL_act 12 = .ok (.bipush 20, 2) := by decide +kernel
theorem dL_act_14 : decode cL_act 14 = .ok (.ishr, 1) := by decide +kernel
theorem dL_act_15 : decode cL_act 15 = .ok (.iconst 2, 1) := by decide +kernel
theorem dL_act_16 : decode cL_act 16 = .ok (.invokestatic 22, 3) := by decide +kernel
theorem dL_act_19 : decode cL_act 19 = .ok (.ifCond .ne 7, 3) := by decide +kernel
theorem dL_act_22 : decode cL_act 22 = .ok (.iconst 2, 1) := by decide +kernel
theorem dL_act_23 : decode cL_act 23 = .ok (.goto 5, 3) := by decide +kernel
theorem dL_act_26 : decode cL_act 26 = .ok (.bipush 12, 2) := by decide +kernel
theorem dL_act_28 : decode cL_act 28 = .ok (.invokestatic 22, 3) := by decide +kernel
theorem dL_act_31 : decode cL_act 31 = .ok (.istore 5, 2) := by decide +kernel
theorem dL_act_33 : decode cL_act 33 = .ok (.aload_n 0, 1) := by decide +kernel
theorem dL_act_34 : decode cL_act 34 = .ok (.iconst 0, 1) := by decide +kernel
theorem dL_act_35 : decode cL_act 35 = .ok (.invokevirtual 46, 3) := by decide +kernel
theorem dL_act_38 : decode cL_act 38 = .ok (.istore 6, 2) := by decide +kernel
theorem dL_act_40 : decode cL_act 40 = .ok (.iload_n 3, 1) := by decide +kernel
theorem dL_act_41 : decode cL_act 41 = .ok (.iconst 2, 1) := by decide +kernel
theorem dL_act_42 : decode cL_act 42 = .ok (.invokestatic 22, 3) := by decide +kernel
theorem dL_act_45 : decode cL_act 45 = .ok (.ifCond .ne 8, 3) := by decide +kernel
theorem dL_act_48 : decode cL_act 48 = .ok (.bipush 7, 2) := by decide +kernel
theorem dL_act_50 : decode cL_act 50 = .ok (.goto 13, 3) := by decide +kernel
theorem dL_act_53 : decode cL_act 53 = .ok (.iconst 1, 1) := by decide +kernel
theorem dL_act_54 : decode cL_act 54 = .ok (.iload_n 3, 1) := by decide +kernel
theorem dL_act_55 : decode cL_act 55 = .ok (.iconst 1, 1) := by decide +kernel
theorem dL_act_56 : decode cL_act 56 = .ok (.ishr, 1) := by decide +kernel
theorem dL_act_57 : decode cL_act 57 = .ok (.bipush 7, 2) := by decide +kernel
theorem dL_act_59 : decode cL_act 59 = .ok (.invokestatic 22, 3) := by decide +kernel
theorem dL_act_62 : decode cL_act 62 = .ok (.iadd, 1) := by decide +kernel
theorem dL_act_63 : decode cL_act 63 = .ok (.istore 7, 2) := by decide +kernel
theorem dL_act_65 : decode cL_act 65 = .ok (.iload_n 1, 1) := by decide +kernel
theorem dL_act_66 : decode cL_act 66 = .ok (.bipush 16, 2) := by decide +kernel
theorem dL_act_68 : decode cL_act 68 = .ok (.invokestatic 22, 3) := by decide +kernel
theorem dL_act_71 : decode cL_act 71 = .ok (.tableswitch 894 0 14 #[73, 73, 128, 128, 201, 201, 374, 374, 374, 553, 672, 672, 872, 872, 872], 73) := by decide +kernel
theorem dL_act_144 : decode cL_act 144 = .ok (.iload_n 3, 1) := by decide +kernel
theorem dL_act_145 : decode cL_act 145 = .ok (.bipush 8, 2) := by decide +kernel
theorem dL_act_147 : decode cL_act 147 = .ok (.invokestatic 22, 3) := by decide +kernel
theorem dL_act_150 : decode cL_act 150 = .ok (.bipush 6, 2) := by decide +kernel
theorem dL_act_152 : decode cL_act 152 = .ok (.if_icmp .ge 12, 3) := by decide +kernel
theorem dL_act_155 : decode cL_act 155 = .ok (.iload_n 3, 1) := by decide +kernel
theorem dL_act_156 : decode cL_act 156 = .ok (.bipush 8, 2) := by decide +kernel
theorem dL_act_158 : decode cL_act 158 = .ok (.invokestatic 22, 3) := by decide +kernel
theorem dL_act_161 : decode cL_act 161 = .ok (.goto 5, 3) := by decide +kernel
theorem dL_act_164 : decode cL_act 164 = .ok (.bipush (-6), 2) := by decide +kernel
theorem dL_act_166 : decode cL_act 166 = .ok (.istore 8, 2) := by decide +kernel
theorem dL_act_168 : decode cL_act 168 = .ok (.aload_n 0, 1) := by decide +kernel
theorem dL_act_169 : decode cL_act 169 = .ok (.iload 5, 2) := by decide +kernel
theorem dL_act_171 : decode cL_act 171 = .ok (.iconst 0, 1) := by decide +kernel
theorem dL_act_172 : decode cL_act 172 = .ok (.invokevirtual 43, 3) := by decide +kernel
theorem dL_act_175 : decode cL_act 175 = .ok (.istore 9, 2) := by decide +kernel
theorem dL_act_177 : decode cL_act 177 = .ok (.aload_n 0, 1) := by decide +kernel
theorem dL_act_178 : decode cL_act 178 = .ok (.iload 5, 2) := by decide +kernel
theorem dL_act_180 : decode cL_act 180 = .ok (.iconst (-1), 1) := by decide +kernel
theorem dL_act_181 : decode cL_act 181 = .ok (.iload 8, 2) := by decide +kernel
theorem dL_act_183 : decode cL_act 183 = .ok (.iload 9, 2) := by decide +kernel
theorem dL_act_185 : decode cL_act 185 = .ok (.iload 8, 2) := by decide +kernel
theorem dL_act_187 : decode cL_act 187 = .ok (.if_icmp .ne 7, 3) := by decide +kernel
theorem dL_act_190 : decode cL_act 190 = .ok (.iconst 1, 1) := by decide +kernel
theorem dL_act_191 : decode cL_act 191 = .ok (.goto 4, 3) := by decide +kernel
theorem dL_act_194 : decode cL_act 194 = .ok (.iconst 0, 1) := by decide +kernel
theorem dL_act_195 : decode cL_act 195 = .ok (.invokestatic 65, 3) := by decide +kernel
theorem dL_act_198 : decode cL_act 198 = .ok (.ireturn, 1) := by decide +kernel
theorem dL_act_199 : decode cL_act 199 = .ok (.iload 6, 2) := by decide +kernel
theorem dL_act_201 : decode cL_act 201 = .ok (.ifCond .ne 18, 3) := by decide +kernel
theorem dL_act_204 : decode cL_act 204 = .ok (.aload_n 0, 1) := by decide +kernel
theorem dL_act_205 : decode cL_act 205 = .ok (.iconst 0, 1) := by decide +kernel
theorem dL_act_206 : decode cL_act 206 = .ok (.invokevirtual 69, 3) := by decide +kernel
theorem dL_act_209 : decode cL_act 209 = .ok (.iconst (-1), 1) := by decide +kernel
theorem dL_act_210 : decode cL_act 210 = .ok (.if_icmp .ne 7, 3) := by decide +kernel
theorem dL_act_213 : decode cL_act 213 = .ok (.iconst 1, 1) := by decide +kernel
theorem dL_act_214 : decode cL_act 214 = .ok (.goto 4, 3) := by decide +kernel
theorem dL_act_217 : decode cL_act 217 = .ok (.iconst 0, 1) := by decide +kernel
theorem dL_act_218 : decode cL_act 218 = .ok (.ireturn, 1) := by decide +kernel
theorem dL_act_219 : decode cL_act 219 = .ok (.iload_n 2, 1) := by decide +kernel
theorem dL_act_220 : decode cL_act 220 = .ok (.iload 6, 2) := by decide +kernel
theorem dL_act_222 : decode cL_act 222 = .ok (.invokestatic 22, 3) := by decide +kernel
theorem dL_act_225 : decode cL_act 225 = .ok (.istore 8, 2) := by decide +kernel
theorem dL_act_227 : decode cL_act 227 = .ok (.aload_n 0, 1) := by decide +kernel
theorem dL_act_228 : decode cL_act 228 = .ok (.iload 8, 2) := by decide +kernel
theorem dL_act_230 : decode cL_act 230 = .ok (.bipush 6, 2) := by decide +kernel
theorem dL_act_232 : decode cL_act 232 = .ok (.invokevirtual 50, 3) := by decide +kernel
theorem dL_act_235 : decode cL_act 235 = .ok (.iconst 1, 1) := by decide +kernel
theorem dL_act_236 : decode cL_act 236 = .ok (.if_icmp .ne 20, 3) := by decide +kernel
theorem dL_act_239 : decode cL_act 239 = .ok (.aload_n 0, 1) := by decide +kernel
theorem dL_act_240 : decode cL_act 240 = .ok (.iload 8, 2) := by decide +kernel
theorem dL_act_242 : decode cL_act 242 = .ok (.invokevirtual 69, 3) := by decide +kernel
theorem dL_act_245 : decode cL_act 245 = .ok (.bipush (-5), 2) := by decide +kernel
theorem dL_act_247 : decode cL_act 247 = .ok (.if_icmp .ne 7, 3) := by decide +kernel
theorem dL_act_250 : decode cL_act 250 = .ok (.iconst 1, 1) := by decide +kernel
theorem dL_act_251 : decode cL_act 251 = .ok (.goto 4, 3) := by decide +kernel
theorem dL_act_254 : decode cL_act 254 = .ok (.iconst 0, 1) := by decide +kernel
theorem dL_act_255 : decode cL_act 255 = .ok (.ireturn, 1) := by decide +kernel
theorem dL_act_256 : decode cL_act 256 = .ok (.aload_n 0, 1) := by decide +kernel
theorem dL_act_257 : decode cL_act 257 = .ok (.aload_n 0, 1) := by decide +kernel
theorem dL_act_258 : decode cL_act 258 = .ok (.iload 8, 2) := by decide +kernel
theorem dL_act_260 : decode cL_act 260 = .ok (.iconst 0, 1) := by decide +kernel
theorem dL_act_261 : decode cL_act 261 = .ok (.invokevirtual 50, 3) := by decide +kernel
theorem dL_act_264 : decode cL_act 264 = .ok (.iload 8, 2) := by decide +kernel
theorem dL_act_266 : decode cL_act 266 = .ok (.iconst 0, 1) := by decide +kernel
theorem dL_act_267 : decode cL_act 267 = .ok (.iconst 0, 1) := by decide +kernel
theorem dL_act_268 : decode cL_act 268 = .ok (.invokestatic 65, 3) := by decide +kernel
theorem dL_act_271 : decode cL_act 271 = .ok (.ireturn, 1) := by decide +kernel
theorem dL_act_272 : decode cL_act 272 = .ok (.iload_n 3, 1) := by decide +kernel
theorem dL_act_273 : decode cL_act 273 = .ok (.iconst 4, 1) := by decide +kernel
theorem dL_act_274 : decode cL_act 274 = .ok (.ishr, 1) := by decide +kernel
theorem dL_act_275 : decode cL_act 275 = .ok (.bipush 6, 2) := by decide +kernel
theorem dL_act_277 : decode cL_act 277 = .ok (.invokestatic 22, 3) := by decide +kernel
theorem dL_act_280 : decode cL_act 280 = .ok (.istore 8, 2) := by decide +kernel
theorem dL_act_282 : decode cL_act 282 = .ok (.aload_n 0, 1) := by decide +kernel
theorem dL_act_283 : decode cL_act 283 = .ok (.iload 5, 2) := by decide +kernel
theorem dL_act_285 : decode cL_act 285 = .ok (.iconst 0, 1) := by decide +kernel
theorem dL_act_286 : decode cL_act 286 = .ok (.invokevirtual 43, 3) := by decide +kernel
theorem dL_act_289 : decode cL_act 289 = .ok (.istore 9, 2) := by decide +kernel
theorem dL_act_291 : decode cL_act 291 = .ok (.iload 9, 2) := by decide +kernel
theorem dL_act_293 : decode cL_act 293 = .ok (.ifCond .ge 38, 3) := by decide +kernel
theorem dL_act_296 : decode cL_act 296 = .ok (.aload_n 0, 1) := by decide +kernel
theorem dL_act_297 : decode cL_act 297 = .ok (.iload 4, 2) := by decide +kernel
theorem dL_act_299 : decode cL_act 299 = .ok (.iload 8, 2) := by decide +kernel
theorem dL_act_301 : decode cL_act 301 = .ok (.iload 5, 2) := by decide +kernel
theorem dL_act_303 : decode cL_act 303 = .ok (.iload 7, 2) := by decide +kernel
theorem dL_act_305 : decode cL_act 305 = .ok (.invokevirtual 72, 3) := by decide +kernel
theorem dL_act_308 : decode cL_act 308 = .ok (.iload 6, 2) := by decide +kernel
theorem dL_act_310 : decode cL_act 310 = .ok (.bipush 40, 2) := by decide +kernel
theorem dL_act_312 : decode cL_act 312 = .ok (.if_icmp .ne 8, 3) := by decide +kernel
theorem dL_act_315 : decode cL_act 315 = .ok (.bipush (-4), 2) := by decide +kernel
theorem dL_act_317 : decode cL_act 317 = .ok (.goto 5, 3) := by decide +kernel
theorem dL_act_320 : decode cL_act 320 = .ok (.bipush (-5), 2) := by decide +kernel
theorem dL_act_322 : decode cL_act 322 = .ok (.if_icmp .ne 7, 3) := by decide +kernel
theorem dL_act_325 : decode cL_act 325 = .ok (.iconst 1, 1) := by decide +kernel
theorem dL_act_326 : decode cL_act 326 = .ok (.goto 4, 3) := by decide +kernel
theorem dL_act_329 : decode cL_act 329 = .ok (.iconst 0, 1) := by decide +kernel
theorem dL_act_330 : decode cL_act 330 = .ok (.ireturn, 1) := by decide +kernel
theorem dL_act_331 : decode cL_act 331 = .ok (.iload 6, 2) := by decide +kernel
theorem dL_act_333 : decode cL_act 333 = .ok (.bipush 40, 2) := by decide +kernel
theorem dL_act_335 : decode cL_act 335 = .ok (.if_icmp .ne 26, 3) := by decide +kernel
theorem dL_act_338 : decode cL_act 338 = .ok (.aload_n 0, 1) := by decide +kernel
theorem dL_act_339 : decode cL_act 339 = .ok (.iload 9, 2) := by decide +kernel
theorem dL_act_341 : decode cL_act 341 = .ok (.iload 8, 2) := by decide +kernel
theorem dL_act_343 : decode cL_act 343 = .ok (.iload 5, 2) := by decide +kernel
theorem dL_act_345 : decode cL_act 345 = .ok (.iload 7, 2) := by decide +kernel
theorem dL_act_347 : decode cL_act 347 = .ok (.invokevirtual 72, 3) := by decide +kernel
theorem dL_act_350 : decode cL_act 350 = .ok (.bipush (-4), 2) := by decide +kernel
theorem dL_act_352 : decode cL_act 352 = .ok (.if_icmp .ne 7, 3) := by decide +kernel
theorem dL_act_355 : decode cL_act 355 = .ok (.iconst 1, 1) := by decide +kernel
theorem dL_act_356 : decode cL_act 356 = .ok (.goto 4, 3) := by decide +kernel
theorem dL_act_359 : decode cL_act 359 = .ok (.iconst 0, 1) := by decide +kernel
theorem dL_act_360 : decode cL_act 360 = .ok (.ireturn, 1) := by decide +kernel
theorem dL_act_361 : decode cL_act 361 = .ok (.iload_n 2, 1) := by decide +kernel
theorem dL_act_362 : decode cL_act 362 = .ok (.bipush 9, 2) := by decide +kernel
theorem dL_act_364 : decode cL_act 364 = .ok (.ishr, 1) := by decide +kernel
theorem dL_act_365 : decode cL_act 365 = .ok (.iconst 5, 1) := by decide +kernel
theorem dL_act_366 : decode cL_act 366 = .ok (.invokestatic 22, 3) := by decide +kernel
theorem dL_act_369 : decode cL_act 369 = .ok (.ifCond .ne 33, 3) := by decide +kernel
theorem dL_act_372 : decode cL_act 372 = .ok (.iload 4, 2) := by decide +kernel
theorem dL_act_374 : decode cL_act 374 = .ok (.iload 9, 2) := by decide +kernel
theorem dL_act_376 : decode cL_act 376 = .ok (.if_icmp .eq 26, 3) := by decide +kernel
theorem dL_act_379 : decode cL_act 379 = .ok (.aload_n 0, 1) := by decide +kernel
theorem dL_act_380 : decode cL_act 380 = .ok (.iload 4, 2) := by decide +kernel
theorem dL_act_382 : decode cL_act 382 = .ok (.iload 8, 2) := by decide +kernel
theorem dL_act_384 : decode cL_act 384 = .ok (.iload 5, 2) := by decide +kernel
theorem dL_act_386 : decode cL_act 386 = .ok (.iload 7, 2) := by decide +kernel
theorem dL_act_388 : decode cL_act 388 = .ok (.invokevirtual 72, 3) := by decide +kernel
theorem dL_act_391 : decode cL_act 391 = .ok (.bipush (-5), 2) := by decide +kernel
theorem dL_act_393 : decode cL_act 393 = .ok (.if_icmp .ne 7, 3) := by decide +kernel
theorem dL_act_396 : decode cL_act 396 = .ok (.iconst 1, 1) := by decide +kernel
theorem dL_act_397 : decode cL_act 397 = .ok (.goto 4, 3) := by decide +kernel
theorem dL_act_400 : decode cL_act 400 = .ok (.iconst 0, 1) := by decide +kernel
theorem dL_act_401 : decode cL_act 401 = .ok (.ireturn, 1) := by decide +kernel
theorem dL_act_402 : decode cL_act 402 = .ok (.aload_n 0, 1) := by decide +kernel
theorem dL_act_403 : decode cL_act 403 = .ok (.iload 9, 2) := by decide +kernel
theorem dL_act_405 : decode cL_act 405 = .ok (.iload 8, 2) := by decide +kernel
theorem dL_act_407 : decode cL_act 407 = .ok (.iload 5, 2) := by decide +kernel
theorem dL_act_409 : decode cL_act 409 = .ok (.iload 7, 2) := by decide +kernel
theorem dL_act_411 : decode cL_act 411 = .ok (.invokevirtual 72, 3) := by decide +kernel
theorem dL_act_414 : decode cL_act 414 = .ok (.iload 6, 2) := by decide +kernel
theorem dL_act_416 : decode cL_act 416 = .ok (.if_icmp .ne 27, 3) := by decide +kernel
theorem dL_act_419 : decode cL_act 419 = .ok (.aload_n 0, 1) := by decide +kernel
theorem dL_act_420 : decode cL_act 420 = .ok (.iload 6, 2) := by decide +kernel
theorem dL_act_422 : decode cL_act 422 = .ok (.iload 5, 2) := by decide +kernel
theorem dL_act_424 : decode cL_act 424 = .ok (.iload 9, 2) := by decide +kernel
theorem dL_act_426 : decode cL_act 426 = .ok (.iload 8, 2) := by decide +kernel
theorem dL_act_428 : decode cL_act 428 = .ok (.iload 7, 2) := by decide +kernel
theorem dL_act_430 : decode cL_act 430 = .ok (.bipush (-6), 2) := by decide +kernel
theorem dL_act_432 : decode cL_act 432 = .ok (.iconst 0, 1) := by decide +kernel
theorem dL_act_433 : decode cL_act 433 = .ok (.invokestatic 76, 3) := by decide +kernel
theorem dL_act_436 : decode cL_act 436 = .ok (.ifCond .eq 7, 3) := by decide +kernel
theorem dL_act_439 : decode cL_act 439 = .ok (.iconst 1, 1) := by decide +kernel
theorem dL_act_440 : decode cL_act 440 = .ok (.goto 4, 3) := by decide +kernel
theorem dL_act_443 : decode cL_act 443 = .ok (.iconst 0, 1) := by decide +kernel
theorem dL_act_444 : decode cL_act 444 = .ok (.ireturn, 1) := by decide +kernel
theorem dL_act_445 : decode cL_act 445 = .ok (.iload 6, 2) := by decide +kernel
theorem dL_act_447 : decode cL_act 447 = .ok (.ifCond .ne 21, 3) := by decide +kernel
theorem dL_act_450 : decode cL_act 450 = .ok (.aload_n 0, 1) := by decide +kernel
theorem dL_act_451 : decode cL_act 451 = .ok (.iconst 0, 1) := by decide +kernel
theorem dL_act_452 : decode cL_act 452 = .ok (.iload 4, 2) := by decide +kernel
theorem dL_act_454 : decode cL_act 454 = .ok (.iconst 1, 1) := by decide +kernel
theorem dL_act_455 : decode cL_act 455 = .ok (.invokevirtual 80, 3) := by decide +kernel
theorem dL_act_458 : decode cL_act 458 = .ok (.iconst (-1), 1) := by decide +kernel
theorem dL_act_459 : decode cL_act 459 = .ok (.if_icmp .ne 7, 3) := by decide +kernel
theorem dL_act_462 : decode cL_act 462 = .ok (.iconst 1, 1) := by decide +kernel
theorem dL_act_463 : decode cL_act 463 = .ok (.goto 4, 3) := by decide +kernel
theorem dL_act_466 : decode cL_act 466 = .ok (.iconst 0, 1) := by decide +kernel
theorem dL_act_467 : decode cL_act 467 = .ok (.ireturn, 1) := by decide +kernel
theorem dL_act_468 : decode cL_act 468 = .ok (.iload_n 2, 1) := by decide +kernel
theorem dL_act_469 : decode cL_act 469 = .ok (.iconst 3, 1) := by decide +kernel
theorem dL_act_470 : decode cL_act 470 = .ok (.ishr, 1) := by decide +kernel
theorem dL_act_471 : decode cL_act 471 = .ok (.iload 6, 2) := by decide +kernel
theorem dL_act_473 : decode cL_act 473 = .ok (.invokestatic 22, 3) := by decide +kernel
theorem dL_act_476 : decode cL_act 476 = .ok (.istore 8, 2) := by decide +kernel
theorem dL_act_478 : decode cL_act 478 = .ok (.aload_n 0, 1) := by decide +kernel
theorem dL_act_479 : decode cL_act 479 = .ok (.iload 8, 2) := by decide +kernel
theorem dL_act_481 : decode cL_act 481 = .ok (.iconst 3, 1) := by decide +kernel
theorem dL_act_482 : decode cL_act 482 = .ok (.invokevirtual 50, 3) := by decide +kernel
theorem dL_act_485 : decode cL_act 485 = .ok (.istore 9, 2) := by decide +kernel
theorem dL_act_487 : decode cL_act 487 = .ok (.aload_n 0, 1) := by decide +kernel
theorem dL_act_488 : decode cL_act 488 = .ok (.iload 8, 2) := by decide +kernel
theorem dL_act_490 : decode cL_act 490 = .ok (.invokestatic 84, 3) := by decide +kernel
theorem dL_act_493 : decode cL_act 493 = .ok (.ifCond .eq 23, 3) := by decide +kernel
theorem dL_act_496 : decode cL_act 496 = .ok (.iload 9, 2) := by decide +kernel
theorem dL_act_498 : decode cL_act 498 = .ok (.iconst 4, 1) := by decide +kernel
theorem dL_act_499 : decode cL_act 499 = .ok (.if_icmp .lt 17, 3) := by decide +kernel
theorem dL_act_502 : decode cL_act 502 = .ok (.iload 9, 2) := by decide +kernel
theorem dL_act_504 : decode cL_act 504 = .ok (.iload 7, 2) := by decide +kernel
theorem dL_act_506 : decode cL_act 506 = .ok (.iand, 1) := by decide +kernel
theorem dL_act_507 : decode cL_act 507 = .ok (.iload 7, 2) := by decide +kernel
theorem dL_act_509 : decode cL_act 509 = .ok (.if_icmp .ne 7, 3) := by decide +kernel
theorem dL_act_512 : decode cL_act 512 = .ok (.iconst 1, 1) := by decide +kernel
theorem dL_act_513 : decode cL_act 513 = .ok (.goto 4, 3) := by decide +kernel
theorem dL_act_516 : decode cL_act 516 = .ok (.iconst 0, 1) := by decide +kernel
theorem dL_act_517 : decode cL_act 517 = .ok (.istore 10, 2) := by decide +kernel
theorem dL_act_519 : decode cL_act 519 = .ok (.iload 6, 2) := by decide +kernel
theorem dL_act_521 : decode cL_act 521 = .ok (.bipush 40, 2) := by decide +kernel
theorem dL_act_523 : decode cL_act 523 = .ok (.if_icmp .ne 24, 3) := by decide +kernel
theorem dL_act_526 : decode cL_act 526 = .ok (.aload_n 0, 1) := by decide +kernel
theorem dL_act_527 : decode cL_act 527 = .ok (.iload 8, 2) := by decide +kernel
theorem dL_act_529 : decode cL_act 529 = .ok (.iload 4, 2) := by decide +kernel
theorem dL_act_531 : decode cL_act 531 = .ok (.iload 7, 2) := by decide +kernel
theorem dL_act_533 : decode cL_act 533 = .ok (.invokevirtual 80, 3) := by decide +kernel
theorem dL_act_536 : decode cL_act 536 = .ok (.bipush (-4), 2) := by decide +kernel
theorem dL_act_538 : decode cL_act 538 = .ok (.if_icmp .ne 7, 3) := by decide +kernel
theorem dL_act_541 : decode cL_act 541 = .ok (.iconst 1, 1) := by decide +kernel
theorem dL_act_542 : decode cL_act 542 = .ok (.goto 4, 3) := by decide +kernel
theorem dL_act_545 : decode cL_act 545 = .ok (.iconst 0, 1) := by decide +kernel
theorem dL_act_546 : decode cL_act 546 = .ok (.ireturn, 1) := by decide +kernel
theorem dL_act_547 : decode cL_act 547 = .ok (.iload 10, 2) := by decide +kernel
theorem dL_act_549 : decode cL_act 549 = .ok (.ifCond .ne 24, 3) := by decide +kernel
theorem dL_act_552 : decode cL_act 552 = .ok (.aload_n 0, 1) := by decide +kernel
theorem dL_act_553 : decode cL_act 553 = .ok (.iload 8, 2) := by decide +kernel
theorem dL_act_555 : decode cL_act 555 = .ok (.iload 4, 2) := by decide +kernel
theorem dL_act_557 : decode cL_act 557 = .ok (.iload 7, 2) := by decide +kernel
theorem dL_act_559 : decode cL_act 559 = .ok (.invokevirtual 80, 3) := by decide +kernel
theorem dL_act_562 : decode cL_act 562 = .ok (.bipush (-5), 2) := by decide +kernel
theorem dL_act_564 : decode cL_act 564 = .ok (.if_icmp .ne 7, 3) := by decide +kernel
theorem dL_act_567 : decode cL_act 567 = .ok (.iconst 1, 1) := by decide +kernel
theorem dL_act_568 : decode cL_act 568 = .ok (.goto 4, 3) := by decide +kernel
theorem dL_act_571 : decode cL_act 571 = .ok (.iconst 0, 1) := by decide +kernel
theorem dL_act_572 : decode cL_act 572 = .ok (.ireturn, 1) := by decide +kernel
theorem dL_act_573 : decode cL_act 573 = .ok (.aload_n 0, 1) := by decide +kernel
theorem dL_act_574 : decode cL_act 574 = .ok (.iload 8, 2) := by decide +kernel
theorem dL_act_576 : decode cL_act 576 = .ok (.iload 4, 2) := by decide +kernel
theorem dL_act_578 : decode cL_act 578 = .ok (.iload 7, 2) := by decide +kernel
theorem dL_act_580 : decode cL_act 580 = .ok (.invokevirtual 80, 3) := by decide +kernel
theorem dL_act_583 : decode cL_act 583 = .ok (.iload 6, 2) := by decide +kernel
theorem dL_act_585 : decode cL_act 585 = .ok (.if_icmp .ne 37, 3) := by decide +kernel
theorem dL_act_588 : decode cL_act 588 = .ok (.aload_n 0, 1) := by decide +kernel
theorem dL_act_589 : decode cL_act 589 = .ok (.iload 6, 2) := by decide +kernel
theorem dL_act_591 : decode cL_act 591 = .ok (.aload_n 0, 1) := by decide +kernel
theorem dL_act_592 : decode cL_act 592 = .ok (.iload 8, 2) := by decide +kernel
theorem dL_act_594 : decode cL_act 594 = .ok (.iconst 0, 1) := by decide +kernel
theorem dL_act_595 : decode cL_act 595 = .ok (.invokevirtual 50, 3) := by decide +kernel
theorem dL_act_598 : decode cL_act 598 = .ok (.aload_n 0, 1) := by decide +kernel
theorem dL_act_599 : decode cL_act 599 = .ok (.iload 8, 2) := by decide +kernel
theorem dL_act_601 : decode cL_act 601 = .ok (.iconst 2, 1) := by decide +kernel
theorem dL_act_602 : decode cL_act 602 = .ok (.invokevirtual 50, 3) := by decide +kernel
theorem dL_act_605 : decode cL_act 605 = .ok (.iload 4, 2) := by decide +kernel
theorem dL_act_607 : decode cL_act 607 = .ok (.iload 7, 2) := by decide +kernel
theorem dL_act_609 : decode cL_act 609 = .ok (.iload 8, 2) := by decide +kernel
theorem dL_act_611 : decode cL_act 611 = .ok (.iconst 0, 1) := by decide +kernel
theorem dL_act_612 : decode cL_act 612 = .ok (.invokestatic 76, 3) := by decide +kernel
theorem dL_act_615 : decode cL_act 615 = .ok (.ifCond .eq 7, 3) := by decide +kernel
theorem dL_act_618 : decode cL_act 618 = .ok (.iconst 1, 1) := by decide +kernel
theorem dL_act_619 : decode cL_act 619 = .ok (.goto 4, 3) := by decide +kernel
theorem dL_act_622 : decode cL_act 622 = .ok (.iconst 0, 1) := by decide +kernel
theorem dL_act_623 : decode cL_act 623 = .ok (.ireturn, 1) := by decide +kernel
theorem dL_act_624 : decode cL_act 624 = .ok (.iload_n 3, 1) := by decide +kernel
theorem dL_act_625 : decode cL_act 625 = .ok (.iconst 4, 1) := by decide +kernel
theorem dL_act_626 : decode cL_act 626 = .ok (.ishr, 1) := by decide +kernel
theorem dL_act_627 : decode cL_act 627 = .ok (.bipush 6, 2) := by decide +kernel
theorem dL_act_629 : decode cL_act 629 = .ok (.invokestatic 22, 3) := by decide +kernel
theorem dL_act_632 : decode cL_act 632 = .ok (.istore 8, 2) := by decide +kernel
theorem dL_act_634 : decode cL_act 634 = .ok (.iload 6, 2) := by decide +kernel
theorem dL_act_636 : decode cL_act 636 = .ok (.ifCond .le 26, 3) := by decide +kernel
theorem dL_act_639 : decode cL_act 639 = .ok (.iload_n 3, 1) := by decide +kernel
theorem dL_act_640 : decode cL_act 640 = .ok (.bipush 7, 2) := by decide +kernel
theorem dL_act_642 : decode cL_act 642 = .ok (.ishr, 1) := by decide +kernel
theorem dL_act_643 : decode cL_act 643 = .ok (.iconst 2, 1) := by decide +kernel
theorem dL_act_644 : decode cL_act 644 = .ok (.invokestatic 22, 3) := by decide +kernel
theorem dL_act_647 : decode cL_act 647 = .ok (.ifCond .ne 15, 3) := by decide +kernel
theorem dL_act_650 : decode cL_act 650 = .ok (.iload_n 3, 1) := by decide +kernel
theorem dL_act_651 : decode cL_act 651 = .ok (.bipush 8, 2) := by decide +kernel
theorem dL_act_653 : decode cL_act 653 = .ok (.ishr, 1) := by decide +kernel
theorem dL_act_654 : decode cL_act 654 = .ok (.iload 6, 2) := by decide +kernel
theorem dL_act_656 : decode cL_act 656 = .ok (.invokestatic 22, 3) := by decide +kernel
theorem dL_act_659 : decode cL_act 659 = .ok (.goto 5, 3) := by decide +kernel
theorem dL_act_662 : decode cL_act 662 = .ok (.bipush (-6), 2) := by decide +kernel
theorem dL_act_664 : decode cL_act 664 = .ok (.istore 9, 2) := by decide +kernel
theorem dL_act_666 : decode cL_act 666 = .ok (.iload 6, 2) := by decide +kernel
theorem dL_act_668 : decode cL_act 668 = .ok (.bipush 40, 2) := by decide +kernel
theorem dL_act_670 : decode cL_act 670 = .ok (.if_icmp .ne 28, 3) := by decide +kernel
theorem dL_act_673 : decode cL_act 673 = .ok (.aload_n 0, 1) := by decide +kernel
theorem dL_act_674 : decode cL_act 674 = .ok (.iload 4, 2) := by decide +kernel
theorem dL_act_676 : decode cL_act 676 = .ok (.iload 8, 2) := by decide +kernel
theorem dL_act_678 : decode cL_act 678 = .ok (.iload 5, 2) := by decide +kernel
theorem dL_act_680 : decode cL_act 680 = .ok (.iload 7, 2) := by decide +kernel
theorem dL_act_682 : decode cL_act 682 = .ok (.iload 9, 2) := by decide +kernel
theorem dL_act_684 : decode cL_act 684 = .ok (.invokevirtual 87, 3) := by decide +kernel
theorem dL_act_687 : decode cL_act 687 = .ok (.bipush (-4), 2) := by decide +kernel
theorem dL_act_689 : decode cL_act 689 = .ok (.if_icmp .ne 7, 3) := by decide +kernel
theorem dL_act_692 : decode cL_act 692 = .ok (.iconst 1, 1) := by decide +kernel
theorem dL_act_693 : decode cL_act 693 = .ok (.goto 4, 3) := by decide +kernel
theorem dL_act_696 : decode cL_act 696 = .ok (.iconst 0, 1) := by decide +kernel
theorem dL_act_697 : decode cL_act 697 = .ok (.ireturn, 1) := by decide +kernel
theorem dL_act_698 : decode cL_act 698 = .ok (.aload_n 0, 1) := by decide +kernel
theorem dL_act_699 : decode cL_act 699 = .ok (.iload 4, 2) := by decide +kernel
theorem dL_act_701 : decode cL_act 701 = .ok (.iload 8, 2) := by decide +kernel
theorem dL_act_703 : decode cL_act 703 = .ok (.iload 5, 2) := by decide +kernel
theorem dL_act_705 : decode cL_act 705 = .ok (.iload 7, 2) := by decide +kernel
theorem dL_act_707 : decode cL_act 707 = .ok (.iload 9, 2) := by decide +kernel
theorem dL_act_709 : decode cL_act 709 = .ok (.invokevirtual 87, 3) := by decide +kernel
theorem dL_act_712 : decode cL_act 712 = .ok (.iload 6, 2) := by decide +kernel
theorem dL_act_714 : decode cL_act 714 = .ok (.if_icmp .ne 27, 3) := by decide +kernel
theorem dL_act_717 : decode cL_act 717 = .ok (.aload_n 0, 1) := by decide +kernel
theorem dL_act_718 : decode cL_act 718 = .ok (.iload 6, 2) := by decide +kernel
theorem dL_act_720 : decode cL_act 720 = .ok (.iload 5, 2) := by decide +kernel
theorem dL_act_722 : decode cL_act 722 = .ok (.iload 4, 2) := by decide +kernel
theorem dL_act_724 : decode cL_act 724 = .ok (.iload 8, 2) := by decide +kernel
theorem dL_act_726 : decode cL_act 726 = .ok (.iload 7, 2) := by decide +kernel
theorem dL_act_728 : decode cL_act 728 = .ok (.iload 9, 2) := by decide +kernel
theorem dL_act_730 : decode cL_act 730 = .ok (.iconst 1, 1) := by decide +kernel
theorem dL_act_731 : decode cL_act 731 = .ok (.invokestatic 76, 3) := by decide +kernel
theorem dL_act_734 : decode cL_act 734 = .ok (.ifCond .eq 7, 3) := by decide +kernel
theorem dL_act_737 : decode cL_act 737 = .ok (.iconst 1, 1) := by decide +kernel
theorem dL_act_738 : decode cL_act 738 = .ok (.goto 4, 3) := by decide +kernel
theorem dL_act_741 : decode cL_act 741 = .ok (.iconst 0, 1) := by decide +kernel
theorem dL_act_742 : decode cL_act 742 = .ok (.ireturn, 1) := by decide +kernel
theorem dL_act_743 : decode cL_act 743 = .ok (.iload 6, 2) := by decide +kernel
theorem dL_act_745 : decode cL_act 745 = .ok (.ifCond .le 23, 3) := by decide +kernel
theorem dL_act_748 : decode cL_act 748 = .ok (.iload_n 3, 1) := by decide +kernel
theorem dL_act_749 : decode cL_act 749 = .ok (.bipush 6, 2) := by decide +kernel
theorem dL_act_751 : decode cL_act 751 = .ok (.invokestatic 22, 3) := by decide +kernel
theorem dL_act_754 : decode cL_act 754 = .ok (.ifCond .le 14, 3) := by decide +kernel
theorem dL_act_757 : decode cL_act 757 = .ok (.iload_n 3, 1) := by decide +kernel
theorem dL_act_758 : decode cL_act 758 = .ok (.iconst 3, 1) := by decide +kernel
theorem dL_act_759 : decode cL_act 759 = .ok (.ishr, 1) := by decide +kernel
theorem dL_act_760 : decode cL_act 760 = .ok (.iload 6, 2) := by decide +kernel
theorem dL_act_762 : decode cL_act 762 = .ok (.invokestatic 22, 3) := by decide +kernel
theorem dL_act_765 : decode cL_act 765 = .ok (.goto 5, 3) := by decide +kernel
theorem dL_act_768 : decode cL_act 768 = .ok (.bipush (-6), 2) := by decide +kernel
theorem dL_act_770 : decode cL_act 770 = .ok (.istore 8, 2) := by decide +kernel
theorem dL_act_772 : decode cL_act 772 = .ok (.iload 8, 2) := by decide +kernel
theorem dL_act_774 : decode cL_act 774 = .ok (.ifCond .lt 24, 3) := by decide +kernel
theorem dL_act_777 : decode cL_act 777 = .ok (.iload_n 2, 1) := by decide +kernel
theorem dL_act_778 : decode cL_act 778 = .ok (.bipush 9, 2) := by decide +kernel
theorem dL_act_780 : decode cL_act 780 = .ok (.ishr, 1) := by decide +kernel
theorem dL_act_781 : decode cL_act 781 = .ok (.iconst 5, 1) := by decide +kernel
theorem dL_act_782 : decode cL_act 782 = .ok (.invokestatic 22, 3) := by decide +kernel
theorem dL_act_785 : decode cL_act 785 = .ok (.ifCond .le 13, 3) := by decide +kernel
theorem dL_act_788 : decode cL_act 788 = .ok (.aload_n 0, 1) := by decide +kernel
theorem dL_act_789 : decode cL_act 789 = .ok (.iload 8, 2) := by decide +kernel
theorem dL_act_791 : decode cL_act 791 = .ok (.iconst 2, 1) := by decide +kernel
theorem dL_act_792 : decode cL_act 792 = .ok (.invokevirtual 50, 3) := by decide +kernel
theorem dL_act_795 : decode cL_act 795 = .ok (.goto 5, 3) := by decide +kernel
theorem dL_act_798 : decode cL_act 798 = .ok (.iload 4, 2) := by decide +kernel
theorem dL_act_800 : decode cL_act 800 = .ok (.istore 9, 2) := by decide +kernel
theorem dL_act_802 : decode cL_act 802 = .ok (.iload_n 2, 1) := by decide +kernel
theorem dL_act_803 : decode cL_act 803 = .ok (.bipush 12, 2) := by decide +kernel
theorem dL_act_805 : decode cL_act 805 = .ok (.ishr, 1) := by decide +kernel
theorem dL_act_806 : decode cL_act 806 = .ok (.iconst 3, 1) := by decide +kernel
theorem dL_act_807 : decode cL_act 807 = .ok (.invokestatic 22, 3) := by decide +kernel
theorem dL_act_810 : decode cL_act 810 = .ok (.istore 10, 2) := by decide +kernel
theorem dL_act_812 : decode cL_act 812 = .ok (.iconst 0, 1) := by decide +kernel
theorem dL_act_813 : decode cL_act 813 = .ok (.istore 11, 2) := by decide +kernel
theorem dL_act_815 : decode cL_act 815 = .ok (.aload_n 0, 1) := by decide +kernel
theorem dL_act_816 : decode cL_act 816 = .ok (.bipush 7, 2) := by decide +kernel
theorem dL_act_818 : decode cL_act 818 = .ok (.invokevirtual 46, 3) := by decide +kernel
theorem dL_act_821 : decode cL_act 821 = .ok (.istore 12, 2) := by decide +kernel
theorem dL_act_823 : decode cL_act 823 = .ok (.aload_n 0, 1) := by decide +kernel
theorem dL_act_824 : decode cL_act 824 = .ok (.iload 9, 2) := by decide +kernel
theorem dL_act_826 : decode cL_act 826 = .ok (.iload 10, 2) := by decide +kernel
theorem dL_act_828 : decode cL_act 828 = .ok (.invokevirtual 53, 3) := by decide +kernel
theorem dL_act_831 : decode cL_act 831 = .ok (.iload 8, 2) := by decide +kernel
theorem dL_act_833 : decode cL_act 833 = .ok (.if_icmp .eq 49, 3) := by decide +kernel
theorem dL_act_836 : decode cL_act 836 = .ok (.iconst 0, 1) := by decide +kernel
theorem dL_act_837 : decode cL_act 837 = .ok (.istore 13, 2) := by decide +kernel
theorem dL_act_839 : decode cL_act 839 = .ok (.iload 13, 2) := by decide +kernel
theorem dL_act_841 : decode cL_act 841 = .ok (.aload_n 0, 1) := by decide +kernel
theorem dL_act_842 : decode cL_act 842 = .ok (.iconst 2, 1) := by decide +kernel
theorem dL_act_843 : decode cL_act 843 = .ok (.invokevirtual 46, 3) := by decide +kernel
theorem dL_act_846 : decode cL_act 846 = .ok (.if_icmp .ge 36, 3) := by decide +kernel
theorem dL_act_849 : decode cL_act 849 = .ok (.aload_n 0, 1) := by decide +kernel
theorem dL_act_850 : decode cL_act 850 = .ok (.iload 13, 2) := by decide +kernel
theorem dL_act_852 : decode cL_act 852 = .ok (.iconst 0, 1) := by decide +kernel
theorem dL_act_853 : decode cL_act 853 = .ok (.invokevirtual 56, 3) := by decide +kernel
theorem dL_act_856 : decode cL_act 856 = .ok (.iload 9, 2) := by decide +kernel
theorem dL_act_858 : decode cL_act 858 = .ok (.if_icmp .ne 18, 3) := by decide +kernel
theorem dL_act_861 : decode cL_act 861 = .ok (.aload_n 0, 1) := by decide +kernel
theorem dL_act_862 : decode cL_act 862 = .ok (.iload 13, 2) := by decide +kernel
theorem dL_act_864 : decode cL_act 864 = .ok (.iconst 1, 1) := by decide +kernel
theorem dL_act_865 : decode cL_act 865 = .ok (.invokevirtual 56, 3) := by decide +kernel
theorem dL_act_868 : decode cL_act 868 = .ok (.iload 10, 2) := by decide +kernel
theorem dL_act_870 : decode cL_act 870 = .ok (.if_icmp .ne 6, 3) := by decide +kernel
theorem dL_act_873 : decode cL_act 873 = .ok (.iinc 11 1, 3) := by decide +kernel
theorem dL_act_876 : decode cL_act 876 = .ok (.iinc 13 1, 3) := by decide +kernel
theorem dL_act_879 : decode cL_act 879 = .ok (.goto (-40), 3) := by decide +kernel
theorem dL_act_882 : decode cL_act 882 = .ok (.aload_n 0, 1) := by decide +kernel
theorem dL_act_883 : decode cL_act 883 = .ok (.iload 9, 2) := by decide +kernel
theorem dL_act_885 : decode cL_act 885 = .ok (.iload 10, 2) := by decide +kernel
theorem dL_act_887 : decode cL_act 887 = .ok (.iload 8, 2) := by decide +kernel
theorem dL_act_889 : decode cL_act 889 = .ok (.invokevirtual 91, 3) := by decide +kernel
theorem dL_act_892 : decode cL_act 892 = .ok (.iload 11, 2) := by decide +kernel
theorem dL_act_894 : decode cL_act 894 = .ok (.if_icmp .ne 47, 3) := by decide +kernel
theorem dL_act_897 : decode cL_act 897 = .ok (.aload_n 0, 1) := by decide +kernel
theorem dL_act_898 : decode cL_act 898 = .ok (.iload 9, 2) := by decide +kernel
theorem dL_act_900 : decode cL_act 900 = .ok (.iload 10, 2) := by decide +kernel
theorem dL_act_902 : decode cL_act 902 = .ok (.invokevirtual 53, 3) := by decide +kernel
theorem dL_act_905 : decode cL_act 905 = .ok (.iload 8, 2) := by decide +kernel
theorem dL_act_907 : decode cL_act 907 = .ok (.if_icmp .ne 34, 3) := by decide +kernel
theorem dL_act_910 : decode cL_act 910 = .ok (.aload_n 0, 1) := by decide +kernel
theorem dL_act_911 : decode cL_act 911 = .ok (.bipush 7, 2) := by decide +kernel
theorem dL_act_913 : decode cL_act 913 = .ok (.invokevirtual 46, 3) := by decide +kernel
theorem dL_act_916 : decode cL_act 916 = .ok (.iload 12, 2) := by decide +kernel
theorem dL_act_918 : decode cL_act 918 = .ok (.iload 11, 2) := by decide +kernel
theorem dL_act_920 : decode cL_act 920 = .ok (.iadd, 1) := by decide +kernel
theorem dL_act_921 : decode cL_act 921 = .ok (.if_icmp .ne 20, 3) := by decide +kernel
theorem dL_act_924 : decode cL_act 924 = .ok (.aload_n 0, 1) := by decide +kernel
theorem dL_act_925 : decode cL_act 925 = .ok (.iload 9, 2) := by decide +kernel
theorem dL_act_927 : decode cL_act 927 = .ok (.iload 10, 2) := by decide +kernel
theorem dL_act_929 : decode cL_act 929 = .ok (.iload 11, 2) := by decide +kernel
theorem dL_act_931 : decode cL_act 931 = .ok (.invokestatic 94, 3) := by decide +kernel
theorem dL_act_934 : decode cL_act 934 = .ok (.ifCond .ne 7, 3) := by decide +kernel
theorem dL_act_937 : decode cL_act 937 = .ok (.iconst 1, 1) := by decide +kernel
theorem dL_act_938 : decode cL_act 938 = .ok (.goto 4, 3) := by decide +kernel
theorem dL_act_941 : decode cL_act 941 = .ok (.iconst 0, 1) := by decide +kernel
theorem dL_act_942 : decode cL_act 942 = .ok (.ireturn, 1) := by decide +kernel
theorem dL_act_943 : decode cL_act 943 = .ok (.aload_n 0, 1) := by decide +kernel
theorem dL_act_944 : decode cL_act 944 = .ok (.iload 4, 2) := by decide +kernel
theorem dL_act_946 : decode cL_act 946 = .ok (.iload_n 2, 1) := by decide +kernel
theorem dL_act_947 : decode cL_act 947 = .ok (.bipush 12, 2) := by decide +kernel
theorem dL_act_949 : decode cL_act 949 = .ok (.ishr, 1) := by decide +kernel
theorem dL_act_950 : decode cL_act 950 = .ok (.iconst 3, 1) := by decide +kernel
theorem dL_act_951 : decode cL_act 951 = .ok (.invokestatic 22, 3) := by decide +kernel
theorem dL_act_954 : decode cL_act 954 = .ok (.iconst 1, 1) := by decide +kernel
theorem dL_act_955 : decode cL_act 955 = .ok (.iload_n 3, 1) := by decide +kernel
theorem dL_act_956 : decode cL_act 956 = .ok (.iconst 2, 1) := by decide +kernel
theorem dL_act_957 : decode cL_act 957 = .ok (.invokestatic 22, 3) := by decide +kernel
theorem dL_act_960 : decode cL_act 960 = .ok (.iadd, 1) := by decide +kernel
theorem dL_act_961 : decode cL_act 961 = .ok (.invokestatic 97, 3) := by decide +kernel
theorem dL_act_964 : decode cL_act 964 = .ok (.ireturn, 1) := by decide +kernel
theorem dL_act_965 : decode cL_act 965 = .ok (.iload_n 2, 1) := by decide +kernel
theorem dL_act_966 : decode cL_act 966 = .ok (.iconst 3, 1) := by decide +kernel
theorem dL_act_967 : decode cL_act 967 = .ok (.invokestatic 22, 3) := by decide +kernel
theorem dL_act_970 : decode cL_act 970 = .ok (.ifCond .le 10, 3) := by decide +kernel
theorem dL_act_973 : decode cL_act 973 = .ok (.aload_n 0, 1) := by decide +kernel
theorem dL_act_974 : decode cL_act 974 = .ok (.iload_n 2, 1) := by decide +kernel
theorem dL_act_975 : decode cL_act 975 = .ok (.iload_n 3, 1) := by decide +kernel
theorem dL_act_976 : decode cL_act 976 = .ok (.invokestatic 100, 3) := by decide +kernel
theorem dL_act_979 : decode cL_act 979 = .ok (.ireturn, 1) := by decide +kernel
theorem dL_act_980 : decode cL_act 980 = .ok (.iload_n 2, 1) := by decide +kernel
theorem dL_act_981 : decode cL_act 981 = .ok (.iconst 2, 1) := by decide +kernel
theorem dL_act_982 : decode cL_act 982 = .ok (.ishr, 1) := by decide +kernel
theorem dL_act_983 : decode cL_act 983 = .ok (.iconst 4, 1) := by decide +kernel
theorem dL_act_984 : decode cL_act 984 = .ok (.invokestatic 22, 3) := by decide +kernel
theorem dL_act_987 : decode cL_act 987 = .ok (.istore 8, 2) := by decide +kernel
theorem dL_act_989 : decode cL_act 989 = .ok (.iload 8, 2) := by decide +kernel
theorem dL_act_991 : decode cL_act 991 = .ok (.ifCond .ne 14, 3) := by decide +kernel
theorem dL_act_994 : decode cL_act 994 = .ok (.iconst 1, 1) := by decide +kernel
theorem dL_act_995 : decode cL_act 995 = .ok (.iload_n 3, 1) := by decide +kernel
theorem dL_act_996 : decode cL_act 996 = .ok (.bipush 8, 2) := by decide +kernel
theorem dL_act_998 : decode cL_act 998 = .ok (.invokestatic 22, 3) := by decide +kernel
theorem dL_act_1001 : decode cL_act 1001 = .ok (.iadd, 1) := by decide +kernel
