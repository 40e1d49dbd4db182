theorem dX8_checkNumber_33 : decode cX8_checkNumber 33 = .ok (.goto (-29), 3) := by decide +kernel
theorem dX8_checkNumber_36 : decode cX8_checkNumber 36 = .ok (.iload_n 1, 1) := by decide +kernel
theorem dX8_checkNumber_37 : decode cX8_checkNumber 37 = .ok (.ireturn, 1) := by decide +kernel
theorem dX8_intervalCost_0 : decode cX8_intervalCost 0 = .ok (.iload_n 1, 1) := by decide +kernel
theorem dX8_intervalCost_1 : decode cX8_intervalCost 1 = .ok (.invokestatic 316, 3) := by decide +kernel
theorem dX8_intervalCost_4 : decode cX8_intervalCost 4 = .ok (.iload_n 0, 1) := by decide +kernel
theorem dX8_intervalCost_5 : decode cX8_intervalCost 5 = .ok (.invokestatic 316, 3) := by decide +kernel
theorem dX8_intervalCost_8 : decode cX8_intervalCost 8 = .ok (.isub, 1) := by decide +kernel
theorem dX8_intervalCost_9 : decode cX8_intervalCost 9 = .ok (.ireturn, 1) := by decide +kernel
theorem dX8_logarithm_0 : decode cX8_logarithm 0 = .ok (.iload_n 0, 1) := by decide +kernel
theorem dX8_logarithm_1 : decode cX8_logarithm 1 = .ok (.iconst 1, 1) := by decide +kernel
theorem dX8_logarithm_2 : decode cX8_logarithm 2 = .ok (.if_icmp .ge 5, 3) := by decide +kernel
theorem dX8_logarithm_5 : decode cX8_logarithm 5 = .ok (.iconst 0, 1) := by decide +kernel
theorem dX8_logarithm_6 : decode cX8_logarithm 6 = .ok (.ireturn, 1) := by decide +kernel
theorem dX8_logarithm_7 : decode cX8_logarithm 7 = .ok (.iconst 0, 1) := by decide +kernel
theorem dX8_logarithm_8 : decode cX8_logarithm 8 = .ok (.istore_n 1, 1) := by decide +kernel
theorem dX8_logarithm_9 : decode cX8_logarithm 9 = .ok (.iload_n 1, 1) := by decide +kernel
theorem dX8_logarithm_10 : decode cX8_logarithm 10 = .ok (.bipush 30, 2) := by decide +kernel
theorem dX8_logarithm_12 : decode cX8_logarithm 12 = .ok (.if_icmp .ge 17, 3) := by decide +kernel
theorem dX8_logarithm_15 : decode cX8_logarithm 15 = .ok (.iload_n 0, 1) := by decide +kernel
theorem dX8_logarithm_16 : decode cX8_logarithm 16 = .ok (.iload_n 1, 1) := by decide +kernel
theorem dX8_logarithm_17 : decode cX8_logarithm 17 = .ok (.iconst 1, 1) := by decide +kernel
theorem dX8_logarithm_18 : decode cX8_logarithm 18 = .ok (.iadd, 1) := by decide +kernel
theorem dX8_logarithm_19 : decode cX8_logarithm 19 = .ok (.ishr, 1) := by decide +kernel
theorem dX8_logarithm_20 : decode cX8_logarithm 20 = .ok (.ifCond .le 9, 3) := by decide +kernel
theorem dX8_logarithm_23 : decode cX8_logarithm 23 = .ok (.iinc 1 1, 3) := by decide +kernel
theorem dX8_logarithm_26 : decode cX8_logarithm 26 = .ok (.goto (-17), 3) := by decide +kernel
theorem dX8_logarithm_29 : decode cX8_logarithm 29 = .ok (.iload_n 0, 1) := by decide +kernel
theorem dX8_logarithm_30 : decode cX8_logarithm 30 = .ok (.i2l, 1) := by decide +kernel
theorem dX8_logarithm_31 : decode cX8_logarithm 31 = .ok (.bipush 30, 2) := by decide +kernel
theorem dX8_logarithm_33 : decode cX8_logarithm 33 = .ok (.iload_n 1, 1) := by decide +kernel
theorem dX8_logarithm_34 : decode cX8_logarithm 34 = .ok (.isub, 1) := by decide +kernel
theorem dX8_logarithm_35 : decode cX8_logarithm 35 = .ok (.lshl, 1) := by decide +kernel
theorem dX8_logarithm_36 : decode cX8_logarithm 36 = .ok (.lstore_n 2, 1) := by decide +kernel
theorem dX8_logarithm_37 : decode cX8_logarithm 37 = .ok (.ldc 245, 2) := by decide +kernel
theorem dX8_logarithm_39 : decode cX8_logarithm 39 = .ok (.iload_n 1, 1) := by decide +kernel
theorem dX8_logarithm_40 : decode cX8_logarithm 40 = .ok (.imul, 1) := by decide +kernel
theorem dX8_logarithm_41 : decode cX8_logarithm 41 = .ok (.istore 4, 2) := by decide +kernel
theorem dX8_logarithm_43 : decode cX8_logarithm 43 = .ok (.bipush 15, 2) := by decide +kernel
theorem dX8_logarithm_45 : decode cX8_logarithm 45 = .ok (.istore 5, 2) := by decide +kernel
theorem dX8_logarithm_47 : decode cX8_logarithm 47 = .ok (.iload 5, 2) := by decide +kernel
theorem dX8_logarithm_49 : decode cX8_logarithm 49 = .ok (.ifCond .lt 37, 3) := by decide +kernel
theorem dX8_logarithm_52 : decode cX8_logarithm 52 = .ok (.lload_n 2, 1) := by decide +kernel
theorem dX8_logarithm_53 : decode cX8_logarithm 53 = .ok (.lload_n 2, 1) := by decide +kernel
theorem dX8_logarithm_54 : decode cX8_logarithm 54 = .ok (.lmul, 1) := by decide +kernel
theorem dX8_logarithm_55 : decode cX8_logarithm 55 = .ok (.bipush 30, 2) := by decide +kernel
theorem dX8_logarithm_57 : decode cX8_logarithm 57 = .ok (.lshr, 1) := by decide +kernel
theorem dX8_logarithm_58 : decode cX8_logarithm 58 = .ok (.lstore_n 2, 1) := by decide +kernel
theorem dX8_logarithm_59 : decode cX8_logarithm 59 = .ok (.lload_n 2, 1) := by decide +kernel
theorem dX8_logarithm_60 : decode cX8_logarithm 60 = .ok (.ldc2_w 319, 3) := by decide +kernel
theorem dX8_logarithm_63 : decode cX8_logarithm 63 = .ok (.lcmp, 1) := by decide +kernel
theorem dX8_logarithm_64 : decode cX8_logarithm 64 = .ok (.ifCond .lt 16, 3) := by decide +kernel
theorem dX8_logarithm_67 : decode cX8_logarithm 67 = .ok (.lload_n 2, 1) := by decide +kernel
theorem dX8_logarithm_68 : decode cX8_logarithm 68 = .ok (.iconst 1, 1) := by decide +kernel
theorem dX8_logarithm_69 : decode cX8_logarithm 69 = .ok (.lshr, 1) := by decide +kernel
theorem dX8_logarithm_70 : decode cX8_logarithm 70 = .ok (.lstore_n 2, 1) := by decide +kernel
theorem dX8_logarithm_71 : decode cX8_logarithm 71 = .ok (.iload 4, 2) := by decide +kernel
theorem dX8_logarithm_73 : decode cX8_logarithm 73 = .ok (.iconst 1, 1) := by decide +kernel
theorem dX8_logarithm_74 : decode cX8_logarithm 74 = .ok (.iload 5, 2) := by decide +kernel
theorem dX8_logarithm_76 : decode cX8_logarithm 76 = .ok (.ishl, 1) := by decide +kernel
theorem dX8_logarithm_77 : decode cX8_logarithm 77 = .ok (.iadd, 1) := by decide +kernel
theorem dX8_logarithm_78 : decode cX8_logarithm 78 = .ok (.istore 4, 2) := by decide +kernel
theorem dX8_logarithm_80 : decode cX8_logarithm 80 = .ok (.iinc 5 (-1), 3) := by decide +kernel
theorem dX8_logarithm_83 : decode cX8_logarithm 83 = .ok (.goto (-36), 3) := by decide +kernel
theorem dX8_logarithm_86 : decode cX8_logarithm 86 = .ok (.iload 4, 2) := by decide +kernel
theorem dX8_logarithm_88 : decode cX8_logarithm 88 = .ok (.ireturn, 1) := by decide +kernel
theorem dJ9_max_7cf53_0 : decode cJ9_max_7cf53 0 = .ok (.iload_n 0, 1) := by decide +kernel
theorem dJ9_max_7cf53_1 : decode cJ9_max_7cf53 1 = .ok (.iload_n 1, 1) := by decide +kernel
theorem dJ9_max_7cf53_2 : decode cJ9_max_7cf53 2 = .ok (.if_icmp .lt 7, 3) := by decide +kernel
theorem dJ9_max_7cf53_5 : decode cJ9_max_7cf53 5 = .ok (.iload_n 0, 1) := by decide +kernel
theorem dJ9_max_7cf53_6 : decode cJ9_max_7cf53 6 = .ok (.goto 4, 3) := by decide +kernel
theorem dJ9_max_7cf53_9 : decode cJ9_max_7cf53 9 = .ok (.iload_n 1, 1) := by decide +kernel
theorem dJ9_max_7cf53_10 : decode cJ9_max_7cf53 10 = .ok (.ireturn, 1) := by decide +kernel
theorem dJ9_min_7cf53_0 : decode cJ9_min_7cf53 0 = .ok (.iload_n 0, 1) := by decide +kernel
theorem dJ9_min_7cf53_1 : decode cJ9_min_7cf53 1 = .ok (.iload_n 1, 1) := by decide +kernel
theorem dJ9_min_7cf53_2 : decode cJ9_min_7cf53 2 = .ok (.if_icmp .gt 7, 3) := by decide +kernel
theorem dJ9_min_7cf53_5 : decode cJ9_min_7cf53 5 = .ok (.iload_n 0, 1) := by decide +kernel
theorem dJ9_min_7cf53_6 : decode cJ9_min_7cf53 6 = .ok (.goto 4, 3) := by decide +kernel
theorem dJ9_min_7cf53_9 : decode cJ9_min_7cf53 9 = .ok (.iload_n 1, 1) := by decide +kernel
theorem dJ9_min_7cf53_10 : decode cJ9_min_7cf53 10 = .ok (.ireturn, 1) := by decide +kernel
theorem dJ9_min_f86c9_0 : decode cJ9_min_f86c9 0 = .ok (.lload_n 0, 1) := by decide +kernel
theorem dJ9_min_f86c9_1 : decode cJ9_min_f86c9 1 = .ok (.lload_n 2, 1) := by decide +kernel
theorem dJ9_min_f86c9_2 : decode cJ9_min_f86c9 2 = .ok (.lcmp, 1) := by decide +kernel
theorem dJ9_min_f86c9_3 : decode cJ9_min_f86c9 3 = .ok (.ifCond .gt 7, 3) := by decide +kernel
theorem dJ9_min_f86c9_6 : decode cJ9_min_f86c9 6 = .ok (.lload_n 0, 1) := by decide +kernel
theorem dJ9_min_f86c9_7 : decode cJ9_min_f86c9 7 = .ok (.goto 4, 3) := by decide +kernel
theorem dJ9_min_f86c9_10 : decode cJ9_min_f86c9 10 = .ok (.lload_n 2, 1) := by decide +kernel
theorem dJ9_min_f86c9_11 : decode cJ9_min_f86c9 11 = .ok (.lreturn, 1) := by decide +kernel
theorem dL_cell_0 : decode cL_cell 0 = .ok (.iload_n 1, 1) := by decide +kernel
theorem dL_cell_1 : decode cL_cell 1 = .ok (.aload_n 0, 1) := by decide +kernel
theorem dL_cell_2 : decode cL_cell 2 = .ok (.arraylength, 1) := by decide +kernel
theorem dL_cell_3 : decode cL_cell 3 = .ok (.if_icmp .ge 9, 3) := by decide +kernel
theorem dL_cell_6 : decode cL_cell 6 = .ok (.aload_n 0, 1) := by decide +kernel
theorem dL_cell_7 : decode cL_cell 7 = .ok (.iload_n 1, 1) := by decide +kernel
theorem dL_cell_8 : decode cL_cell 8 = .ok (.iaload, 1) := by decide +kernel
theorem dL_cell_9 : decode cL_cell 9 = .ok (.goto 9, 3) := by decide +kernel
theorem dL_cell_12 : decode cL_cell 12 = .ok (.ldc 7, 2) := by decide +kernel
theorem dL_cell_14 : decode cL_cell 14 = .ok (.iload_n 1, 1) := by decide +kernel
theorem dL_cell_15 : decode cL_cell 15 = .ok (.iconst 3, 1) := by decide +kernel
theorem dL_cell_16 : decode cL_cell 16 = .ok (.iadd, 1) := by decide +kernel
theorem dL_cell_17 : decode cL_cell 17 = .ok (.imul, 1) := by decide +kernel
theorem dL_cell_18 : decode cL_cell 18 = .ok (.ireturn, 1) := by decide +kernel
theorem dL_up_0 : decode cL_up 0 = .ok (.iload_n 0, 1) := by decide +kernel
theorem dL_up_1 : decode cL_up 1 = .ok (.ldc 8, 2) := by decide +kernel
theorem dL_up_3 : decode cL_up 3 = .ok (.iand, 1) := by decide +kernel
theorem dL_up_4 : decode cL_up 4 = .ok (.iload_n 1, 1) := by decide +kernel
theorem dL_up_5 : decode cL_up 5 = .ok (.irem, 1) := by decide +kernel
theorem dL_up_6 : decode cL_up 6 = .ok (.ireturn, 1) := by decide +kernel
theorem dL_fails_0 : decode cL_fails 0 = .ok (.aload_n 0, 1) := by decide +kernel
theorem dL_fails_1 : decode cL_fails 1 = .ok (.invokevirtual 9, 3) := by decide +kernel
theorem dL_fails_4 : decode cL_fails 4 = .ok (.lstore_n 1, 1) := by decide +kernel
theorem dL_fails_5 : decode cL_fails 5 = .ok (.aload_n 0, 1) := by decide +kernel
theorem dL_fails_6 : decode cL_fails 6 = .ok (.iconst 4, 1) := by decide +kernel
theorem dL_fails_7 : decode cL_fails 7 = .ok (.invokevirtual 15, 3) := by decide +kernel
theorem dL_fails_10 : decode cL_fails 10 = .ok (.iconst (-1), 1) := by decide +kernel
theorem dL_fails_11 : decode cL_fails 11 = .ok (.if_icmp .ne 94, 3) := by decide +kernel
theorem dL_fails_14 : decode cL_fails 14 = .ok (.aload_n 0, 1) := by decide +kernel
theorem dL_fails_15 : decode cL_fails 15 = .ok (.iconst 0, 1) := by decide +kernel
theorem dL_fails_16 : decode cL_fails 16 = .ok (.invokevirtual 19, 3) := by decide +kernel
theorem dL_fails_19 : decode cL_fails 19 = .ok (.iconst (-1), 1) := by decide +kernel
theorem dL_fails_20 : decode cL_fails 20 = .ok (.if_icmp .ne 85, 3) := by decide +kernel
theorem dL_fails_23 : decode cL_fails 23 = .ok (.aload_n 0, 1) := by decide +kernel
theorem dL_fails_24 : decode cL_fails 24 = .ok (.bipush 19, 2) := by decide +kernel
theorem dL_fails_26 : decode cL_fails 26 = .ok (.invokevirtual 22, 3) := by decide +kernel
theorem dL_fails_29 : decode cL_fails 29 = .ok (.iconst (-1), 1) := by decide +kernel
theorem dL_fails_30 : decode cL_fails 30 = .ok (.if_icmp .ne 75, 3) := by decide +kernel
theorem dL_fails_33 : decode cL_fails 33 = .ok (.aload_n 0, 1) := by decide +kernel
theorem dL_fails_34 : decode cL_fails 34 = .ok (.iconst 4, 1) := by decide +kernel
theorem dL_fails_35 : decode cL_fails 35 = .ok (.iconst 0, 1) := by decide +kernel
theorem dL_fails_36 : decode cL_fails 36 = .ok (.invokevirtual 25, 3) := by decide +kernel
theorem dL_fails_39 : decode cL_fails 39 = .ok (.iconst (-1), 1) := by decide +kernel
theorem dL_fails_40 : decode cL_fails 40 = .ok (.if_icmp .ne 65, 3) := by decide +kernel
theorem dL_fails_43 : decode cL_fails 43 = .ok (.aload_n 0, 1) := by decide +kernel
theorem dL_fails_44 : decode cL_fails 44 = .ok (.iconst 0, 1) := by decide +kernel
theorem dL_fails_45 : decode cL_fails 45 = .ok (.bipush 96, 2) := by decide +kernel
theorem dL_fails_47 : decode cL_fails 47 = .ok (.invokevirtual 25, 3) := by decide +kernel
theorem dL_fails_50 : decode cL_fails 50 = .ok (.iconst (-1), 1) := by decide +kernel
theorem dL_fails_51 : decode cL_fails 51 = .ok (.if_icmp .ne 54, 3) := by decide +kernel
theorem dL_fails_54 : decode cL_fails 54 = .ok (.aload_n 0, 1) := by decide +kernel
theorem dL_fails_55 : decode cL_fails 55 = .ok (.iconst (-1), 1) := by decide +kernel
theorem dL_fails_56 : decode cL_fails 56 = .ok (.invokevirtual 29, 3) := by decide +kernel
theorem dL_fails_59 : decode cL_fails 59 = .ok (.iconst (-1), 1) := by decide +kernel
theorem dL_fails_60 : decode cL_fails 60 = .ok (.if_icmp .ne 45, 3) := by decide +kernel
theorem dL_fails_63 : decode cL_fails 63 = .ok (.aload_n 0, 1) := by decide +kernel
theorem dL_fails_64 : decode cL_fails 64 = .ok (.bipush 96, 2) := by decide +kernel
theorem dL_fails_66 : decode cL_fails 66 = .ok (.invokevirtual 32, 3) := by decide +kernel
theorem dL_fails_69 : decode cL_fails 69 = .ok (.iconst (-1), 1) := by decide +kernel
theorem dL_fails_70 : decode cL_fails 70 = .ok (.if_icmp .ne 35, 3) := by decide +kernel
theorem dL_fails_73 : decode cL_fails 73 = .ok (.aload_n 0, 1) := by decide +kernel
theorem dL_fails_74 : decode cL_fails 74 = .ok (.bipush 31, 2) := by decide +kernel
theorem dL_fails_76 : decode cL_fails 76 = .ok (.invokevirtual 35, 3) := by decide +kernel
theorem dL_fails_79 : decode cL_fails 79 = .ok (.iconst (-1), 1) := by decide +kernel
theorem dL_fails_80 : decode cL_fails 80 = .ok (.if_icmp .ne 25, 3) := by decide +kernel
theorem dL_fails_83 : decode cL_fails 83 = .ok (.aload_n 0, 1) := by decide +kernel
theorem dL_fails_84 : decode cL_fails 84 = .ok (.iconst (-1), 1) := by decide +kernel
theorem dL_fails_85 : decode cL_fails 85 = .ok (.invokevirtual 38, 3) := by decide +kernel
theorem dL_fails_88 : decode cL_fails 88 = .ok (.iconst (-1), 1) := by decide +kernel
theorem dL_fails_89 : decode cL_fails 89 = .ok (.if_icmp .ne 16, 3) := by decide +kernel
theorem dL_fails_92 : decode cL_fails 92 = .ok (.aload_n 0, 1) := by decide +kernel
theorem dL_fails_93 : decode cL_fails 93 = .ok (.iconst (-1), 1) := by decide +kernel
theorem dL_fails_94 : decode cL_fails 94 = .ok (.invokevirtual 41, 3) := by decide +kernel
theorem dL_fails_97 : decode cL_fails 97 = .ok (.iconst (-1), 1) := by decide +kernel
theorem dL_fails_98 : decode cL_fails 98 = .ok (.if_icmp .ne 7, 3) := by decide +kernel
theorem dL_fails_101 : decode cL_fails 101 = .ok (.iconst 1, 1) := by decide +kernel
theorem dL_fails_102 : decode cL_fails 102 = .ok (.goto 4, 3) := by decide +kernel
theorem dL_fails_105 : decode cL_fails 105 = .ok (.iconst 0, 1) := by decide +kernel
theorem dL_fails_106 : decode cL_fails 106 = .ok (.istore_n 3, 1) := by decide +kernel
theorem dL_fails_107 : decode cL_fails 107 = .ok (.iload_n 3, 1) := by decide +kernel
theorem dL_fails_108 : decode cL_fails 108 = .ok (.ifCond .eq 116, 3) := by decide +kernel
theorem dL_fails_111 : decode cL_fails 111 = .ok (.aload_n 0, 1) := by decide +kernel
theorem dL_fails_112 : decode cL_fails 112 = .ok (.aload_n 0, 1) := by decide +kernel
theorem dL_fails_113 : decode cL_fails 113 = .ok (.invokevirtual 44, 3) := by decide +kernel
theorem dL_fails_116 : decode cL_fails 116 = .ok (.invokevirtual 41, 3) := by decide +kernel
theorem dL_fails_119 : decode cL_fails 119 = .ok (.iconst (-1), 1) := by decide +kernel
theorem dL_fails_120 : decode cL_fails 120 = .ok (.if_icmp .ne 104, 3) := by decide +kernel
theorem dL_fails_123 : decode cL_fails 123 = .ok (.aload_n 0, 1) := by decide +kernel
theorem dL_fails_124 : decode cL_fails 124 = .ok (.iconst (-1), 1) := by decide +kernel
theorem dL_fails_125 : decode cL_fails 125 = .ok (.invokevirtual 48, 3) := by decide +kernel
theorem dL_fails_128 : decode cL_fails 128 = .ok (.iconst (-1), 1) := by decide +kernel
theorem dL_fails_129 : decode cL_fails 129 = .ok (.if_icmp .ne 95, 3) := by decide +kernel
theorem dL_fails_132 : decode cL_fails 132 = .ok (.aload_n 0, 1) := by decide +kernel
theorem dL_fails_133 : decode cL_fails 133 = .ok (.aload_n 0, 1) := by decide +kernel
theorem dL_fails_134 : decode cL_fails 134 = .ok (.invokevirtual 44, 3) := by decide +kernel
theorem dL_fails_137 : decode cL_fails 137 = .ok (.iconst 0, 1) := by decide +kernel
theorem dL_fails_138 : decode cL_fails 138 = .ok (.invokevirtual 51, 3) := by decide +kernel
theorem dL_fails_141 : decode cL_fails 141 = .ok (.iconst (-1), 1) := by decide +kernel
theorem dL_fails_142 : decode cL_fails 142 = .ok (.if_icmp .ne 82, 3) := by decide +kernel
theorem dL_fails_145 : decode cL_fails 145 = .ok (.aload_n 0, 1) := by decide +kernel
theorem dL_fails_146 : decode cL_fails 146 = .ok (.iconst 0, 1) := by decide +kernel
theorem dL_fails_147 : decode cL_fails 147 = .ok (.bipush 8, 2) := by decide +kernel
theorem dL_fails_149 : decode cL_fails 149 = .ok (.invokevirtual 51, 3) := by decide +kernel
theorem dL_fails_152 : decode cL_fails 152 = .ok (.iconst (-1), 1) := by decide +kernel
theorem dL_fails_153 : decode cL_fails 153 = .ok (.if_icmp .ne 71, 3) := by decide +kernel
theorem dL_fails_156 : decode cL_fails 156 = .ok (.aload_n 0, 1) := by decide +kernel
theorem dL_fails_157 : decode cL_fails 157 = .ok (.iconst 0, 1) := by decide +kernel
theorem dL_fails_158 : decode cL_fails 158 = .ok (.invokevirtual 54, 3) := by decide +kernel
theorem dL_fails_161 : decode cL_fails 161 = .ok (.iconst (-1), 1) := by decide +kernel
theorem dL_fails_162 : decode cL_fails 162 = .ok (.if_icmp .ne 62, 3) := by decide +kernel
theorem dL_fails_165 : decode cL_fails 165 = .ok (.aload_n 0, 1) := by decide +kernel
theorem dL_fails_166 : decode cL_fails 166 = .ok (.sipush 256, 3) := by decide +kernel
theorem dL_fails_169 : decode cL_fails 169 = .ok (.invokevirtual 57, 3) := by decide +kernel
theorem dL_fails_172 : decode cL_fails 172 = .ok (.iconst (-1), 1) := by decide +kernel
theorem dL_fails_173 : decode cL_fails 173 = .ok (.if_icmp .ne 51, 3) := by decide +kernel
theorem dL_fails_176 : decode cL_fails 176 = .ok (.aload_n 0, 1) := by decide +kernel
theorem dL_fails_177 : decode cL_fails 177 = .ok (.aload_n 0, 1) := by decide +kernel
theorem dL_fails_178 : decode cL_fails 178 = .ok (.invokevirtual 60, 3) := by decide +kernel
theorem dL_fails_181 : decode cL_fails 181 = .ok (.iconst 0, 1) := by decide +kernel
theorem dL_fails_182 : decode cL_fails 182 = .ok (.invokevirtual 63, 3) := by decide +kernel
theorem dL_fails_185 : decode cL_fails 185 = .ok (.iconst (-1), 1) := by decide +kernel
theorem dL_fails_186 : decode cL_fails 186 = .ok (.if_icmp .ne 38, 3) := by decide +kernel
theorem dL_fails_189 : decode cL_fails 189 = .ok (.aload_n 0, 1) := by decide +kernel
theorem dL_fails_190 : decode cL_fails 190 = .ok (.iconst 0, 1) := by decide +kernel
theorem dL_fails_191 : decode cL_fails 191 = .ok (.iconst 4, 1) := by decide +kernel
theorem dL_fails_192 : decode cL_fails 192 = .ok (.invokevirtual 63, 3) := by decide +kernel
theorem dL_fails_195 : decode cL_fails 195 = .ok (.iconst (-1), 1) := by decide +kernel
theorem dL_fails_196 : decode cL_fails 196 = .ok (.if_icmp .ne 28, 3) := by decide +kernel
theorem dL_fails_199 : decode cL_fails 199 = .ok (.aload_n 0, 1) := by decide +kernel
theorem dL_fails_200 : decode cL_fails 200 = .ok (.iconst 2, 1) := by decide +kernel
theorem dL_fails_201 : decode cL_fails 201 = .ok (.iconst 1, 1) := by decide +kernel
theorem dL_fails_202 : decode cL_fails 202 = .ok (.invokevirtual 66, 3) := by decide +kernel
theorem dL_fails_205 : decode cL_fails 205 = .ok (.iconst (-1), 1) := by decide +kernel
theorem dL_fails_206 : decode cL_fails 206 = .ok (.if_icmp .ne 18, 3) := by decide +kernel
theorem dL_fails_209 : decode cL_fails 209 = .ok (.aload_n 0, 1) := by decide +kernel
theorem dL_fails_210 : decode cL_fails 210 = .ok (.iconst 1, 1) := by decide +kernel
theorem dL_fails_211 : decode cL_fails 211 = .ok (.ldc 69, 2) := by decide +kernel
theorem dL_fails_213 : decode cL_fails 213 = .ok (.invokevirtual 66, 3) := by decide +kernel
theorem dL_fails_216 : decode cL_fails 216 = .ok (.iconst (-1), 1) := by decide +kernel
theorem dL_fails_217 : decode cL_fails 217 = .ok (.if_icmp .ne 7, 3) := by decide +kernel
theorem dL_fails_220 : decode cL_fails 220 = .ok (.iconst 1, 1) := by decide +kernel
theorem dL_fails_221 : decode cL_fails 221 = .ok (.goto 4, 3) := by decide +kernel
theorem dL_fails_224 : decode cL_fails 224 = .ok (.iconst 0, 1) := by decide +kernel
theorem dL_fails_225 : decode cL_fails 225 = .ok (.istore_n 3, 1) := by decide +kernel
theorem dL_fails_226 : decode cL_fails 226 = .ok (.iload_n 3, 1) := by decide +kernel
theorem dL_fails_227 : decode cL_fails 227 = .ok (.ifCond .eq 16, 3) := by decide +kernel
theorem dL_fails_230 : decode cL_fails 230 = .ok (.aload_n 0, 1) := by decide +kernel
theorem dL_fails_231 : decode cL_fails 231 = .ok (.invokevirtual 9, 3) := by decide +kernel
theorem dL_fails_234 : decode cL_fails 234 = .ok (.lload_n 1, 1) := by decide +kernel
theorem dL_fails_235 : decode cL_fails 235 = .ok (.lcmp, 1) := by decide +kernel
theorem dL_fails_236 : decode cL_fails 236 = .ok (.ifCond .ne 7, 3) := by decide +kernel
theorem dL_fails_239 : decode cL_fails 239 = .ok (.iconst 1, 1) := by decide +kernel
theorem dL_fails_240 : decode cL_fails 240 = .ok (.goto 4, 3) := by decide +kernel
theorem dL_fails_243 : decode cL_fails 243 = .ok (.iconst 0, 1) := by decide +kernel
theorem dL_fails_244 : decode cL_fails 244 = .ok (.ireturn, 1) := by decide +kernel
theorem dL_types_0 : decode cL_types 0 = .ok (.aload_n 0, 1) := by decide +kernel
theorem dL_types_1 : decode cL_types 1 = .ok (.iconst 0, 1) := by decide +kernel
theorem dL_types_2 : decode cL_types 2 = .ok (.invokevirtual 38, 3) := by decide +kernel
theorem dL_types_5 : decode cL_types 5 = .ok (.istore 4, 2) := by decide +kernel
theorem dL_types_7 : decode cL_types 7 = .ok (.iconst 0, 1) := by decide +kernel
theorem dL_types_8 : decode cL_types 8 = .ok (.istore 5, 2) := by decide +kernel
theorem dL_types_10 : decode cL_types 10 = .ok (.iload 5, 2) := by decide +kernel
theorem dL_types_12 : decode cL_types 12 = .ok (.iload_n 2, 1) := by decide +kernel
theorem dL_types_13 : decode cL_types 13 = .ok (.if_icmp .ge 61, 3) := by decide +kernel
theorem dL_types_16 : decode cL_types 16 = .ok (.bipush 97, 2) := by decide +kernel
theorem dL_types_18 : decode cL_types 18 = .ok (.iload_n 1, 1) := by decide +kernel
theorem dL_types_19 : decode cL_types 19 = .ok (.iconst 3, 1) := by decide +kernel
theorem dL_types_20 : decode cL_types 20 = .ok (.iload 5, 2) := by decide +kernel
theorem dL_types_22 : decode cL_types 22 = .ok (.bipush 8, 2) := by decide +kernel
theorem dL_types_24 : decode cL_types 24 = .ok (.irem, 1) := by decide +kernel
theorem dL_types_25 : decode cL_types 25 = .ok (.imul, 1) := by decide +kernel
theorem dL_types_26 : decode cL_types 26 = .ok (.ishr, 1) := by decide +kernel
theorem dL_types_27 : decode cL_types 27 = .ok (.iload_n 3, 1) := by decide +kernel
theorem dL_types_28 : decode cL_types 28 = .ok (.invokestatic 70, 3) := by decide +kernel
theorem dL_types_31 : decode cL_types 31 = .ok (.iadd, 1) := by decide +kernel
theorem dL_types_32 : decode cL_types 32 = .ok (.istore 6, 2) := by decide +kernel
theorem dL_types_34 : decode cL_types 34 = .ok (.iload 5, 2) := by decide +kernel
theorem dL_types_36 : decode cL_types 36 = .ok (.bipush 7, 2) := by decide +kernel
theorem dL_types_38 : decode cL_types 38 = .ok (.iand, 1) := by decide +kernel
theorem dL_types_39 : decode cL_types 39 = .ok (.bipush 7, 2) := by decide +kernel
theorem dL_types_41 : decode cL_types 41 = .ok (.if_icmp .ne 19, 3) := by decide +kernel
theorem dL_types_44 : decode cL_types 44 = .ok (.iload_n 1, 1) := by decide +kernel
theorem dL_types_45 : decode cL_types 45 = .ok (.bipush 16, 2) := by decide +kernel
theorem dL_types_47 : decode cL_types 47 = .ok (.iand, 1) := by decide +kernel
theorem dL_types_48 : decode cL_types 48 = .ok (.ifCond .eq 12, 3) := by decide +kernel
theorem dL_types_51 : decode cL_types 51 = .ok (.aload_n 0, 1) := by decide +kernel
theorem dL_types_52 : decode cL_types 52 = .ok (.bipush 32, 2) := by decide +kernel
theorem dL_types_54 : decode cL_types 54 = .ok (.invokevirtual 35, 3) := by decide +kernel
theorem dL_types_57 : decode cL_types 57 = .ok (.goto 9, 3) := by decide +kernel
theorem dL_types_60 : decode cL_types 60 = .ok (.aload_n 0, 1) := by decide +kernel
theorem dL_types_61 : decode cL_types 61 = .ok (.iload 6, 2) := by decide +kernel
theorem dL_types_63 : decode cL_types 63 = .ok (.invokevirtual 35, 3) := by decide +kernel
theorem dL_types_66 : decode cL_types 66 = .ok (.istore 4, 2) := by decide +kernel
theorem dL_types_68 : decode cL_types 68 = .ok (.iinc 5 1, 3) := by decide +kernel
theorem dL_types_71 : decode cL_types 71 = .ok (.goto (-61), 3) := by decide +kernel
theorem dL_types_74 : decode cL_types 74 = .ok (.iload 4, 2) := by decide +kernel
theorem dL_types_76 : decode cL_types 76 = .ok (.ireturn, 1) := by decide +kernel
theorem dL_codes_0 : decode cL_codes 0 = .ok (.aload_n 0, 1) := by decide +kernel
theorem dL_codes_1 : decode cL_codes 1 = .ok (.invokevirtual 75, 3) := by decide +kernel
theorem dL_codes_4 : decode cL_codes 4 = .ok (.istore_n 2, 1) := by decide +kernel
theorem dL_codes_5 : decode cL_codes 5 = .ok (.iload_n 2, 1) := by decide +kernel
theorem dL_codes_6 : decode cL_codes 6 = .ok (.ifCond .lt 42, 3) := by decide +kernel
theorem dL_codes_9 : decode cL_codes 9 = .ok (.iload_n 2, 1) := by decide +kernel
theorem dL_codes_10 : decode cL_codes 10 = .ok (.sipush 400, 3) := by decide +kernel
theorem dL_codes_13 : decode cL_codes 13 = .ok (.if_icmp .gt 35, 3) := by decide +kernel
theorem dL_codes_16 : decode cL_codes 16 = .ok (.aload_n 0, 1) := by decide +kernel
theorem dL_codes_17 : decode cL_codes 17 = .ok (.invokevirtual 44, 3) := by decide +kernel
theorem dL_codes_20 : decode cL_codes 20 = .ok (.iload_n 2, 1) := by decide +kernel
theorem dL_codes_21 : decode cL_codes 21 = .ok (.if_icmp .ne 27, 3) := by decide +kernel
theorem dL_codes_24 : decode cL_codes 24 = .ok (.iload_n 2, 1) := by decide +kernel
theorem dL_codes_25 : decode cL_codes 25 = .ok (.ifCond .le 13, 3) := by decide +kernel
theorem dL_codes_28 : decode cL_codes 28 = .ok (.aload_n 0, 1) := by decide +kernel
theorem dL_codes_29 : decode cL_codes 29 = .ok (.iload_n 2, 1) := by decide +kernel
theorem dL_codes_30 : decode cL_codes 30 = .ok (.iconst 1, 1) := by decide +kernel
theorem dL_codes_31 : decode cL_codes 31 = .ok (.isub, 1) := by decide +kernel
theorem dL_codes_32 : decode cL_codes 32 = .ok (.invokevirtual 41, 3) := by decide +kernel
theorem dL_codes_35 : decode cL_codes 35 = .ok (.ifCond .eq 13, 3) := by decide +kernel
theorem dL_codes_38 : decode cL_codes 38 = .ok (.aload_n 0, 1) := by decide +kernel
theorem dL_codes_39 : decode cL_codes 39 = .ok (.invokevirtual 60, 3) := by decide +kernel
theorem dL_codes_42 : decode cL_codes 42 = .ok (.iload_n 1, 1) := by decide +kernel
theorem dL_codes_43 : decode cL_codes 43 = .ok (.iconst 1, 1) := by decide +kernel
theorem dL_codes_44 : decode cL_codes 44 = .ok (.iadd, 1) := by decide +kernel
theorem dL_codes_45 : decode cL_codes 45 = .ok (.if_icmp .eq 5, 3) := by decide +kernel
theorem dL_codes_48 : decode cL_codes 48 = .ok (.iconst 0, 1) := by decide +kernel
theorem dL_codes_49 : decode cL_codes 49 = .ok (.ireturn, 1) := by decide +kernel
theorem dL_codes_50 : decode cL_codes 50 = .ok (.iconst 0, 1) := by decide +kernel
theorem dL_codes_51 : decode cL_codes 51 = .ok (.istore_n 3, 1) := by decide +kernel
theorem dL_codes_52 : decode cL_codes 52 = .ok (.iconst 0, 1) := by decide +kernel
theorem dL_codes_53 : decode cL_codes 53 = .ok (.istore 4, 2) := by decide +kernel
theorem dL_codes_55 : decode cL_codes 55 = .ok (.iload 4, 2) := by decide +kernel
theorem dL_codes_57 : decode cL_codes 57 = .ok (.iload_n 1, 1) := by decide +kernel
theorem dL_codes_58 : decode cL_codes 58 = .ok (.if_icmp .gt 125, 3) := by decide +kernel
theorem dL_codes_61 : decode cL_codes 61 = .ok (.aload_n 0, 1) := by decide +kernel
theorem dL_codes_62 : decode cL_codes 62 = .ok (.iload 4, 2) := by decide +kernel
theorem dL_codes_64 : decode cL_codes 64 = .ok (.iconst 0, 1) := by decide +kernel
theorem dL_codes_65 : decode cL_codes 65 = .ok (.invokevirtual 63, 3) := by decide +kernel
theorem dL_codes_68 : decode cL_codes 68 = .ok (.istore 5, 2) := by decide +kernel
theorem dL_codes_70 : decode cL_codes 70 = .ok (.aload_n 0, 1) := by decide +kernel
theorem dL_codes_71 : decode cL_codes 71 = .ok (.iload 4, 2) := by decide +kernel
theorem dL_codes_73 : decode cL_codes 73 = .ok (.iconst 1, 1) := by decide +kernel
theorem dL_codes_74 : decode cL_codes 74 = .ok (.invokevirtual 63, 3) := by decide +kernel
theorem dL_codes_77 : decode cL_codes 77 = .ok (.istore 6, 2) := by decide +kernel
theorem dL_codes_79 : decode cL_codes 79 = .ok (.aload_n 0, 1) := by decide +kernel
theorem dL_codes_80 : decode cL_codes 80 = .ok (.iload 4, 2) := by decide +kernel
theorem dL_codes_82 : decode cL_codes 82 = .ok (.iconst 2, 1) := by decide +kernel
theorem dL_codes_83 : decode cL_codes 83 = .ok (.invokevirtual 63, 3) := by decide +kernel
theorem dL_codes_86 : decode cL_codes 86 = .ok (.istore 7, 2) := by decide +kernel
theorem dL_codes_88 : decode cL_codes 88 = .ok (.aload_n 0, 1) := by decide +kernel
theorem dL_codes_89 : decode cL_codes 89 = .ok (.iload 4, 2) := by decide +kernel
theorem dL_codes_91 : decode cL_codes 91 = .ok (.iconst 3, 1) := by decide +kernel
theorem dL_codes_92 : decode cL_codes 92 = .ok (.invokevirtual 63, 3) := by decide +kernel
theorem dL_codes_95 : decode cL_codes 95 = .ok (.istore 8, 2) := by decide +kernel
theorem dL_codes_97 : decode cL_codes 97 = .ok (.iload 5, 2) := by decide +kernel
theorem dL_codes_99 : decode cL_codes 99 = .ok (.ifCond .lt 71, 3) := by decide +kernel
theorem dL_codes_102 : decode cL_codes 102 = .ok (.iload 6, 2) := by decide +kernel
theorem dL_codes_104 : decode cL_codes 104 = .ok (.ifCond .lt 66, 3) := by decide +kernel
theorem dL_codes_107 : decode cL_codes 107 = .ok (.iload 6, 2) := by decide +kernel
theorem dL_codes_109 : decode cL_codes 109 = .ok (.iconst 4, 1) := by decide +kernel
theorem dL_codes_110 : decode cL_codes 110 = .ok (.if_icmp .gt 60, 3) := by decide +kernel
theorem dL_codes_113 : decode cL_codes 113 = .ok (.iload 7, 2) := by decide +kernel
theorem dL_codes_115 : decode cL_codes 115 = .ok (.iconst (-1), 1) := by decide +kernel
theorem dL_codes_116 : decode cL_codes 116 = .ok (.if_icmp .lt 54, 3) := by decide +kernel
theorem dL_codes_119 : decode cL_codes 119 = .ok (.iload 7, 2) := by decide +kernel
theorem dL_codes_121 : decode cL_codes 121 = .ok (.iconst 3, 1) := by decide +kernel
theorem dL_codes_122 : decode cL_codes 122 = .ok (.if_icmp .gt 48, 3) := by decide +kernel
theorem dL_codes_125 : decode cL_codes 125 = .ok (.iload 7, 2) := by decide +kernel
theorem dL_codes_127 : decode cL_codes 127 = .ok (.iload 4, 2) := by decide +kernel
theorem dL_codes_129 : decode cL_codes 129 = .ok (.if_icmp .gt 41, 3) := by decide +kernel
theorem dL_codes_132 : decode cL_codes 132 = .ok (.iload 8, 2) := by decide +kernel
theorem dL_codes_134 : decode cL_codes 134 = .ok (.ifCond .lt 36, 3) := by decide +kernel
theorem dL_codes_137 : decode cL_codes 137 = .ok (.iload 8, 2) := by decide +kernel
theorem dL_codes_139 : decode cL_codes 139 = .ok (.bipush 95, 2) := by decide +kernel
theorem dL_codes_141 : decode cL_codes 141 = .ok (.if_icmp .gt 29, 3) := by decide +kernel
theorem dL_codes_144 : decode cL_codes 144 = .ok (.iload 4, 2) := by decide +kernel
theorem dL_codes_146 : decode cL_codes 146 = .ok (.iload_n 1, 1) := by decide +kernel
theorem dL_codes_147 : decode cL_codes 147 = .ok (.if_icmp .ne 7, 3) := by decide +kernel
theorem dL_codes_150 : decode cL_codes 150 = .ok (.iconst 1, 1) := by decide +kernel
theorem dL_codes_151 : decode cL_codes 151 = .ok (.goto 4, 3) := by decide +kernel
theorem dL_codes_154 : decode cL_codes 154 = .ok (.iconst 0, 1) := by decide +kernel
theorem dL_codes_155 : decode cL_codes 155 = .ok (.iload 8, 2) := by decide +kernel
theorem dL_codes_157 : decode cL_codes 157 = .ok (.bipush 95, 2) := by decide +kernel
theorem dL_codes_159 : decode cL_codes 159 = .ok (.if_icmp .ne 7, 3) := by decide +kernel
theorem dL_codes_162 : decode cL_codes 162 = .ok (.iconst 1, 1) := by decide +kernel
theorem dL_codes_163 : decode cL_codes 163 = .ok (.goto 4, 3) := by decide +kernel
theorem dL_codes_166 : decode cL_codes 166 = .ok (.iconst 0, 1) := by decide +kernel
theorem dL_codes_167 : decode cL_codes 167 = .ok (.if_icmp .eq 5, 3) := by decide +kernel
theorem dL_codes_170 : decode cL_codes 170 = .ok (.iconst 0, 1) := by decide +kernel
theorem dL_codes_171 : decode cL_codes 171 = .ok (.ireturn, 1) := by decide +kernel
theorem dL_codes_172 : decode cL_codes 172 = .ok (.iload_n 3, 1) := by decide +kernel
theorem dL_codes_173 : decode cL_codes 173 = .ok (.iload 5, 2) := by decide +kernel
theorem dL_codes_175 : decode cL_codes 175 = .ok (.iadd, 1) := by decide +kernel
theorem dL_codes_176 : decode cL_codes 176 = .ok (.istore_n 3, 1) := by decide +kernel
theorem dL_codes_177 : decode cL_codes 177 = .ok (.iinc 4 1, 3) := by decide +kernel
theorem dL_codes_180 : decode cL_codes 180 = .ok (.goto (-125), 3) := by decide +kernel
theorem dL_codes_183 : decode cL_codes 183 = .ok (.aload_n 0, 1) := by decide +kernel
theorem dL_codes_184 : decode cL_codes 184 = .ok (.invokevirtual 78, 3) := by decide +kernel
theorem dL_codes_187 : decode cL_codes 187 = .ok (.iload_n 3, 1) := by decide +kernel
theorem dL_codes_188 : decode cL_codes 188 = .ok (.if_icmp .ne 32, 3) := by decide +kernel
theorem dL_codes_191 : decode cL_codes 191 = .ok (.aload_n 0, 1) := by decide +kernel
theorem dL_codes_192 : decode cL_codes 192 = .ok (.invokevirtual 81, 3) := by decide +kernel
theorem dL_codes_195 : decode cL_codes 195 = .ok (.ifCond .lt 25, 3) := by decide +kernel
theorem dL_codes_198 : decode cL_codes 198 = .ok (.aload_n 0, 1) := by decide +kernel
theorem dL_codes_199 : decode cL_codes 199 = .ok (.invokevirtual 84, 3) := by decide +kernel
theorem dL_codes_202 : decode cL_codes 202 = .ok (.iconst 1, 1) := by decide +kernel
theorem dL_codes_203 : decode cL_codes 203 = .ok (.if_icmp .lt 17, 3) := by decide +kernel
theorem dL_codes_206 : decode cL_codes 206 = .ok (.aload_n 0, 1) := by decide +kernel
theorem dL_codes_207 : decode cL_codes 207 = .ok (.invokevirtual 84, 3) := by decide +kernel
theorem dL_codes_210 : decode cL_codes 210 = .ok (.sipush 250, 3) := by decide +kernel
theorem dL_codes_213 : decode cL_codes 213 = .ok (.if_icmp .gt 7, 3) := by decide +kernel
theorem dL_codes_216 : decode cL_codes 216 = .ok (.iconst 1, 1) := by decide +kernel
theorem dL_codes_217 : decode cL_codes 217 = .ok (.goto 4, 3) := by decide +kernel
theorem dL_codes_220 : decode cL_codes 220 = .ok (.iconst 0, 1) := by decide +kernel
theorem dL_codes_221 : decode cL_codes 221 = .ok (.ireturn, 1) := by decide +kernel
theorem dL_decodes_0 : decode cL_decodes 0 = .ok (.aload_n 0, 1) := by decide +kernel
theorem dL_decodes_1 : decode cL_decodes 1 = .ok (.invokevirtual 44, 3) := by decide +kernel
theorem dL_decodes_4 : decode cL_decodes 4 = .ok (.istore_n 2, 1) := by decide +kernel
theorem dL_decodes_5 : decode cL_decodes 5 = .ok (.bipush 64, 2) := by decide +kernel
theorem dL_decodes_7 : decode cL_decodes 7 = .ok (.newarray .int, 2) := by decide +kernel
theorem dL_decodes_9 : decode cL_decodes 9 = .ok (.astore_n 3, 1) := by decide +kernel
theorem dL_decodes_10 : decode cL_decodes 10 = .ok (.iload_n 2, 1) := by decide +kernel
theorem dL_decodes_11 : decode cL_decodes 11 = .ok (.bipush 64, 2) := by decide +kernel
theorem dL_decodes_13 : decode cL_decodes 13 = .ok (.if_icmp .le 5, 3) := by decide +kernel
theorem dL_decodes_16 : decode cL_decodes 16 = .ok (.iconst 1, 1) := by decide +kernel
theorem dL_decodes_17 : decode cL_decodes 17 = .ok (.ireturn, 1) := by decide +kernel
theorem dL_decodes_18 : decode cL_decodes 18 = .ok (.iconst 0, 1) := by decide +kernel
theorem dL_decodes_19 : decode cL_decodes 19 = .ok (.istore 4, 2) := by decide +kernel
theorem dL_decodes_21 : decode cL_decodes 21 = .ok (.iload 4, 2) := by decide +kernel
theorem dL_decodes_23 : decode cL_decodes 23 = .ok (.iload_n 2, 1) := by decide +kernel
theorem dL_decodes_24 : decode cL_decodes 24 = .ok (.if_icmp .ge 19, 3) := by decide +kernel
theorem dL_decodes_27 : decode cL_decodes 27 = .ok (.aload_n 3, 1) := by decide +kernel
theorem dL_decodes_28 : decode cL_decodes 28 = .ok (.iload 4, 2) := by decide +kernel
theorem dL_decodes_30 : decode cL_decodes 30 = .ok (.aload_n 0, 1) := by decide +kernel
theorem dL_decodes_31 : decode cL_decodes 31 = .ok (.iload 4, 2) := by decide +kernel
theorem dL_decodes_33 : decode cL_decodes 33 = .ok (.invokevirtual 41, 3) := by decide +kernel
theorem dL_decodes_36 : decode cL_decodes 36 = .ok (.iastore, 1) := by decide +kernel
theorem dL_decodes_37 : decode cL_decodes 37 = .ok (.iinc 4 1, 3) := by decide +kernel
theorem dL_decodes_40 : decode cL_decodes 40 = .ok (.goto (-19), 3) := by decide +kernel
theorem dL_decodes_43 : decode cL_decodes 43 = .ok (.aload_n 0, 1) := by decide +kernel
theorem dL_decodes_44 : decode cL_decodes 44 = .ok (.invokevirtual 87, 3) := by decide +kernel
theorem dL_decodes_47 : decode cL_decodes 47 = .ok (.ifCond .ge 5, 3) := by decide +kernel
theorem dL_decodes_50 : decode cL_decodes 50 = .ok (.iconst 0, 1) := by decide +kernel
theorem dL_decodes_51 : decode cL_decodes 51 = .ok (.ireturn, 1) := by decide +kernel
theorem dL_decodes_52 : decode cL_decodes 52 = .ok (.aload_n 0, 1) := by decide +kernel
theorem dL_decodes_53 : decode cL_decodes 53 = .ok (.invokevirtual 44, 3) := by decide +kernel
theorem dL_decodes_56 : decode cL_decodes 56 = .ok (.istore 4, 2) := by decide +kernel
theorem dL_decodes_58 : decode cL_decodes 58 = .ok (.iload 4, 2) := by decide +kernel
theorem dL_decodes_60 : decode cL_decodes 60 = .ok (.ifCond .le 14, 3) := by decide +kernel
theorem dL_decodes_63 : decode cL_decodes 63 = .ok (.aload_n 0, 1) := by decide +kernel
theorem dL_decodes_64 : decode cL_decodes 64 = .ok (.iload 4, 2) := by decide +kernel
theorem dL_decodes_66 : decode cL_decodes 66 = .ok (.invokevirtual 54, 3) := by decide +kernel
theorem dL_decodes_69 : decode cL_decodes 69 = .ok (.ifCond .eq 5, 3) := by decide +kernel
theorem dL_decodes_72 : decode cL_decodes 72 = .ok (.iconst 0, 1) := by decide +kernel
theorem dL_decodes_73 : decode cL_decodes 73 = .ok (.ireturn, 1) := by decide +kernel
theorem dL_decodes_74 : decode cL_decodes 74 = .ok (.iconst 0, 1) := by decide +kernel
theorem dL_decodes_75 : decode cL_decodes 75 = .ok (.istore 5, 2) := by decide +kernel
theorem dL_decodes_77 : decode cL_decodes 77 = .ok (.iload 5, 2) := by decide +kernel
theorem dL_decodes_79 : decode cL_decodes 79 = .ok (.iload_n 2, 1) := by decide +kernel
theorem dL_decodes_80 : decode cL_decodes 80 = .ok (.if_icmp .ge 26, 3) := by decide +kernel
theorem dL_decodes_83 : decode cL_decodes 83 = .ok (.aload_n 0, 1) := by decide +kernel
theorem dL_decodes_84 : decode cL_decodes 84 = .ok (.aload_n 3, 1) := by decide +kernel
theorem dL_decodes_85 : decode cL_decodes 85 = .ok (.iload 5, 2) := by decide +kernel
theorem dL_decodes_87 : decode cL_decodes 87 = .ok (.iaload, 1) := by decide +kernel
theorem dL_decodes_88 : decode cL_decodes 88 = .ok (.invokevirtual 57, 3) := by decide +kernel
theorem dL_decodes_91 : decode cL_decodes 91 = .ok (.iload 5, 2) := by decide +kernel
theorem dL_decodes_93 : decode cL_decodes 93 = .ok (.iconst 1, 1) := by decide +kernel
theorem dL_decodes_94 : decode cL_decodes 94 = .ok (.iadd, 1) := by decide +kernel
theorem dL_decodes_95 : decode cL_decodes 95 = .ok (.if_icmp .eq 5, 3) := by decide +kernel
theorem dL_decodes_98 : decode cL_decodes 98 = .ok (.iconst 0, 1) := by decide +kernel
theorem dL_decodes_99 : decode cL_decodes 99 = .ok (.ireturn, 1) := by decide +kernel
theorem dL_decodes_100 : decode cL_decodes 100 = .ok (.iinc 5 1, 3) := by decide +kernel
theorem dL_decodes_103 : decode cL_decodes 103 = .ok (.goto (-26), 3) := by decide +kernel
theorem dL_decodes_106 : decode cL_decodes 106 = .ok (.aload_n 0, 1) := by decide +kernel
theorem dL_decodes_107 : decode cL_decodes 107 = .ok (.invokevirtual 90, 3) := by decide +kernel
theorem dL_decodes_110 : decode cL_decodes 110 = .ok (.istore 5, 2) := by decide +kernel
theorem dL_decodes_112 : decode cL_decodes 112 = .ok (.iload 5, 2) := by decide +kernel
theorem dL_decodes_114 : decode cL_decodes 114 = .ok (.iload_n 1, 1) := by decide +kernel
theorem dL_decodes_115 : decode cL_decodes 115 = .ok (.if_icmp .ne 13, 3) := by decide +kernel
theorem dL_decodes_118 : decode cL_decodes 118 = .ok (.aload_n 0, 1) := by decide +kernel
theorem dL_decodes_119 : decode cL_decodes 119 = .ok (.iload_n 1, 1) := by decide +kernel
theorem dL_decodes_120 : decode cL_decodes 120 = .ok (.invokevirtual 48, 3) := by decide +kernel
theorem dL_decodes_123 : decode cL_decodes 123 = .ok (.bipush (-9), 2) := by decide +kernel
theorem dL_decodes_125 : decode cL_decodes 125 = .ok (.if_icmp .eq 5, 3) := by decide +kernel
theorem dL_decodes_128 : decode cL_decodes 128 = .ok (.iconst 0, 1) := by decide +kernel
theorem dL_decodes_129 : decode cL_decodes 129 = .ok (.ireturn, 1) := by decide +kernel
theorem dL_decodes_130 : decode cL_decodes 130 = .ok (.iconst 0, 1) := by decide +kernel
theorem dL_decodes_131 : decode cL_decodes 131 = .ok (.istore 6, 2) := by decide +kernel
theorem dL_decodes_133 : decode cL_decodes 133 = .ok (.iconst 0, 1) := by decide +kernel
theorem dL_decodes_134 : decode cL_decodes 134 = .ok (.istore 7, 2) := by decide +kernel
theorem dL_decodes_136 : decode cL_decodes 136 = .ok (.iload 7, 2) := by decide +kernel
theorem dL_decodes_138 : decode cL_decodes 138 = .ok (.iload_n 2, 1) := by decide +kernel
theorem dL_decodes_139 : decode cL_decodes 139 = .ok (.if_icmp .ge 30, 3) := by decide +kernel
theorem dL_decodes_142 : decode cL_decodes 142 = .ok (.aload_n 0, 1) := by decide +kernel
theorem dL_decodes_143 : decode cL_decodes 143 = .ok (.iload 7, 2) := by decide +kernel
theorem dL_decodes_145 : decode cL_decodes 145 = .ok (.invokevirtual 41, 3) := by decide +kernel
theorem dL_decodes_148 : decode cL_decodes 148 = .ok (.aload_n 3, 1) := by decide +kernel
theorem dL_decodes_149 : decode cL_decodes 149 = .ok (.iload 7, 2) := by decide +kernel
theorem dL_decodes_151 : decode cL_decodes 151 = .ok (.iaload, 1) := by decide +kernel
theorem dL_decodes_152 : decode cL_decodes 152 = .ok (.if_icmp .ne 8, 3) := by decide +kernel
theorem dL_decodes_155 : decode cL_decodes 155 = .ok (.iload 6, 2) := by decide +kernel
theorem dL_decodes_157 : decode cL_decodes 157 = .ok (.goto 4, 3) := by decide +kernel
theorem dL_decodes_160 : decode cL_decodes 160 = .ok (.iconst 1, 1) := by decide +kernel
theorem dL_decodes_161 : decode cL_decodes 161 = .ok (.istore 6, 2) := by decide +kernel
theorem dL_decodes_163 : decode cL_decodes 163 = .ok (.iinc 7 1, 3) := by decide +kernel
theorem dL_decodes_166 : decode cL_decodes 166 = .ok (.goto (-30), 3) := by decide +kernel
theorem dL_decodes_169 : decode cL_decodes 169 = .ok (.iload 6, 2) := by decide +kernel
theorem dL_decodes_171 : decode cL_decodes 171 = .ok (.ifCond .ne 7, 3) := by decide +kernel
theorem dL_decodes_174 : decode cL_decodes 174 = .ok (.iconst 1, 1) := by decide +kernel
theorem dL_decodes_175 : decode cL_decodes 175 = .ok (.goto 4, 3) := by decide +kernel
theorem dL_decodes_178 : decode cL_decodes 178 = .ok (.iconst 0, 1) := by decide +kernel
theorem dL_decodes_179 : decode cL_decodes 179 = .ok (.ireturn, 1) := by decide +kernel
theorem dL_agrees_0 : decode cL_agrees 0 = .ok (.iconst 0, 1) := by decide +kernel
theorem dL_agrees_1 : decode cL_agrees 1 = .ok (.istore 4, 2) := by decide +kernel
theorem dL_agrees_3 : decode cL_agrees 3 = .ok (.iload 4, 2) := by decide +kernel
theorem dL_agrees_5 : decode cL_agrees 5 = .ok (.iload_n 2, 1) := by decide +kernel
theorem dL_agrees_6 : decode cL_agrees 6 = .ok (.if_icmp .ge 62, 3) := by decide +kernel
theorem dL_agrees_9 : decode cL_agrees 9 = .ok (.bipush 97, 2) := by decide +kernel
theorem dL_agrees_11 : decode cL_agrees 11 = .ok (.iload_n 1, 1) := by decide +kernel
theorem dL_agrees_12 : decode cL_agrees 12 = .ok (.iconst 3, 1) := by decide +kernel
theorem dL_agrees_13 : decode cL_agrees 13 = .ok (.iload 4, 2) := by decide +kernel
theorem dL_agrees_15 : decode cL_agrees 15 = .ok (.bipush 8, 2) := by decide +kernel
theorem dL_agrees_17 : decode cL_agrees 17 = .ok (.irem, 1) := by decide +kernel
theorem dL_agrees_18 : decode cL_agrees 18 = .ok (.imul, 1) := by decide +kernel
theorem dL_agrees_19 : decode cL_agrees 19 = .ok (.ishr, 1) := by decide +kernel
theorem dL_agrees_20 : decode cL_agrees 20 = .ok (.iload_n 3, 1) := by decide +kernel
theorem dL_agrees_21 : decode cL_agrees 21 = .ok (.invokestatic 70, 3) := by decide +kernel
theorem dL_agrees_24 : decode cL_agrees 24 = .ok (.iadd, 1) := by decide +kernel
theorem dL_agrees_25 : decode cL_agrees 25 = .ok (.istore 5, 2) := by decide +kernel
theorem dL_agrees_27 : decode cL_agrees 27 = .ok (.aload_n 0, 1) := by decide +kernel
theorem dL_agrees_28 : decode cL_agrees 28 = .ok (.iload 4, 2) := by decide +kernel
theorem dL_agrees_30 : decode cL_agrees 30 = .ok (.invokevirtual 48, 3) := by decide +kernel
theorem dL_agrees_33 : decode cL_agrees 33 = .ok (.iload 4, 2) := by decide +kernel
theorem dL_agrees_35 : decode cL_agrees 35 = .ok (.bipush 7, 2) := by decide +kernel
theorem dL_agrees_37 : decode cL_agrees 37 = .ok (.iand, 1) := by decide +kernel
theorem dL_agrees_38 : decode cL_agrees 38 = .ok (.bipush 7, 2) := by decide +kernel
theorem dL_agrees_40 : decode cL_agrees 40 = .ok (.if_icmp .ne 15, 3) := by decide +kernel
theorem dL_agrees_43 : decode cL_agrees 43 = .ok (.iload_n 1, 1) := by decide +kernel
theorem dL_agrees_44 : decode cL_agrees 44 = .ok (.bipush 16, 2) := by decide +kernel
theorem dL_agrees_46 : decode cL_agrees 46 = .ok (.iand, 1) := by decide +kernel
theorem dL_agrees_47 : decode cL_agrees 47 = .ok (.ifCond .eq 8, 3) := by decide +kernel
theorem dL_agrees_50 : decode cL_agrees 50 = .ok (.bipush 32, 2) := by decide +kernel
theorem dL_agrees_52 : decode cL_agrees 52 = .ok (.goto 5, 3) := by decide +kernel
theorem dL_agrees_55 : decode cL_agrees 55 = .ok (.iload 5, 2) := by decide +kernel
theorem dL_agrees_57 : decode cL_agrees 57 = .ok (.if_icmp .eq 5, 3) := by decide +kernel
theorem dL_agrees_60 : decode cL_agrees 60 = .ok (.iconst 0, 1) := by decide +kernel
theorem dL_agrees_61 : decode cL_agrees 61 = .ok (.ireturn, 1) := by decide +kernel
theorem dL_agrees_62 : decode cL_agrees 62 = .ok (.iinc 4 1, 3) := by decide +kernel
theorem dL_agrees_65 : decode cL_agrees 65 = .ok (.goto (-62), 3) := by decide +kernel
theorem dL_agrees_68 : decode cL_agrees 68 = .ok (.iconst 1, 1) := by decide +kernel
theorem dL_agrees_69 : decode cL_agrees 69 = .ok (.ireturn, 1) := by decide +kernel
theorem dL_damages_0 : decode cL_damages 0 = .ok (.aload_n 0, 1) := by decide +kernel
theorem dL_damages_1 : decode cL_damages 1 = .ok (.invokevirtual 44, 3) := by decide +kernel
theorem dL_damages_4 : decode cL_damages 4 = .ok (.istore_n 2, 1) := by decide +kernel
theorem dL_damages_5 : decode cL_damages 5 = .ok (.iload_n 2, 1) := by decide +kernel
theorem dL_damages_6 : decode cL_damages 6 = .ok (.ifCond .ne 5, 3) := by decide +kernel
theorem dL_damages_9 : decode cL_damages 9 = .ok (.iconst 1, 1) := by decide +kernel
theorem dL_damages_10 : decode cL_damages 10 = .ok (.ireturn, 1) := by decide +kernel
theorem dL_damages_11 : decode cL_damages 11 = .ok (.iload_n 1, 1) := by decide +kernel
theorem dL_damages_12 : decode cL_damages 12 = .ok (.iload_n 2, 1) := by decide +kernel
theorem dL_damages_13 : decode cL_damages 13 = .ok (.invokestatic 70, 3) := by decide +kernel
theorem dL_damages_16 : decode cL_damages 16 = .ok (.istore_n 3, 1) := by decide +kernel
theorem dL_damages_17 : decode cL_damages 17 = .ok (.iload_n 1, 1) := by decide +kernel
theorem dL_damages_18 : decode cL_damages 18 = .ok (.bipush 7, 2) := by decide +kernel
theorem dL_damages_20 : decode cL_damages 20 = .ok (.ishr, 1) := by decide +kernel
theorem dL_damages_21 : decode cL_damages 21 = .ok (.bipush 8, 2) := by decide +kernel
theorem dL_damages_23 : decode cL_damages 23 = .ok (.invokestatic 70, 3) := by decide +kernel
theorem dL_damages_26 : decode cL_damages 26 = .ok (.istore 4, 2) := by decide +kernel
theorem dL_damages_28 : decode cL_damages 28 = .ok (.aload_n 0, 1) := by decide +kernel
theorem dL_damages_29 : decode cL_damages 29 = .ok (.iload_n 3, 1) := by decide +kernel
theorem dL_damages_30 : decode cL_damages 30 = .ok (.invokevirtual 41, 3) := by decide +kernel
theorem dL_damages_33 : decode cL_damages 33 = .ok (.istore 5, 2) := by decide +kernel
theorem dL_damages_35 : decode cL_damages 35 = .ok (.aload_n 0, 1) := by decide +kernel
theorem dL_damages_36 : decode cL_damages 36 = .ok (.iload_n 3, 1) := by decide +kernel
theorem dL_damages_37 : decode cL_damages 37 = .ok (.iload 4, 2) := by decide +kernel
theorem dL_damages_39 : decode cL_damages 39 = .ok (.invokevirtual 51, 3) := by decide +kernel
theorem dL_damages_42 : decode cL_damages 42 = .ok (.istore 6, 2) := by decide +kernel
theorem dL_damages_44 : decode cL_damages 44 = .ok (.iload 6, 2) := by decide +kernel
theorem dL_damages_46 : decode cL_damages 46 = .ok (.iload 5, 2) := by decide +kernel
theorem dL_damages_48 : decode cL_damages 48 = .ok (.iconst 1, 1) := by decide +kernel
theorem dL_damages_49 : decode cL_damages 49 = .ok (.iload 4, 2) := by decide +kernel
theorem dL_damages_51 : decode cL_damages 51 = .ok (.ishl, 1) := by decide +kernel
theorem dL_damages_52 : decode cL_damages 52 = .ok (.ixor, 1) := by decide +kernel
theorem dL_damages_53 : decode cL_damages 53 = .ok (.if_icmp .eq 5, 3) := by decide +kernel
theorem dL_damages_56 : decode cL_damages 56 = .ok (.iconst 0, 1) := by decide +kernel
theorem dL_damages_57 : decode cL_damages 57 = .ok (.ireturn, 1) := by decide +kernel
theorem dL_damages_58 : decode cL_damages 58 = .ok (.aload_n 0, 1) := by decide +kernel
theorem dL_damages_59 : decode cL_damages 59 = .ok (.invokevirtual 9, 3) := by decide +kernel
theorem dL_damages_62 : decode cL_damages 62 = .ok (.lstore 7, 2) := by decide +kernel
theorem dL_damages_64 : decode cL_damages 64 = .ok (.aload_n 0, 1) := by decide +kernel
theorem dL_damages_65 : decode cL_damages 65 = .ok (.invokevirtual 90, 3) := by decide +kernel
theorem dL_damages_68 : decode cL_damages 68 = .ok (.istore 9, 2) := by decide +kernel
theorem dL_damages_70 : decode cL_damages 70 = .ok (.iload 9, 2) := by decide +kernel
theorem dL_damages_72 : decode cL_damages 72 = .ok (.ifCond .ge 45, 3) := by decide +kernel
theorem dL_damages_75 : decode cL_damages 75 = .ok (.iload 9, 2) := by decide +kernel
theorem dL_damages_77 : decode cL_damages 77 = .ok (.bipush (-103), 2) := by decide +kernel
theorem dL_damages_79 : decode cL_damages 79 = .ok (.if_icmp .lt 36, 3) := by decide +kernel
theorem dL_damages_82 : decode cL_damages 82 = .ok (.iload 9, 2) := by decide +kernel
theorem dL_damages_84 : decode cL_damages 84 = .ok (.bipush (-101), 2) := by decide +kernel
theorem dL_damages_86 : decode cL_damages 86 = .ok (.if_icmp .gt 29, 3) := by decide +kernel
theorem dL_damages_89 : decode cL_damages 89 = .ok (.aload_n 0, 1) := by decide +kernel
theorem dL_damages_90 : decode cL_damages 90 = .ok (.invokevirtual 9, 3) := by decide +kernel
theorem dL_damages_93 : decode cL_damages 93 = .ok (.lload 7, 2) := by decide +kernel
theorem dL_damages_95 : decode cL_damages 95 = .ok (.lcmp, 1) := by decide +kernel
theorem dL_damages_96 : decode cL_damages 96 = .ok (.ifCond .ne 19, 3) := by decide +kernel
theorem dL_damages_99 : decode cL_damages 99 = .ok (.aload_n 0, 1) := by decide +kernel
theorem dL_damages_100 : decode cL_damages 100 = .ok (.iload_n 3, 1) := by decide +kernel
theorem dL_damages_101 : decode cL_damages 101 = .ok (.iload 4, 2) := by decide +kernel
theorem dL_damages_103 : decode cL_damages 103 = .ok (.invokevirtual 51, 3) := by decide +kernel
theorem dL_damages_106 : decode cL_damages 106 = .ok (.iload 5, 2) := by decide +kernel
theorem dL_damages_108 : decode cL_damages 108 = .ok (.if_icmp .ne 7, 3) := by decide +kernel
theorem dL_damages_111 : decode cL_damages 111 = .ok (.iconst 1, 1) := by decide +kernel
theorem dL_damages_112 : decode cL_damages 112 = .ok (.goto 4, 3) := by decide +kernel
theorem dL_damages_115 : decode cL_damages 115 = .ok (.iconst 0, 1) := by decide +kernel
theorem dL_damages_116 : decode cL_damages 116 = .ok (.ireturn, 1) := by decide +kernel
theorem dL_damages_117 : decode cL_damages 117 = .ok (.iload 9, 2) := by decide +kernel
theorem dL_damages_119 : decode cL_damages 119 = .ok (.sipush 200, 3) := by decide +kernel
theorem dL_damages_122 : decode cL_damages 122 = .ok (.if_icmp .gt 36, 3) := by decide +kernel
theorem dL_damages_125 : decode cL_damages 125 = .ok (.aload_n 0, 1) := by decide +kernel
theorem dL_damages_126 : decode cL_damages 126 = .ok (.invokevirtual 87, 3) := by decide +kernel
theorem dL_damages_129 : decode cL_damages 129 = .ok (.ifCond .lt 29, 3) := by decide +kernel
theorem dL_damages_132 : decode cL_damages 132 = .ok (.aload_n 0, 1) := by decide +kernel
theorem dL_damages_133 : decode cL_damages 133 = .ok (.invokevirtual 9, 3) := by decide +kernel
theorem dL_damages_136 : decode cL_damages 136 = .ok (.lload 7, 2) := by decide +kernel
theorem dL_damages_138 : decode cL_damages 138 = .ok (.lcmp, 1) := by decide +kernel
theorem dL_damages_139 : decode cL_damages 139 = .ok (.ifCond .ne 19, 3) := by decide +kernel
theorem dL_damages_142 : decode cL_damages 142 = .ok (.aload_n 0, 1) := by decide +kernel
theorem dL_damages_143 : decode cL_damages 143 = .ok (.iload_n 3, 1) := by decide +kernel
theorem dL_damages_144 : decode cL_damages 144 = .ok (.iload 4, 2) := by decide +kernel
theorem dL_damages_146 : decode cL_damages 146 = .ok (.invokevirtual 51, 3) := by decide +kernel
theorem dL_damages_149 : decode cL_damages 149 = .ok (.iload 5, 2) := by decide +kernel
theorem dL_damages_151 : decode cL_damages 151 = .ok (.if_icmp .ne 7, 3) := by decide +kernel
theorem dL_damages_154 : decode cL_damages 154 = .ok (.iconst 1, 1) := by decide +kernel
theorem dL_damages_155 : decode cL_damages 155 = .ok (.goto 4, 3) := by decide +kernel
theorem dL_damages_158 : decode cL_damages 158 = .ok (.iconst 0, 1) := by decide +kernel
theorem dL_damages_159 : decode cL_damages 159 = .ok (.ireturn, 1) := by decide +kernel
theorem dL_prices_0 : decode cL_prices 0 = .ok (.aload_n 0, 1) := by decide +kernel
theorem dL_prices_1 : decode cL_prices 1 = .ok (.invokevirtual 93, 3) := by decide +kernel
theorem dL_prices_4 : decode cL_prices 4 = .ok (.istore_n 2, 1) := by decide +kernel
theorem dL_prices_5 : decode cL_prices 5 = .ok (.aload_n 0, 1) := by decide +kernel
theorem dL_prices_6 : decode cL_prices 6 = .ok (.iload_n 2, 1) := by decide +kernel
theorem dL_prices_7 : decode cL_prices 7 = .ok (.invokevirtual 32, 3) := by decide +kernel
theorem dL_prices_10 : decode cL_prices 10 = .ok (.istore_n 3, 1) := by decide +kernel
theorem dL_prices_11 : decode cL_prices 11 = .ok (.iconst 0, 1) := by decide +kernel
theorem dL_prices_12 : decode cL_prices 12 = .ok (.istore 4, 2) := by decide +kernel
theorem dL_prices_14 : decode cL_prices 14 = .ok (.iload 4, 2) := by decide +kernel
theorem dL_prices_16 : decode cL_prices 16 = .ok (.iconst 5, 1) := by decide +kernel
theorem dL_prices_17 : decode cL_prices 17 = .ok (.if_icmp .ge 56, 3) := by decide +kernel
theorem dL_prices_20 : decode cL_prices 20 = .ok (.iload_n 1, 1) := by decide +kernel
theorem dL_prices_21 : decode cL_prices 21 = .ok (.bipush 6, 2) := by decide +kernel
theorem dL_prices_23 : decode cL_prices 23 = .ok (.iload 4, 2) := by decide +kernel
theorem dL_prices_25 : decode cL_prices 25 = .ok (.imul, 1) := by decide +kernel
theorem dL_prices_26 : decode cL_prices 26 = .ok (.ishr, 1) := by decide +kernel
theorem dL_prices_27 : decode cL_prices 27 = .ok (.bipush 96, 2) := by decide +kernel
theorem dL_prices_29 : decode cL_prices 29 = .ok (.invokestatic 70, 3) := by decide +kernel
theorem dL_prices_32 : decode cL_prices 32 = .ok (.istore 5, 2) := by decide +kernel
theorem dL_prices_34 : decode cL_prices 34 = .ok (.aload_n 0, 1) := by decide +kernel
theorem dL_prices_35 : decode cL_prices 35 = .ok (.iload 5, 2) := by decide +kernel
theorem dL_prices_37 : decode cL_prices 37 = .ok (.invokevirtual 32, 3) := by decide +kernel
theorem dL_prices_40 : decode cL_prices 40 = .ok (.istore 6, 2) := by decide +kernel
theorem dL_prices_42 : decode cL_prices 42 = .ok (.iload 6, 2) := by decide +kernel
theorem dL_prices_44 : decode cL_prices 44 = .ok (.iload_n 3, 1) := by decide +kernel
theorem dL_prices_45 : decode cL_prices 45 = .ok (.if_icmp .lt 20, 3) := by decide +kernel
theorem dL_prices_48 : decode cL_prices 48 = .ok (.iload 6, 2) := by decide +kernel
theorem dL_prices_50 : decode cL_prices 50 = .ok (.iload_n 3, 1) := by decide +kernel
theorem dL_prices_51 : decode cL_prices 51 = .ok (.if_icmp .ne 9, 3) := by decide +kernel
theorem dL_prices_54 : decode cL_prices 54 = .ok (.iload 5, 2) := by decide +kernel
theorem dL_prices_56 : decode cL_prices 56 = .ok (.iload_n 2, 1) := by decide +kernel
theorem dL_prices_57 : decode cL_prices 57 = .ok (.if_icmp .lt 8, 3) := by decide +kernel
theorem dL_prices_60 : decode cL_prices 60 = .ok (.iload 6, 2) := by decide +kernel
theorem dL_prices_62 : decode cL_prices 62 = .ok (.ifCond .ge 5, 3) := by decide +kernel
theorem dL_prices_65 : decode cL_prices 65 = .ok (.iconst 0, 1) := by decide +kernel
theorem dL_prices_66 : decode cL_prices 66 = .ok (.ireturn, 1) := by decide +kernel
theorem dL_prices_67 : decode cL_prices 67 = .ok (.iinc 4 1, 3) := by decide +kernel
theorem dL_prices_70 : decode cL_prices 70 = .ok (.goto (-56), 3) := by decide +kernel
theorem dL_prices_73 : decode cL_prices 73 = .ok (.aload_n 0, 1) := by decide +kernel
theorem dL_prices_74 : decode cL_prices 74 = .ok (.iconst 0, 1) := by decide +kernel
theorem dL_prices_75 : decode cL_prices 75 = .ok (.invokevirtual 29, 3) := by decide +kernel
theorem dL_prices_78 : decode cL_prices 78 = .ok (.bipush (-9), 2) := by decide +kernel
theorem dL_prices_80 : decode cL_prices 80 = .ok (.if_icmp .eq 27, 3) := by decide +kernel
theorem dL_prices_83 : decode cL_prices 83 = .ok (.aload_n 0, 1) := by decide +kernel
theorem dL_prices_84 : decode cL_prices 84 = .ok (.iconst 0, 1) := by decide +kernel
theorem dL_prices_85 : decode cL_prices 85 = .ok (.invokevirtual 29, 3) := by decide +kernel
theorem dL_prices_88 : decode cL_prices 88 = .ok (.iconst 1, 1) := by decide +kernel
theorem dL_prices_89 : decode cL_prices 89 = .ok (.if_icmp .lt 22, 3) := by decide +kernel
theorem dL_prices_92 : decode cL_prices 92 = .ok (.aload_n 0, 1) := by decide +kernel
theorem dL_prices_93 : decode cL_prices 93 = .ok (.iconst 0, 1) := by decide +kernel
theorem dL_prices_94 : decode cL_prices 94 = .ok (.bipush 95, 2) := by decide +kernel
theorem dL_prices_96 : decode cL_prices 96 = .ok (.invokevirtual 25, 3) := by decide +kernel
theorem dL_prices_99 : decode cL_prices 99 = .ok (.aload_n 0, 1) := by decide +kernel
theorem dL_prices_100 : decode cL_prices 100 = .ok (.iconst 0, 1) := by decide +kernel
theorem dL_prices_101 : decode cL_prices 101 = .ok (.invokevirtual 29, 3) := by decide +kernel
theorem dL_prices_104 : decode cL_prices 104 = .ok (.if_icmp .gt 7, 3) := by decide +kernel
theorem dL_prices_107 : decode cL_prices 107 = .ok (.iconst 1, 1) := by decide +kernel
theorem dL_prices_108 : decode cL_prices 108 = .ok (.goto 4, 3) := by decide +kernel
theorem dL_prices_111 : decode cL_prices 111 = .ok (.iconst 0, 1) := by decide +kernel
theorem dL_prices_112 : decode cL_prices 112 = .ok (.ireturn, 1) := by decide +kernel
theorem dL_law_0 : decode cL_law 0 = .ok (.aload_n 0, 1) := by decide +kernel
theorem dL_law_1 : decode cL_law 1 = .ok (.iconst 0, 1) := by decide +kernel
theorem dL_law_2 : decode cL_law 2 = .ok (.invokestatic 96, 3) := by decide +kernel
theorem dL_law_5 : decode cL_law 5 = .ok (.istore_n 1, 1) := by decide +kernel
theorem dL_law_6 : decode cL_law 6 = .ok (.iload_n 1, 1) := by decide +kernel
theorem dL_law_7 : decode cL_law 7 = .ok (.iconst 4, 1) := by decide +kernel
theorem dL_law_8 : decode cL_law 8 = .ok (.invokestatic 70, 3) := by decide +kernel
theorem dL_law_11 : decode cL_law 11 = .ok (.istore_n 2, 1) := by decide +kernel
theorem dL_law_12 : decode cL_law 12 = .ok (.new 10, 3) := by decide +kernel
theorem dL_law_15 : decode cL_law 15 = .ok (.dup, 1) := by decide +kernel
theorem dL_law_16 : decode cL_law 16 = .ok (.iload_n 2, 1) := by decide +kernel
theorem dL_law_17 : decode cL_law 17 = .ok (.invokespecial 100, 3) := by decide +kernel
theorem dL_law_20 : decode cL_law 20 = .ok (.astore_n 3, 1) := by decide +kernel
theorem dL_law_21 : decode cL_law 21 = .ok (.aload_n 3, 1) := by decide +kernel
theorem dL_law_22 : decode cL_law 22 = .ok (.invokevirtual 87, 3) := by decide +kernel
theorem dL_law_25 : decode cL_law 25 = .ok (.bipush (-9), 2) := by decide +kernel
theorem dL_law_27 : decode cL_law 27 = .ok (.if_icmp .ne 93, 3) := by decide +kernel
theorem dL_law_30 : decode cL_law 30 = .ok (.aload_n 3, 1) := by decide +kernel
theorem dL_law_31 : decode cL_law 31 = .ok (.invokevirtual 60, 3) := by decide +kernel
theorem dL_law_34 : decode cL_law 34 = .ok (.ifCond .ne 86, 3) := by decide +kernel
theorem dL_law_37 : decode cL_law 37 = .ok (.aload_n 3, 1) := by decide +kernel
theorem dL_law_38 : decode cL_law 38 = .ok (.invokevirtual 78, 3) := by decide +kernel
theorem dL_law_41 : decode cL_law 41 = .ok (.ifCond .ne 79, 3) := by decide +kernel
theorem dL_law_44 : decode cL_law 44 = .ok (.aload_n 3, 1) := by decide +kernel
theorem dL_law_45 : decode cL_law 45 = .ok (.invokevirtual 44, 3) := by decide +kernel
theorem dL_law_48 : decode cL_law 48 = .ok (.ifCond .ne 72, 3) := by decide +kernel
theorem dL_law_51 : decode cL_law 51 = .ok (.aload_n 3, 1) := by decide +kernel
theorem dL_law_52 : decode cL_law 52 = .ok (.invokestatic 103, 3) := by decide +kernel
theorem dL_law_55 : decode cL_law 55 = .ok (.ifCond .eq 65, 3) := by decide +kernel
theorem dL_law_58 : decode cL_law 58 = .ok (.aload_n 3, 1) := by decide +kernel
theorem dL_law_59 : decode cL_law 59 = .ok (.iload_n 1, 1) := by decide +kernel
theorem dL_law_60 : decode cL_law 60 = .ok (.iconst 2, 1) := by decide +kernel
theorem dL_law_61 : decode cL_law 61 = .ok (.ishr, 1) := by decide +kernel
theorem dL_law_62 : decode cL_law 62 = .ok (.iconst 1, 1) := by decide +kernel
theorem dL_law_63 : decode cL_law 63 = .ok (.iand, 1) := by decide +kernel
theorem dL_law_64 : decode cL_law 64 = .ok (.iconst 1, 1) := by decide +kernel
theorem dL_law_65 : decode cL_law 65 = .ok (.if_icmp .ne 7, 3) := by decide +kernel
theorem dL_law_68 : decode cL_law 68 = .ok (.iconst 1, 1) := by decide +kernel
theorem dL_law_69 : decode cL_law 69 = .ok (.goto 4, 3) := by decide +kernel
theorem dL_law_72 : decode cL_law 72 = .ok (.iconst 0, 1) := by decide +kernel
theorem dL_law_73 : decode cL_law 73 = .ok (.invokevirtual 107, 3) := by decide +kernel
theorem dL_law_76 : decode cL_law 76 = .ok (.ifCond .ne 44, 3) := by decide +kernel
theorem dL_law_79 : decode cL_law 79 = .ok (.aload_n 3, 1) := by decide +kernel
theorem dL_law_80 : decode cL_law 80 = .ok (.iconst 1, 1) := by decide +kernel
theorem dL_law_81 : decode cL_law 81 = .ok (.iload_n 1, 1) := by decide +kernel
theorem dL_law_82 : decode cL_law 82 = .ok (.iconst 3, 1) := by decide +kernel
theorem dL_law_83 : decode cL_law 83 = .ok (.ishr, 1) := by decide +kernel
theorem dL_law_84 : decode cL_law 84 = .ok (.bipush 10, 2) := by decide +kernel
theorem dL_law_86 : decode cL_law 86 = .ok (.invokestatic 70, 3) := by decide +kernel
theorem dL_law_89 : decode cL_law 89 = .ok (.iadd, 1) := by decide +kernel
theorem dL_law_90 : decode cL_law 90 = .ok (.invokevirtual 19, 3) := by decide +kernel
theorem dL_law_93 : decode cL_law 93 = .ok (.iconst 1, 1) := by decide +kernel
theorem dL_law_94 : decode cL_law 94 = .ok (.if_icmp .ne 26, 3) := by decide +kernel
theorem dL_law_97 : decode cL_law 97 = .ok (.aload_n 3, 1) := by decide +kernel
theorem dL_law_98 : decode cL_law 98 = .ok (.bipush 20, 2) := by decide +kernel
theorem dL_law_100 : decode cL_law 100 = .ok (.iload_n 1, 1) := by decide +kernel
theorem dL_law_101 : decode cL_law 101 = .ok (.bipush 7, 2) := by decide +kernel
theorem dL_law_103 : decode cL_law 103 = .ok (.ishr, 1) := by decide +kernel
theorem dL_law_104 : decode cL_law 104 = .ok (.sipush 300, 3) := by decide +kernel
theorem dL_law_107 : decode cL_law 107 = .ok (.invokestatic 70, 3) := by decide +kernel
theorem dL_law_110 : decode cL_law 110 = .ok (.iadd, 1) := by decide +kernel
theorem dL_law_111 : decode cL_law 111 = .ok (.invokevirtual 22, 3) := by decide +kernel
theorem dL_law_114 : decode cL_law 114 = .ok (.sipush 200, 3) := by decide +kernel
theorem dL_law_117 : decode cL_law 117 = .ok (.if_icmp .eq 5, 3) := by decide +kernel
theorem dL_law_120 : decode cL_law 120 = .ok (.iconst 0, 1) := by decide +kernel
theorem dL_law_121 : decode cL_law 121 = .ok (.ireturn, 1) := by decide +kernel
theorem dL_law_122 : decode cL_law 122 = .ok (.iconst 0, 1) := by decide +kernel
theorem dL_law_123 : decode cL_law 123 = .ok (.istore 4, 2) := by decide +kernel
theorem dL_law_125 : decode cL_law 125 = .ok (.iload 4, 2) := by decide +kernel
theorem dL_law_127 : decode cL_law 127 = .ok (.iconst 4, 1) := by decide +kernel
theorem dL_law_128 : decode cL_law 128 = .ok (.if_icmp .ge 194, 3) := by decide +kernel
theorem dL_law_131 : decode cL_law 131 = .ok (.aload_n 0, 1) := by decide +kernel
theorem dL_law_132 : decode cL_law 132 = .ok (.iconst 1, 1) := by decide +kernel
theorem dL_law_133 : decode cL_law 133 = .ok (.iload 4, 2) := by decide +kernel
theorem dL_law_135 : decode cL_law 135 = .ok (.iadd, 1) := by decide +kernel
theorem dL_law_136 : decode cL_law 136 = .ok (.invokestatic 96, 3) := by decide +kernel
theorem dL_law_139 : decode cL_law 139 = .ok (.istore 5, 2) := by decide +kernel
theorem dL_law_141 : decode cL_law 141 = .ok (.iconst 1, 1) := by decide +kernel
theorem dL_law_142 : decode cL_law 142 = .ok (.iload 5, 2) := by decide +kernel
theorem dL_law_144 : decode cL_law 144 = .ok (.bipush 24, 2) := by decide +kernel
theorem dL_law_146 : decode cL_law 146 = .ok (.ishr, 1) := by decide +kernel
theorem dL_law_147 : decode cL_law 147 = .ok (.bipush 8, 2) := by decide +kernel
theorem dL_law_149 : decode cL_law 149 = .ok (.invokestatic 70, 3) := by decide +kernel
theorem dL_law_152 : decode cL_law 152 = .ok (.iadd, 1) := by decide +kernel
theorem dL_law_153 : decode cL_law 153 = .ok (.istore 6, 2) := by decide +kernel
theorem dL_law_155 : decode cL_law 155 = .ok (.iload 5, 2) := by decide +kernel
theorem dL_law_157 : decode cL_law 157 = .ok (.bipush 27, 2) := by decide +kernel
theorem dL_law_159 : decode cL_law 159 = .ok (.ishr, 1) := by decide +kernel
theorem dL_law_160 : decode cL_law 160 = .ok (.bipush 30, 2) := by decide +kernel
theorem dL_law_162 : decode cL_law 162 = .ok (.invokestatic 70, 3) := by decide +kernel
theorem dL_law_165 : decode cL_law 165 = .ok (.istore 7, 2) := by decide +kernel
theorem dL_law_167 : decode cL_law 167 = .ok (.aload_n 3, 1) := by decide +kernel
theorem dL_law_168 : decode cL_law 168 = .ok (.sipush 999, 3) := by decide +kernel
theorem dL_law_171 : decode cL_law 171 = .ok (.invokevirtual 38, 3) := by decide +kernel
theorem dL_law_174 : decode cL_law 174 = .ok (.ifCond .ne 18, 3) := by decide +kernel
theorem dL_law_177 : decode cL_law 177 = .ok (.aload_n 3, 1) := by decide +kernel
theorem dL_law_178 : decode cL_law 178 = .ok (.iload 5, 2) := by decide +kernel
theorem dL_law_180 : decode cL_law 180 = .ok (.iload 7, 2) := by decide +kernel
theorem dL_law_182 : decode cL_law 182 = .ok (.iload 6, 2) := by decide +kernel
theorem dL_law_184 : decode cL_law 184 = .ok (.invokestatic 111, 3) := by decide +kernel
theorem dL_law_187 : decode cL_law 187 = .ok (.iload 7, 2) := by decide +kernel
theorem dL_law_189 : decode cL_law 189 = .ok (.if_icmp .eq 5, 3) := by decide +kernel
theorem dL_law_192 : decode cL_law 192 = .ok (.iconst 0, 1) := by decide +kernel
theorem dL_law_193 : decode cL_law 193 = .ok (.ireturn, 1) := by decide +kernel
theorem dL_law_194 : decode cL_law 194 = .ok (.iload 5, 2) := by decide +kernel
theorem dL_law_196 : decode cL_law 196 = .ok (.iconst 3, 1) := by decide +kernel
theorem dL_law_197 : decode cL_law 197 = .ok (.iand, 1) := by decide +kernel
theorem dL_law_198 : decode cL_law 198 = .ok (.ifCond .ne 28, 3) := by decide +kernel
theorem dL_law_201 : decode cL_law 201 = .ok (.aload_n 3, 1) := by decide +kernel
theorem dL_law_202 : decode cL_law 202 = .ok (.invokevirtual 115, 3) := by decide +kernel
theorem dL_law_205 : decode cL_law 205 = .ok (.iconst 1, 1) := by decide +kernel
theorem dL_law_206 : decode cL_law 206 = .ok (.if_icmp .lt 18, 3) := by decide +kernel
theorem dL_law_209 : decode cL_law 209 = .ok (.aload_n 3, 1) := by decide +kernel
theorem dL_law_210 : decode cL_law 210 = .ok (.invokevirtual 87, 3) := by decide +kernel
theorem dL_law_213 : decode cL_law 213 = .ok (.ifCond .lt 11, 3) := by decide +kernel
theorem dL_law_216 : decode cL_law 216 = .ok (.aload_n 3, 1) := by decide +kernel
theorem dL_law_217 : decode cL_law 217 = .ok (.invokevirtual 115, 3) := by decide +kernel
theorem dL_law_220 : decode cL_law 220 = .ok (.iconst 1, 1) := by decide +kernel
theorem dL_law_221 : decode cL_law 221 = .ok (.if_icmp .ge 5, 3) := by decide +kernel
theorem dL_law_224 : decode cL_law 224 = .ok (.iconst 0, 1) := by decide +kernel
theorem dL_law_225 : decode cL_law 225 = .ok (.ireturn, 1) := by decide +kernel
theorem dL_law_226 : decode cL_law 226 = .ok (.aload_n 3, 1) := by decide +kernel
theorem dL_law_227 : decode cL_law 227 = .ok (.iload 7, 2) := by decide +kernel
theorem dL_law_229 : decode cL_law 229 = .ok (.invokestatic 118, 3) := by decide +kernel
theorem dL_law_232 : decode cL_law 232 = .ok (.ifCond .eq 82, 3) := by decide +kernel
theorem dL_law_235 : decode cL_law 235 = .ok (.aload_n 3, 1) := by decide +kernel
theorem dL_law_236 : decode cL_law 236 = .ok (.iload 7, 2) := by decide +kernel
theorem dL_law_238 : decode cL_law 238 = .ok (.invokestatic 122, 3) := by decide +kernel
theorem dL_law_241 : decode cL_law 241 = .ok (.ifCond .eq 73, 3) := by decide +kernel
theorem dL_law_244 : decode cL_law 244 = .ok (.aload_n 3, 1) := by decide +kernel
theorem dL_law_245 : decode cL_law 245 = .ok (.invokevirtual 44, 3) := by decide +kernel
theorem dL_law_248 : decode cL_law 248 = .ok (.bipush 64, 2) := by decide +kernel
theorem dL_law_250 : decode cL_law 250 = .ok (.if_icmp .gt 26, 3) := by decide +kernel
theorem dL_law_253 : decode cL_law 253 = .ok (.aload_n 3, 1) := by decide +kernel
theorem dL_law_254 : decode cL_law 254 = .ok (.iconst 0, 1) := by decide +kernel
theorem dL_law_255 : decode cL_law 255 = .ok (.invokevirtual 48, 3) := by decide +kernel
theorem dL_law_258 : decode cL_law 258 = .ok (.bipush (-9), 2) := by decide +kernel
theorem dL_law_260 : decode cL_law 260 = .ok (.if_icmp .eq 16, 3) := by decide +kernel
theorem dL_law_263 : decode cL_law 263 = .ok (.aload_n 3, 1) := by decide +kernel
theorem dL_law_264 : decode cL_law 264 = .ok (.iload 5, 2) := by decide +kernel
theorem dL_law_266 : decode cL_law 266 = .ok (.iload 7, 2) := by decide +kernel
theorem dL_law_268 : decode cL_law 268 = .ok (.iload 6, 2) := by decide +kernel
theorem dL_law_270 : decode cL_law 270 = .ok (.invokestatic 125, 3) := by decide +kernel
theorem dL_law_273 : decode cL_law 273 = .ok (.ifCond .eq 41, 3) := by decide +kernel
theorem dL_law_276 : decode cL_law 276 = .ok (.aload_n 3, 1) := by decide +kernel
theorem dL_law_277 : decode cL_law 277 = .ok (.aload_n 0, 1) := by decide +kernel
theorem dL_law_278 : decode cL_law 278 = .ok (.iconst 5, 1) := by decide +kernel
theorem dL_law_279 : decode cL_law 279 = .ok (.iload 4, 2) := by decide +kernel
theorem dL_law_281 : decode cL_law 281 = .ok (.iadd, 1) := by decide +kernel
theorem dL_law_282 : decode cL_law 282 = .ok (.invokestatic 96, 3) := by decide +kernel
theorem dL_law_285 : decode cL_law 285 = .ok (.invokestatic 129, 3) := by decide +kernel
theorem dL_law_288 : decode cL_law 288 = .ok (.ifCond .eq 26, 3) := by decide +kernel
theorem dL_law_291 : decode cL_law 291 = .ok (.aload_n 3, 1) := by decide +kernel
theorem dL_law_292 : decode cL_law 292 = .ok (.aload_n 0, 1) := by decide +kernel
theorem dL_law_293 : decode cL_law 293 = .ok (.bipush 9, 2) := by decide +kernel
theorem dL_law_295 : decode cL_law 295 = .ok (.iload 4, 2) := by decide +kernel
theorem dL_law_297 : decode cL_law 297 = .ok (.iadd, 1) := by decide +kernel
theorem dL_law_298 : decode cL_law 298 = .ok (.invokestatic 96, 3) := by decide +kernel
theorem dL_law_301 : decode cL_law 301 = .ok (.invokestatic 132, 3) := by decide +kernel
theorem dL_law_304 : decode cL_law 304 = .ok (.ifCond .eq 10, 3) := by decide +kernel
theorem dL_law_307 : decode cL_law 307 = .ok (.aload_n 3, 1) := by decide +kernel
theorem dL_law_308 : decode cL_law 308 = .ok (.invokestatic 103, 3) := by decide +kernel
theorem dL_law_311 : decode cL_law 311 = .ok (.ifCond .ne 5, 3) := by decide +kernel
theorem dL_law_314 : decode cL_law 314 = .ok (.iconst 0, 1) := by decide +kernel
theorem dL_law_315 : decode cL_law 315 = .ok (.ireturn, 1) := by decide +kernel
theorem dL_law_316 : decode cL_law 316 = .ok (.iinc 4 1, 3) := by decide +kernel
theorem dL_law_319 : decode cL_law 319 = .ok (.goto (-194), 3) := by decide +kernel
theorem dL_law_322 : decode cL_law 322 = .ok (.aload_n 3, 1) := by decide +kernel
theorem dL_law_323 : decode cL_law 323 = .ok (.invokevirtual 84, 3) := by decide +kernel
theorem dL_law_326 : decode cL_law 326 = .ok (.istore 4, 2) := by decide +kernel
theorem dL_law_328 : decode cL_law 328 = .ok (.aload_n 3, 1) := by decide +kernel
theorem dL_law_329 : decode cL_law 329 = .ok (.invokevirtual 135, 3) := by decide +kernel
theorem dL_law_332 : decode cL_law 332 = .ok (.iload 4, 2) := by decide +kernel
theorem dL_law_334 : decode cL_law 334 = .ok (.if_icmp .ne 53, 3) := by decide +kernel
theorem dL_law_337 : decode cL_law 337 = .ok (.aload_n 3, 1) := by decide +kernel
theorem dL_law_338 : decode cL_law 338 = .ok (.invokevirtual 84, 3) := by decide +kernel
theorem dL_law_341 : decode cL_law 341 = .ok (.ifCond .ne 46, 3) := by decide +kernel
theorem dL_law_344 : decode cL_law 344 = .ok (.aload_n 3, 1) := by decide +kernel
theorem dL_law_345 : decode cL_law 345 = .ok (.invokevirtual 87, 3) := by decide +kernel
theorem dL_law_348 : decode cL_law 348 = .ok (.ifCond .lt 39, 3) := by decide +kernel
theorem dL_law_351 : decode cL_law 351 = .ok (.aload_n 3, 1) := by decide +kernel
theorem dL_law_352 : decode cL_law 352 = .ok (.invokevirtual 84, 3) := by decide +kernel
theorem dL_law_355 : decode cL_law 355 = .ok (.iload 4, 2) := by decide +kernel
theorem dL_law_357 : decode cL_law 357 = .ok (.if_icmp .ne 30, 3) := by decide +kernel
theorem dL_law_360 : decode cL_law 360 = .ok (.aload_n 3, 1) := by decide +kernel
theorem dL_law_361 : decode cL_law 361 = .ok (.iload_n 1, 1) := by decide +kernel
theorem dL_law_362 : decode cL_law 362 = .ok (.bipush 16, 2) := by decide +kernel
theorem dL_law_364 : decode cL_law 364 = .ok (.ishr, 1) := by decide +kernel
theorem dL_law_365 : decode cL_law 365 = .ok (.iconst 4, 1) := by decide +kernel
theorem dL_law_366 : decode cL_law 366 = .ok (.invokestatic 70, 3) := by decide +kernel
theorem dL_law_369 : decode cL_law 369 = .ok (.invokevirtual 15, 3) := by decide +kernel
theorem dL_law_372 : decode cL_law 372 = .ok (.iload_n 2, 1) := by decide +kernel
theorem dL_law_373 : decode cL_law 373 = .ok (.if_icmp .ne 14, 3) := by decide +kernel
theorem dL_law_376 : decode cL_law 376 = .ok (.aload_n 3, 1) := by decide +kernel
theorem dL_law_377 : decode cL_law 377 = .ok (.invokevirtual 84, 3) := by decide +kernel
theorem dL_law_380 : decode cL_law 380 = .ok (.ifCond .ne 7, 3) := by decide +kernel
theorem dL_law_383 : decode cL_law 383 = .ok (.iconst 1, 1) := by decide +kernel
theorem dL_law_384 : decode cL_law 384 = .ok (.goto 4, 3) := by decide +kernel
theorem dL_law_387 : decode cL_law 387 = .ok (.iconst 0, 1) := by decide +kernel
theorem dL_law_388 : decode cL_law 388 = .ok (.ireturn, 1) := by decide +kernel
