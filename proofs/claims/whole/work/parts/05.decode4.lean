theorem dX9_encode_58 : decode cX9_encode 58 = .ok (.sipush 400, 3) := by decide +kernel
theorem dX9_encode_61 : decode cX9_encode 61 = .ok (.if_icmp .ge 37, 3) := by decide +kernel
theorem dX9_encode_64 : decode cX9_encode 64 = .ok (.aload_n 0, 1) := by decide +kernel
theorem dX9_encode_65 : decode cX9_encode 65 = .ok (.getfield 7, 3) := by decide +kernel
theorem dX9_encode_68 : decode cX9_encode 68 = .ok (.sipush 24260, 3) := by decide +kernel
theorem dX9_encode_71 : decode cX9_encode 71 = .ok (.iload_n 1, 1) := by decide +kernel
theorem dX9_encode_72 : decode cX9_encode 72 = .ok (.iadd, 1) := by decide +kernel
theorem dX9_encode_73 : decode cX9_encode 73 = .ok (.iload_n 1, 1) := by decide +kernel
theorem dX9_encode_74 : decode cX9_encode 74 = .ok (.aload_n 0, 1) := by decide +kernel
theorem dX9_encode_75 : decode cX9_encode 75 = .ok (.getfield 73, 3) := by decide +kernel
theorem dX9_encode_78 : decode cX9_encode 78 = .ok (.if_icmp .ge 12, 3) := by decide +kernel
theorem dX9_encode_81 : decode cX9_encode 81 = .ok (.aload_n 0, 1) := by decide +kernel
theorem dX9_encode_82 : decode cX9_encode 82 = .ok (.getfield 23, 3) := by decide +kernel
theorem dX9_encode_85 : decode cX9_encode 85 = .ok (.iload_n 1, 1) := by decide +kernel
theorem dX9_encode_86 : decode cX9_encode 86 = .ok (.iaload, 1) := by decide +kernel
theorem dX9_encode_87 : decode cX9_encode 87 = .ok (.goto 4, 3) := by decide +kernel
theorem dX9_encode_90 : decode cX9_encode 90 = .ok (.iconst 0, 1) := by decide +kernel
theorem dX9_encode_91 : decode cX9_encode 91 = .ok (.iastore, 1) := by decide +kernel
theorem dX9_encode_92 : decode cX9_encode 92 = .ok (.iinc 1 1, 3) := by decide +kernel
theorem dX9_encode_95 : decode cX9_encode 95 = .ok (.goto (-38), 3) := by decide +kernel
theorem dX9_encode_98 : decode cX9_encode 98 = .ok (.aload_n 0, 1) := by decide +kernel
theorem dX9_encode_99 : decode cX9_encode 99 = .ok (.getfield 7, 3) := by decide +kernel
theorem dX9_encode_102 : decode cX9_encode 102 = .ok (.iconst 5, 1) := by decide +kernel
theorem dX9_encode_103 : decode cX9_encode 103 = .ok (.aload_n 0, 1) := by decide +kernel
theorem dX9_encode_104 : decode cX9_encode 104 = .ok (.getfield 73, 3) := by decide +kernel
theorem dX9_encode_107 : decode cX9_encode 107 = .ok (.iastore, 1) := by decide +kernel
theorem dX9_encode_108 : decode cX9_encode 108 = .ok (.aload_n 0, 1) := by decide +kernel
theorem dX9_encode_109 : decode cX9_encode 109 = .ok (.getfield 7, 3) := by decide +kernel
theorem dX9_encode_112 : decode cX9_encode 112 = .ok (.bipush 6, 2) := by decide +kernel
theorem dX9_encode_114 : decode cX9_encode 114 = .ok (.aload_n 0, 1) := by decide +kernel
theorem dX9_encode_115 : decode cX9_encode 115 = .ok (.getfield 76, 3) := by decide +kernel
theorem dX9_encode_118 : decode cX9_encode 118 = .ok (.iastore, 1) := by decide +kernel
theorem dX9_encode_119 : decode cX9_encode 119 = .ok (.aload_n 0, 1) := by decide +kernel
theorem dX9_encode_120 : decode cX9_encode 120 = .ok (.getfield 7, 3) := by decide +kernel
theorem dX9_encode_123 : decode cX9_encode 123 = .ok (.bipush 7, 2) := by decide +kernel
theorem dX9_encode_125 : decode cX9_encode 125 = .ok (.aload_n 0, 1) := by decide +kernel
theorem dX9_encode_126 : decode cX9_encode 126 = .ok (.getfield 140, 3) := by decide +kernel
theorem dX9_encode_129 : decode cX9_encode 129 = .ok (.iconst 1, 1) := by decide +kernel
theorem dX9_encode_130 : decode cX9_encode 130 = .ok (.iadd, 1) := by decide +kernel
theorem dX9_encode_131 : decode cX9_encode 131 = .ok (.iastore, 1) := by decide +kernel
theorem dX9_encode_132 : decode cX9_encode 132 = .ok (.aload_n 0, 1) := by decide +kernel
theorem dX9_encode_133 : decode cX9_encode 133 = .ok (.getfield 7, 3) := by decide +kernel
theorem dX9_encode_136 : decode cX9_encode 136 = .ok (.bipush 8, 2) := by decide +kernel
theorem dX9_encode_138 : decode cX9_encode 138 = .ok (.aload_n 0, 1) := by decide +kernel
theorem dX9_encode_139 : decode cX9_encode 139 = .ok (.getfield 160, 3) := by decide +kernel
theorem dX9_encode_142 : decode cX9_encode 142 = .ok (.iastore, 1) := by decide +kernel
theorem dX9_encode_143 : decode cX9_encode 143 = .ok (.iconst 0, 1) := by decide +kernel
theorem dX9_encode_144 : decode cX9_encode 144 = .ok (.istore_n 1, 1) := by decide +kernel
theorem dX9_encode_145 : decode cX9_encode 145 = .ok (.iload_n 1, 1) := by decide +kernel
theorem dX9_encode_146 : decode cX9_encode 146 = .ok (.sipush 804, 3) := by decide +kernel
theorem dX9_encode_149 : decode cX9_encode 149 = .ok (.if_icmp .ge 25, 3) := by decide +kernel
theorem dX9_encode_152 : decode cX9_encode 152 = .ok (.aload_n 0, 1) := by decide +kernel
theorem dX9_encode_153 : decode cX9_encode 153 = .ok (.getfield 7, 3) := by decide +kernel
theorem dX9_encode_156 : decode cX9_encode 156 = .ok (.sipush 24660, 3) := by decide +kernel
theorem dX9_encode_159 : decode cX9_encode 159 = .ok (.iload_n 1, 1) := by decide +kernel
theorem dX9_encode_160 : decode cX9_encode 160 = .ok (.iadd, 1) := by decide +kernel
theorem dX9_encode_161 : decode cX9_encode 161 = .ok (.aload_n 0, 1) := by decide +kernel
theorem dX9_encode_162 : decode cX9_encode 162 = .ok (.getfield 30, 3) := by decide +kernel
theorem dX9_encode_165 : decode cX9_encode 165 = .ok (.iload_n 1, 1) := by decide +kernel
theorem dX9_encode_166 : decode cX9_encode 166 = .ok (.iaload, 1) := by decide +kernel
theorem dX9_encode_167 : decode cX9_encode 167 = .ok (.iastore, 1) := by decide +kernel
theorem dX9_encode_168 : decode cX9_encode 168 = .ok (.iinc 1 1, 3) := by decide +kernel
theorem dX9_encode_171 : decode cX9_encode 171 = .ok (.goto (-26), 3) := by decide +kernel
theorem dX9_encode_174 : decode cX9_encode 174 = .ok (.aload_n 0, 1) := by decide +kernel
theorem dX9_encode_175 : decode cX9_encode 175 = .ok (.getfield 73, 3) := by decide +kernel
theorem dX9_encode_178 : decode cX9_encode 178 = .ok (.ireturn, 1) := by decide +kernel
theorem dX9_bytes_0 : decode cX9_bytes 0 = .ok (.aload_n 0, 1) := by decide +kernel
theorem dX9_bytes_1 : decode cX9_bytes 1 = .ok (.getfield 7, 3) := by decide +kernel
theorem dX9_bytes_4 : decode cX9_bytes 4 = .ok (.iconst 5, 1) := by decide +kernel
theorem dX9_bytes_5 : decode cX9_bytes 5 = .ok (.iaload, 1) := by decide +kernel
theorem dX9_bytes_6 : decode cX9_bytes 6 = .ok (.ireturn, 1) := by decide +kernel
theorem dX9_codeByte_0 : decode cX9_codeByte 0 = .ok (.iload_n 1, 1) := by decide +kernel
theorem dX9_codeByte_1 : decode cX9_codeByte 1 = .ok (.iconst 0, 1) := by decide +kernel
theorem dX9_codeByte_2 : decode cX9_codeByte 2 = .ok (.aload_n 0, 1) := by decide +kernel
theorem dX9_codeByte_3 : decode cX9_codeByte 3 = .ok (.getfield 7, 3) := by decide +kernel
theorem dX9_codeByte_6 : decode cX9_codeByte 6 = .ok (.iconst 5, 1) := by decide +kernel
theorem dX9_codeByte_7 : decode cX9_codeByte 7 = .ok (.iaload, 1) := by decide +kernel
theorem dX9_codeByte_8 : decode cX9_codeByte 8 = .ok (.iconst 1, 1) := by decide +kernel
theorem dX9_codeByte_9 : decode cX9_codeByte 9 = .ok (.isub, 1) := by decide +kernel
theorem dX9_codeByte_10 : decode cX9_codeByte 10 = .ok (.invokestatic 130, 3) := by decide +kernel
theorem dX9_codeByte_13 : decode cX9_codeByte 13 = .ok (.ifCond .eq 16, 3) := by decide +kernel
theorem dX9_codeByte_16 : decode cX9_codeByte 16 = .ok (.aload_n 0, 1) := by decide +kernel
theorem dX9_codeByte_17 : decode cX9_codeByte 17 = .ok (.getfield 7, 3) := by decide +kernel
theorem dX9_codeByte_20 : decode cX9_codeByte 20 = .ok (.sipush 24260, 3) := by decide +kernel
theorem dX9_codeByte_23 : decode cX9_codeByte 23 = .ok (.iload_n 1, 1) := by decide +kernel
theorem dX9_codeByte_24 : decode cX9_codeByte 24 = .ok (.iadd, 1) := by decide +kernel
theorem dX9_codeByte_25 : decode cX9_codeByte 25 = .ok (.iaload, 1) := by decide +kernel
theorem dX9_codeByte_26 : decode cX9_codeByte 26 = .ok (.goto 4, 3) := by decide +kernel
theorem dX9_codeByte_29 : decode cX9_codeByte 29 = .ok (.iconst (-1), 1) := by decide +kernel
theorem dX9_codeByte_30 : decode cX9_codeByte 30 = .ok (.ireturn, 1) := by decide +kernel
theorem dX9_longestCarry_0 : decode cX9_longestCarry 0 = .ok (.aload_n 0, 1) := by decide +kernel
theorem dX9_longestCarry_1 : decode cX9_longestCarry 1 = .ok (.getfield 7, 3) := by decide +kernel
theorem dX9_longestCarry_4 : decode cX9_longestCarry 4 = .ok (.bipush 6, 2) := by decide +kernel
theorem dX9_longestCarry_6 : decode cX9_longestCarry 6 = .ok (.iaload, 1) := by decide +kernel
theorem dX9_longestCarry_7 : decode cX9_longestCarry 7 = .ok (.ireturn, 1) := by decide +kernel
theorem dX9_nextByte_0 : decode cX9_nextByte 0 = .ok (.aload_n 0, 1) := by decide +kernel
theorem dX9_nextByte_1 : decode cX9_nextByte 1 = .ok (.getfield 180, 3) := by decide +kernel
theorem dX9_nextByte_4 : decode cX9_nextByte 4 = .ok (.aload_n 0, 1) := by decide +kernel
theorem dX9_nextByte_5 : decode cX9_nextByte 5 = .ok (.getfield 7, 3) := by decide +kernel
theorem dX9_nextByte_8 : decode cX9_nextByte 8 = .ok (.iconst 5, 1) := by decide +kernel
theorem dX9_nextByte_9 : decode cX9_nextByte 9 = .ok (.iaload, 1) := by decide +kernel
theorem dX9_nextByte_10 : decode cX9_nextByte 10 = .ok (.if_icmp .ge 19, 3) := by decide +kernel
theorem dX9_nextByte_13 : decode cX9_nextByte 13 = .ok (.aload_n 0, 1) := by decide +kernel
theorem dX9_nextByte_14 : decode cX9_nextByte 14 = .ok (.getfield 7, 3) := by decide +kernel
theorem dX9_nextByte_17 : decode cX9_nextByte 17 = .ok (.sipush 24260, 3) := by decide +kernel
theorem dX9_nextByte_20 : decode cX9_nextByte 20 = .ok (.aload_n 0, 1) := by decide +kernel
theorem dX9_nextByte_21 : decode cX9_nextByte 21 = .ok (.getfield 180, 3) := by decide +kernel
theorem dX9_nextByte_24 : decode cX9_nextByte 24 = .ok (.iadd, 1) := by decide +kernel
theorem dX9_nextByte_25 : decode cX9_nextByte 25 = .ok (.iaload, 1) := by decide +kernel
theorem dX9_nextByte_26 : decode cX9_nextByte 26 = .ok (.goto 4, 3) := by decide +kernel
theorem dX9_nextByte_29 : decode cX9_nextByte 29 = .ok (.iconst 0, 1) := by decide +kernel
theorem dX9_nextByte_30 : decode cX9_nextByte 30 = .ok (.istore_n 1, 1) := by decide +kernel
theorem dX9_nextByte_31 : decode cX9_nextByte 31 = .ok (.aload_n 0, 1) := by decide +kernel
theorem dX9_nextByte_32 : decode cX9_nextByte 32 = .ok (.dup, 1) := by decide +kernel
theorem dX9_nextByte_33 : decode cX9_nextByte 33 = .ok (.getfield 180, 3) := by decide +kernel
theorem dX9_nextByte_36 : decode cX9_nextByte 36 = .ok (.iconst 1, 1) := by decide +kernel
theorem dX9_nextByte_37 : decode cX9_nextByte 37 = .ok (.iadd, 1) := by decide +kernel
theorem dX9_nextByte_38 : decode cX9_nextByte 38 = .ok (.putfield 180, 3) := by decide +kernel
theorem dX9_nextByte_41 : decode cX9_nextByte 41 = .ok (.iload_n 1, 1) := by decide +kernel
theorem dX9_nextByte_42 : decode cX9_nextByte 42 = .ok (.ireturn, 1) := by decide +kernel
theorem dX9_target_0 : decode cX9_target 0 = .ok (.aload_n 0, 1) := by decide +kernel
theorem dX9_target_1 : decode cX9_target 1 = .ok (.getfield 183, 3) := by decide +kernel
theorem dX9_target_4 : decode cX9_target 4 = .ok (.aload_n 0, 1) := by decide +kernel
theorem dX9_target_5 : decode cX9_target 5 = .ok (.getfield 70, 3) := by decide +kernel
theorem dX9_target_8 : decode cX9_target 8 = .ok (.iload_n 1, 1) := by decide +kernel
theorem dX9_target_9 : decode cX9_target 9 = .ok (.i2l, 1) := by decide +kernel
theorem dX9_target_10 : decode cX9_target 10 = .ok (.ldiv, 1) := by decide +kernel
theorem dX9_target_11 : decode cX9_target 11 = .ok (.ldiv, 1) := by decide +kernel
theorem dX9_target_12 : decode cX9_target 12 = .ok (.lstore_n 2, 1) := by decide +kernel
theorem dX9_target_13 : decode cX9_target 13 = .ok (.lload_n 2, 1) := by decide +kernel
theorem dX9_target_14 : decode cX9_target 14 = .ok (.iload_n 1, 1) := by decide +kernel
theorem dX9_target_15 : decode cX9_target 15 = .ok (.i2l, 1) := by decide +kernel
theorem dX9_target_16 : decode cX9_target 16 = .ok (.lconst 1, 1) := by decide +kernel
theorem dX9_target_17 : decode cX9_target 17 = .ok (.lsub, 1) := by decide +kernel
theorem dX9_target_18 : decode cX9_target 18 = .ok (.lcmp, 1) := by decide +kernel
theorem dX9_target_19 : decode cX9_target 19 = .ok (.ifCond .le 9, 3) := by decide +kernel
theorem dX9_target_22 : decode cX9_target 22 = .ok (.iload_n 1, 1) := by decide +kernel
theorem dX9_target_23 : decode cX9_target 23 = .ok (.iconst 1, 1) := by decide +kernel
theorem dX9_target_24 : decode cX9_target 24 = .ok (.isub, 1) := by decide +kernel
theorem dX9_target_25 : decode cX9_target 25 = .ok (.goto 5, 3) := by decide +kernel
theorem dX9_target_28 : decode cX9_target 28 = .ok (.lload_n 2, 1) := by decide +kernel
theorem dX9_target_29 : decode cX9_target 29 = .ok (.l2i, 1) := by decide +kernel
theorem dX9_target_30 : decode cX9_target 30 = .ok (.ireturn, 1) := by decide +kernel
theorem dX9_reads_0 : decode cX9_reads 0 = .ok (.aload_n 0, 1) := by decide +kernel
theorem dX9_reads_1 : decode cX9_reads 1 = .ok (.getfield 70, 3) := by decide +kernel
theorem dX9_reads_4 : decode cX9_reads 4 = .ok (.iload_n 3, 1) := by decide +kernel
theorem dX9_reads_5 : decode cX9_reads 5 = .ok (.i2l, 1) := by decide +kernel
theorem dX9_reads_6 : decode cX9_reads 6 = .ok (.ldiv, 1) := by decide +kernel
theorem dX9_reads_7 : decode cX9_reads 7 = .ok (.lstore 4, 2) := by decide +kernel
theorem dX9_reads_9 : decode cX9_reads 9 = .ok (.aload_n 0, 1) := by decide +kernel
theorem dX9_reads_10 : decode cX9_reads 10 = .ok (.dup, 1) := by decide +kernel
theorem dX9_reads_11 : decode cX9_reads 11 = .ok (.getfield 183, 3) := by decide +kernel
theorem dX9_reads_14 : decode cX9_reads 14 = .ok (.lload 4, 2) := by decide +kernel
theorem dX9_reads_16 : decode cX9_reads 16 = .ok (.iload_n 1, 1) := by decide +kernel
theorem dX9_reads_17 : decode cX9_reads 17 = .ok (.i2l, 1) := by decide +kernel
theorem dX9_reads_18 : decode cX9_reads 18 = .ok (.lmul, 1) := by decide +kernel
theorem dX9_reads_19 : decode cX9_reads 19 = .ok (.lsub, 1) := by decide +kernel
theorem dX9_reads_20 : decode cX9_reads 20 = .ok (.putfield 183, 3) := by decide +kernel
theorem dX9_reads_23 : decode cX9_reads 23 = .ok (.aload_n 0, 1) := by decide +kernel
theorem dX9_reads_24 : decode cX9_reads 24 = .ok (.iload_n 2, 1) := by decide +kernel
theorem dX9_reads_25 : decode cX9_reads 25 = .ok (.iload_n 3, 1) := by decide +kernel
theorem dX9_reads_26 : decode cX9_reads 26 = .ok (.if_icmp .ge 13, 3) := by decide +kernel
theorem dX9_reads_29 : decode cX9_reads 29 = .ok (.lload 4, 2) := by decide +kernel
theorem dX9_reads_31 : decode cX9_reads 31 = .ok (.iload_n 2, 1) := by decide +kernel
theorem dX9_reads_32 : decode cX9_reads 32 = .ok (.iload_n 1, 1) := by decide +kernel
theorem dX9_reads_33 : decode cX9_reads 33 = .ok (.isub, 1) := by decide +kernel
theorem dX9_reads_34 : decode cX9_reads 34 = .ok (.i2l, 1) := by decide +kernel
theorem dX9_reads_35 : decode cX9_reads 35 = .ok (.lmul, 1) := by decide +kernel
theorem dX9_reads_36 : decode cX9_reads 36 = .ok (.goto 13, 3) := by decide +kernel
theorem dX9_reads_39 : decode cX9_reads 39 = .ok (.aload_n 0, 1) := by decide +kernel
theorem dX9_reads_40 : decode cX9_reads 40 = .ok (.getfield 70, 3) := by decide +kernel
theorem dX9_reads_43 : decode cX9_reads 43 = .ok (.lload 4, 2) := by decide +kernel
theorem dX9_reads_45 : decode cX9_reads 45 = .ok (.iload_n 1, 1) := by decide +kernel
theorem dX9_reads_46 : decode cX9_reads 46 = .ok (.i2l, 1) := by decide +kernel
theorem dX9_reads_47 : decode cX9_reads 47 = .ok (.lmul, 1) := by decide +kernel
theorem dX9_reads_48 : decode cX9_reads 48 = .ok (.lsub, 1) := by decide +kernel
theorem dX9_reads_49 : decode cX9_reads 49 = .ok (.putfield 70, 3) := by decide +kernel
theorem dX9_reads_52 : decode cX9_reads 52 = .ok (.aload_n 0, 1) := by decide +kernel
theorem dX9_reads_53 : decode cX9_reads 53 = .ok (.getfield 70, 3) := by decide +kernel
theorem dX9_reads_56 : decode cX9_reads 56 = .ok (.ldc2_w 82, 3) := by decide +kernel
theorem dX9_reads_59 : decode cX9_reads 59 = .ok (.lcmp, 1) := by decide +kernel
theorem dX9_reads_60 : decode cX9_reads 60 = .ok (.ifCond .gt 40, 3) := by decide +kernel
theorem dX9_reads_63 : decode cX9_reads 63 = .ok (.aload_n 0, 1) := by decide +kernel
theorem dX9_reads_64 : decode cX9_reads 64 = .ok (.aload_n 0, 1) := by decide +kernel
theorem dX9_reads_65 : decode cX9_reads 65 = .ok (.getfield 183, 3) := by decide +kernel
theorem dX9_reads_68 : decode cX9_reads 68 = .ok (.ldc2_w 84, 3) := by decide +kernel
theorem dX9_reads_71 : decode cX9_reads 71 = .ok (.lmul, 1) := by decide +kernel
theorem dX9_reads_72 : decode cX9_reads 72 = .ok (.aload_n 0, 1) := by decide +kernel
theorem dX9_reads_73 : decode cX9_reads 73 = .ok (.invokevirtual 186, 3) := by decide +kernel
theorem dX9_reads_76 : decode cX9_reads 76 = .ok (.i2l, 1) := by decide +kernel
theorem dX9_reads_77 : decode cX9_reads 77 = .ok (.ladd, 1) := by decide +kernel
theorem dX9_reads_78 : decode cX9_reads 78 = .ok (.ldc2_w 68, 3) := by decide +kernel
theorem dX9_reads_81 : decode cX9_reads 81 = .ok (.lrem, 1) := by decide +kernel
theorem dX9_reads_82 : decode cX9_reads 82 = .ok (.putfield 183, 3) := by decide +kernel
theorem dX9_reads_85 : decode cX9_reads 85 = .ok (.aload_n 0, 1) := by decide +kernel
theorem dX9_reads_86 : decode cX9_reads 86 = .ok (.dup, 1) := by decide +kernel
theorem dX9_reads_87 : decode cX9_reads 87 = .ok (.getfield 70, 3) := by decide +kernel
theorem dX9_reads_90 : decode cX9_reads 90 = .ok (.ldc2_w 84, 3) := by decide +kernel
theorem dX9_reads_93 : decode cX9_reads 93 = .ok (.lmul, 1) := by decide +kernel
theorem dX9_reads_94 : decode cX9_reads 94 = .ok (.putfield 70, 3) := by decide +kernel
theorem dX9_reads_97 : decode cX9_reads 97 = .ok (.goto (-45), 3) := by decide +kernel
theorem dX9_reads_100 : decode cX9_reads 100 = .ok (.return_, 1) := by decide +kernel
theorem dX9_decodes_0 : decode cX9_decodes 0 = .ok (.aload_n 0, 1) := by decide +kernel
theorem dX9_decodes_1 : decode cX9_decodes 1 = .ok (.invokevirtual 113, 3) := by decide +kernel
theorem dX9_decodes_4 : decode cX9_decodes 4 = .ok (.iload_n 2, 1) := by decide +kernel
theorem dX9_decodes_5 : decode cX9_decodes 5 = .ok (.aload_n 0, 1) := by decide +kernel
theorem dX9_decodes_6 : decode cX9_decodes 6 = .ok (.getfield 7, 3) := by decide +kernel
theorem dX9_decodes_9 : decode cX9_decodes 9 = .ok (.iconst 0, 1) := by decide +kernel
theorem dX9_decodes_10 : decode cX9_decodes 10 = .ok (.iaload, 1) := by decide +kernel
theorem dX9_decodes_11 : decode cX9_decodes 11 = .ok (.if_icmp .ge 7, 3) := by decide +kernel
theorem dX9_decodes_14 : decode cX9_decodes 14 = .ok (.iload_n 2, 1) := by decide +kernel
theorem dX9_decodes_15 : decode cX9_decodes 15 = .ok (.goto 9, 3) := by decide +kernel
theorem dX9_decodes_18 : decode cX9_decodes 18 = .ok (.aload_n 0, 1) := by decide +kernel
theorem dX9_decodes_19 : decode cX9_decodes 19 = .ok (.getfield 7, 3) := by decide +kernel
theorem dX9_decodes_22 : decode cX9_decodes 22 = .ok (.iconst 0, 1) := by decide +kernel
theorem dX9_decodes_23 : decode cX9_decodes 23 = .ok (.iaload, 1) := by decide +kernel
theorem dX9_decodes_24 : decode cX9_decodes 24 = .ok (.istore_n 3, 1) := by decide +kernel
theorem dX9_decodes_25 : decode cX9_decodes 25 = .ok (.iload_n 3, 1) := by decide +kernel
theorem dX9_decodes_26 : decode cX9_decodes 26 = .ok (.ifCond .lt 140, 3) := by decide +kernel
theorem dX9_decodes_29 : decode cX9_decodes 29 = .ok (.aload_n 0, 1) := by decide +kernel
theorem dX9_decodes_30 : decode cX9_decodes 30 = .ok (.aload_n 1, 1) := by decide +kernel
theorem dX9_decodes_31 : decode cX9_decodes 31 = .ok (.iload_n 2, 1) := by decide +kernel
theorem dX9_decodes_32 : decode cX9_decodes 32 = .ok (.iload_n 3, 1) := by decide +kernel
theorem dX9_decodes_33 : decode cX9_decodes 33 = .ok (.invokevirtual 57, 3) := by decide +kernel
theorem dX9_decodes_36 : decode cX9_decodes 36 = .ok (.istore 4, 2) := by decide +kernel
theorem dX9_decodes_38 : decode cX9_decodes 38 = .ok (.iload 4, 2) := by decide +kernel
theorem dX9_decodes_40 : decode cX9_decodes 40 = .ok (.ifCond .lt 120, 3) := by decide +kernel
theorem dX9_decodes_43 : decode cX9_decodes 43 = .ok (.aload_n 0, 1) := by decide +kernel
theorem dX9_decodes_44 : decode cX9_decodes 44 = .ok (.iload 4, 2) := by decide +kernel
theorem dX9_decodes_46 : decode cX9_decodes 46 = .ok (.bipush 96, 2) := by decide +kernel
theorem dX9_decodes_48 : decode cX9_decodes 48 = .ok (.invokevirtual 116, 3) := by decide +kernel
theorem dX9_decodes_51 : decode cX9_decodes 51 = .ok (.istore 5, 2) := by decide +kernel
theorem dX9_decodes_53 : decode cX9_decodes 53 = .ok (.aload_n 0, 1) := by decide +kernel
theorem dX9_decodes_54 : decode cX9_decodes 54 = .ok (.iload 4, 2) := by decide +kernel
theorem dX9_decodes_56 : decode cX9_decodes 56 = .ok (.invokevirtual 119, 3) := by decide +kernel
theorem dX9_decodes_59 : decode cX9_decodes 59 = .ok (.istore 6, 2) := by decide +kernel
theorem dX9_decodes_61 : decode cX9_decodes 61 = .ok (.aload_n 0, 1) := by decide +kernel
theorem dX9_decodes_62 : decode cX9_decodes 62 = .ok (.iload 5, 2) := by decide +kernel
theorem dX9_decodes_64 : decode cX9_decodes 64 = .ok (.iload 6, 2) := by decide +kernel
theorem dX9_decodes_66 : decode cX9_decodes 66 = .ok (.iadd, 1) := by decide +kernel
theorem dX9_decodes_67 : decode cX9_decodes 67 = .ok (.invokevirtual 190, 3) := by decide +kernel
theorem dX9_decodes_70 : decode cX9_decodes 70 = .ok (.istore 7, 2) := by decide +kernel
theorem dX9_decodes_72 : decode cX9_decodes 72 = .ok (.iload 7, 2) := by decide +kernel
theorem dX9_decodes_74 : decode cX9_decodes 74 = .ok (.iload 5, 2) := by decide +kernel
theorem dX9_decodes_76 : decode cX9_decodes 76 = .ok (.if_icmp .ge 62, 3) := by decide +kernel
theorem dX9_decodes_79 : decode cX9_decodes 79 = .ok (.iconst 0, 1) := by decide +kernel
theorem dX9_decodes_80 : decode cX9_decodes 80 = .ok (.istore 8, 2) := by decide +kernel
theorem dX9_decodes_82 : decode cX9_decodes 82 = .ok (.aload_n 0, 1) := by decide +kernel
theorem dX9_decodes_83 : decode cX9_decodes 83 = .ok (.iload 4, 2) := by decide +kernel
theorem dX9_decodes_85 : decode cX9_decodes 85 = .ok (.iload 8, 2) := by decide +kernel
theorem dX9_decodes_87 : decode cX9_decodes 87 = .ok (.iconst 1, 1) := by decide +kernel
theorem dX9_decodes_88 : decode cX9_decodes 88 = .ok (.iadd, 1) := by decide +kernel
theorem dX9_decodes_89 : decode cX9_decodes 89 = .ok (.invokevirtual 116, 3) := by decide +kernel
theorem dX9_decodes_92 : decode cX9_decodes 92 = .ok (.iload 7, 2) := by decide +kernel
theorem dX9_decodes_94 : decode cX9_decodes 94 = .ok (.if_icmp .gt 9, 3) := by decide +kernel
theorem dX9_decodes_97 : decode cX9_decodes 97 = .ok (.iinc 8 1, 3) := by decide +kernel
theorem dX9_decodes_100 : decode cX9_decodes 100 = .ok (.goto (-18), 3) := by decide +kernel
theorem dX9_decodes_103 : decode cX9_decodes 103 = .ok (.aload_n 0, 1) := by decide +kernel
theorem dX9_decodes_104 : decode cX9_decodes 104 = .ok (.iload 4, 2) := by decide +kernel
theorem dX9_decodes_106 : decode cX9_decodes 106 = .ok (.iload 8, 2) := by decide +kernel
theorem dX9_decodes_108 : decode cX9_decodes 108 = .ok (.invokevirtual 116, 3) := by decide +kernel
theorem dX9_decodes_111 : decode cX9_decodes 111 = .ok (.istore 9, 2) := by decide +kernel
theorem dX9_decodes_113 : decode cX9_decodes 113 = .ok (.aload_n 0, 1) := by decide +kernel
theorem dX9_decodes_114 : decode cX9_decodes 114 = .ok (.iload 9, 2) := by decide +kernel
theorem dX9_decodes_116 : decode cX9_decodes 116 = .ok (.iload 9, 2) := by decide +kernel
theorem dX9_decodes_118 : decode cX9_decodes 118 = .ok (.aload_n 0, 1) := by decide +kernel
theorem dX9_decodes_119 : decode cX9_decodes 119 = .ok (.iload 4, 2) := by decide +kernel
theorem dX9_decodes_121 : decode cX9_decodes 121 = .ok (.iload 8, 2) := by decide +kernel
theorem dX9_decodes_123 : decode cX9_decodes 123 = .ok (.invokevirtual 49, 3) := by decide +kernel
theorem dX9_decodes_126 : decode cX9_decodes 126 = .ok (.iadd, 1) := by decide +kernel
theorem dX9_decodes_127 : decode cX9_decodes 127 = .ok (.iload 5, 2) := by decide +kernel
theorem dX9_decodes_129 : decode cX9_decodes 129 = .ok (.iload 6, 2) := by decide +kernel
theorem dX9_decodes_131 : decode cX9_decodes 131 = .ok (.iadd, 1) := by decide +kernel
theorem dX9_decodes_132 : decode cX9_decodes 132 = .ok (.invokevirtual 193, 3) := by decide +kernel
theorem dX9_decodes_135 : decode cX9_decodes 135 = .ok (.iload 8, 2) := by decide +kernel
theorem dX9_decodes_137 : decode cX9_decodes 137 = .ok (.ireturn, 1) := by decide +kernel
theorem dX9_decodes_138 : decode cX9_decodes 138 = .ok (.aload_n 0, 1) := by decide +kernel
theorem dX9_decodes_139 : decode cX9_decodes 139 = .ok (.iload 5, 2) := by decide +kernel
theorem dX9_decodes_141 : decode cX9_decodes 141 = .ok (.iload 5, 2) := by decide +kernel
theorem dX9_decodes_143 : decode cX9_decodes 143 = .ok (.iload 6, 2) := by decide +kernel
theorem dX9_decodes_145 : decode cX9_decodes 145 = .ok (.iadd, 1) := by decide +kernel
theorem dX9_decodes_146 : decode cX9_decodes 146 = .ok (.iload 5, 2) := by decide +kernel
theorem dX9_decodes_148 : decode cX9_decodes 148 = .ok (.iload 6, 2) := by decide +kernel
theorem dX9_decodes_150 : decode cX9_decodes 150 = .ok (.iadd, 1) := by decide +kernel
theorem dX9_decodes_151 : decode cX9_decodes 151 = .ok (.invokevirtual 193, 3) := by decide +kernel
theorem dX9_decodes_154 : decode cX9_decodes 154 = .ok (.aload_n 0, 1) := by decide +kernel
theorem dX9_decodes_155 : decode cX9_decodes 155 = .ok (.iload 4, 2) := by decide +kernel
theorem dX9_decodes_157 : decode cX9_decodes 157 = .ok (.invokevirtual 126, 3) := by decide +kernel
theorem dX9_decodes_160 : decode cX9_decodes 160 = .ok (.iinc 3 (-1), 3) := by decide +kernel
theorem dX9_decodes_163 : decode cX9_decodes 163 = .ok (.goto (-138), 3) := by decide +kernel
theorem dX9_decodes_166 : decode cX9_decodes 166 = .ok (.iconst 0, 1) := by decide +kernel
theorem dX9_decodes_167 : decode cX9_decodes 167 = .ok (.istore_n 3, 1) := by decide +kernel
theorem dX9_decodes_168 : decode cX9_decodes 168 = .ok (.iconst 0, 1) := by decide +kernel
theorem dX9_decodes_169 : decode cX9_decodes 169 = .ok (.istore 4, 2) := by decide +kernel
theorem dX9_decodes_171 : decode cX9_decodes 171 = .ok (.iload 4, 2) := by decide +kernel
theorem dX9_decodes_173 : decode cX9_decodes 173 = .ok (.bipush 96, 2) := by decide +kernel
theorem dX9_decodes_175 : decode cX9_decodes 175 = .ok (.if_icmp .ge 27, 3) := by decide +kernel
theorem dX9_decodes_178 : decode cX9_decodes 178 = .ok (.iload_n 3, 1) := by decide +kernel
theorem dX9_decodes_179 : decode cX9_decodes 179 = .ok (.aload_n 0, 1) := by decide +kernel
theorem dX9_decodes_180 : decode cX9_decodes 180 = .ok (.getfield 26, 3) := by decide +kernel
theorem dX9_decodes_183 : decode cX9_decodes 183 = .ok (.iload 4, 2) := by decide +kernel
theorem dX9_decodes_185 : decode cX9_decodes 185 = .ok (.baload, 1) := by decide +kernel
theorem dX9_decodes_186 : decode cX9_decodes 186 = .ok (.ifCond .eq 7, 3) := by decide +kernel
theorem dX9_decodes_189 : decode cX9_decodes 189 = .ok (.iconst 0, 1) := by decide +kernel
theorem dX9_decodes_190 : decode cX9_decodes 190 = .ok (.goto 4, 3) := by decide +kernel
theorem dX9_decodes_193 : decode cX9_decodes 193 = .ok (.iconst 1, 1) := by decide +kernel
theorem dX9_decodes_194 : decode cX9_decodes 194 = .ok (.iadd, 1) := by decide +kernel
theorem dX9_decodes_195 : decode cX9_decodes 195 = .ok (.istore_n 3, 1) := by decide +kernel
theorem dX9_decodes_196 : decode cX9_decodes 196 = .ok (.iinc 4 1, 3) := by decide +kernel
theorem dX9_decodes_199 : decode cX9_decodes 199 = .ok (.goto (-28), 3) := by decide +kernel
theorem dX9_decodes_202 : decode cX9_decodes 202 = .ok (.iload_n 3, 1) := by decide +kernel
theorem dX9_decodes_203 : decode cX9_decodes 203 = .ok (.ifCond .ne 5, 3) := by decide +kernel
theorem dX9_decodes_206 : decode cX9_decodes 206 = .ok (.iconst (-1), 1) := by decide +kernel
theorem dX9_decodes_207 : decode cX9_decodes 207 = .ok (.ireturn, 1) := by decide +kernel
theorem dX9_decodes_208 : decode cX9_decodes 208 = .ok (.aload_n 0, 1) := by decide +kernel
theorem dX9_decodes_209 : decode cX9_decodes 209 = .ok (.iload_n 3, 1) := by decide +kernel
theorem dX9_decodes_210 : decode cX9_decodes 210 = .ok (.invokevirtual 190, 3) := by decide +kernel
theorem dX9_decodes_213 : decode cX9_decodes 213 = .ok (.istore 4, 2) := by decide +kernel
theorem dX9_decodes_215 : decode cX9_decodes 215 = .ok (.aload_n 0, 1) := by decide +kernel
theorem dX9_decodes_216 : decode cX9_decodes 216 = .ok (.iload 4, 2) := by decide +kernel
theorem dX9_decodes_218 : decode cX9_decodes 218 = .ok (.iload 4, 2) := by decide +kernel
theorem dX9_decodes_220 : decode cX9_decodes 220 = .ok (.iconst 1, 1) := by decide +kernel
theorem dX9_decodes_221 : decode cX9_decodes 221 = .ok (.iadd, 1) := by decide +kernel
theorem dX9_decodes_222 : decode cX9_decodes 222 = .ok (.iload_n 3, 1) := by decide +kernel
theorem dX9_decodes_223 : decode cX9_decodes 223 = .ok (.invokevirtual 193, 3) := by decide +kernel
theorem dX9_decodes_226 : decode cX9_decodes 226 = .ok (.iload 4, 2) := by decide +kernel
theorem dX9_decodes_228 : decode cX9_decodes 228 = .ok (.istore 5, 2) := by decide +kernel
theorem dX9_decodes_230 : decode cX9_decodes 230 = .ok (.iconst 0, 1) := by decide +kernel
theorem dX9_decodes_231 : decode cX9_decodes 231 = .ok (.istore 6, 2) := by decide +kernel
theorem dX9_decodes_233 : decode cX9_decodes 233 = .ok (.aload_n 0, 1) := by decide +kernel
theorem dX9_decodes_234 : decode cX9_decodes 234 = .ok (.getfield 26, 3) := by decide +kernel
theorem dX9_decodes_237 : decode cX9_decodes 237 = .ok (.iload 6, 2) := by decide +kernel
theorem dX9_decodes_239 : decode cX9_decodes 239 = .ok (.baload, 1) := by decide +kernel
theorem dX9_decodes_240 : decode cX9_decodes 240 = .ok (.ifCond .ne 8, 3) := by decide +kernel
theorem dX9_decodes_243 : decode cX9_decodes 243 = .ok (.iload 5, 2) := by decide +kernel
theorem dX9_decodes_245 : decode cX9_decodes 245 = .ok (.ifCond .le 29, 3) := by decide +kernel
theorem dX9_decodes_248 : decode cX9_decodes 248 = .ok (.iload 5, 2) := by decide +kernel
theorem dX9_decodes_250 : decode cX9_decodes 250 = .ok (.aload_n 0, 1) := by decide +kernel
theorem dX9_decodes_251 : decode cX9_decodes 251 = .ok (.getfield 26, 3) := by decide +kernel
theorem dX9_decodes_254 : decode cX9_decodes 254 = .ok (.iload 6, 2) := by decide +kernel
theorem dX9_decodes_256 : decode cX9_decodes 256 = .ok (.baload, 1) := by decide +kernel
theorem dX9_decodes_257 : decode cX9_decodes 257 = .ok (.ifCond .eq 7, 3) := by decide +kernel
theorem dX9_decodes_260 : decode cX9_decodes 260 = .ok (.iconst 0, 1) := by decide +kernel
theorem dX9_decodes_261 : decode cX9_decodes 261 = .ok (.goto 4, 3) := by decide +kernel
theorem dX9_decodes_264 : decode cX9_decodes 264 = .ok (.iconst 1, 1) := by decide +kernel
theorem dX9_decodes_265 : decode cX9_decodes 265 = .ok (.isub, 1) := by decide +kernel
theorem dX9_decodes_266 : decode cX9_decodes 266 = .ok (.istore 5, 2) := by decide +kernel
theorem dX9_decodes_268 : decode cX9_decodes 268 = .ok (.iinc 6 1, 3) := by decide +kernel
theorem dX9_decodes_271 : decode cX9_decodes 271 = .ok (.goto (-38), 3) := by decide +kernel
theorem dX9_decodes_274 : decode cX9_decodes 274 = .ok (.iload 6, 2) := by decide +kernel
theorem dX9_decodes_276 : decode cX9_decodes 276 = .ok (.ireturn, 1) := by decide +kernel
theorem dX9_decodesAll_0 : decode cX9_decodesAll 0 = .ok (.aload_n 0, 1) := by decide +kernel
theorem dX9_decodesAll_1 : decode cX9_decodesAll 1 = .ok (.lconst 0, 1) := by decide +kernel
theorem dX9_decodesAll_2 : decode cX9_decodesAll 2 = .ok (.putfield 183, 3) := by decide +kernel
theorem dX9_decodesAll_5 : decode cX9_decodesAll 5 = .ok (.aload_n 0, 1) := by decide +kernel
theorem dX9_decodesAll_6 : decode cX9_decodesAll 6 = .ok (.iconst 0, 1) := by decide +kernel
theorem dX9_decodesAll_7 : decode cX9_decodesAll 7 = .ok (.putfield 180, 3) := by decide +kernel
theorem dX9_decodesAll_10 : decode cX9_decodesAll 10 = .ok (.aload_n 0, 1) := by decide +kernel
theorem dX9_decodesAll_11 : decode cX9_decodesAll 11 = .ok (.ldc2_w 68, 3) := by decide +kernel
theorem dX9_decodesAll_14 : decode cX9_decodesAll 14 = .ok (.putfield 70, 3) := by decide +kernel
theorem dX9_decodesAll_17 : decode cX9_decodesAll 17 = .ok (.iconst 0, 1) := by decide +kernel
theorem dX9_decodesAll_18 : decode cX9_decodesAll 18 = .ok (.istore_n 1, 1) := by decide +kernel
theorem dX9_decodesAll_19 : decode cX9_decodesAll 19 = .ok (.iload_n 1, 1) := by decide +kernel
theorem dX9_decodesAll_20 : decode cX9_decodesAll 20 = .ok (.iconst 4, 1) := by decide +kernel
theorem dX9_decodesAll_21 : decode cX9_decodesAll 21 = .ok (.if_icmp .ge 27, 3) := by decide +kernel
theorem dX9_decodesAll_24 : decode cX9_decodesAll 24 = .ok (.aload_n 0, 1) := by decide +kernel
theorem dX9_decodesAll_25 : decode cX9_decodesAll 25 = .ok (.aload_n 0, 1) := by decide +kernel
theorem dX9_decodesAll_26 : decode cX9_decodesAll 26 = .ok (.getfield 183, 3) := by decide +kernel
theorem dX9_decodesAll_29 : decode cX9_decodesAll 29 = .ok (.ldc2_w 84, 3) := by decide +kernel
theorem dX9_decodesAll_32 : decode cX9_decodesAll 32 = .ok (.lmul, 1) := by decide +kernel
theorem dX9_decodesAll_33 : decode cX9_decodesAll 33 = .ok (.aload_n 0, 1) := by decide +kernel
theorem dX9_decodesAll_34 : decode cX9_decodesAll 34 = .ok (.invokevirtual 186, 3) := by decide +kernel
theorem dX9_decodesAll_37 : decode cX9_decodesAll 37 = .ok (.i2l, 1) := by decide +kernel
theorem dX9_decodesAll_38 : decode cX9_decodesAll 38 = .ok (.ladd, 1) := by decide +kernel
theorem dX9_decodesAll_39 : decode cX9_decodesAll 39 = .ok (.putfield 183, 3) := by decide +kernel
theorem dX9_decodesAll_42 : decode cX9_decodesAll 42 = .ok (.iinc 1 1, 3) := by decide +kernel
theorem dX9_decodesAll_45 : decode cX9_decodesAll 45 = .ok (.goto (-26), 3) := by decide +kernel
theorem dX9_decodesAll_48 : decode cX9_decodesAll 48 = .ok (.aload_n 0, 1) := by decide +kernel
theorem dX9_decodesAll_49 : decode cX9_decodesAll 49 = .ok (.iconst 0, 1) := by decide +kernel
theorem dX9_decodesAll_50 : decode cX9_decodesAll 50 = .ok (.putfield 196, 3) := by decide +kernel
theorem dX9_decodesAll_53 : decode cX9_decodesAll 53 = .ok (.aload_n 0, 1) := by decide +kernel
theorem dX9_decodesAll_54 : decode cX9_decodesAll 54 = .ok (.aload_n 0, 1) := by decide +kernel
theorem dX9_decodesAll_55 : decode cX9_decodesAll 55 = .ok (.getfield 33, 3) := by decide +kernel
theorem dX9_decodesAll_58 : decode cX9_decodesAll 58 = .ok (.iconst 0, 1) := by decide +kernel
theorem dX9_decodesAll_59 : decode cX9_decodesAll 59 = .ok (.invokevirtual 199, 3) := by decide +kernel
theorem dX9_decodesAll_62 : decode cX9_decodesAll 62 = .ok (.istore_n 1, 1) := by decide +kernel
theorem dX9_decodesAll_63 : decode cX9_decodesAll 63 = .ok (.iload_n 1, 1) := by decide +kernel
theorem dX9_decodesAll_64 : decode cX9_decodesAll 64 = .ok (.bipush 95, 2) := by decide +kernel
theorem dX9_decodesAll_66 : decode cX9_decodesAll 66 = .ok (.if_icmp .eq 73, 3) := by decide +kernel
theorem dX9_decodesAll_69 : decode cX9_decodesAll 69 = .ok (.iload_n 1, 1) := by decide +kernel
theorem dX9_decodesAll_70 : decode cX9_decodesAll 70 = .ok (.ifCond .ge 5, 3) := by decide +kernel
theorem dX9_decodesAll_73 : decode cX9_decodesAll 73 = .ok (.iconst 3, 1) := by decide +kernel
theorem dX9_decodesAll_74 : decode cX9_decodesAll 74 = .ok (.ireturn, 1) := by decide +kernel
theorem dX9_decodesAll_75 : decode cX9_decodesAll 75 = .ok (.aload_n 0, 1) := by decide +kernel
theorem dX9_decodesAll_76 : decode cX9_decodesAll 76 = .ok (.getfield 196, 3) := by decide +kernel
theorem dX9_decodesAll_79 : decode cX9_decodesAll 79 = .ok (.sipush 200, 3) := by decide +kernel
theorem dX9_decodesAll_82 : decode cX9_decodesAll 82 = .ok (.if_icmp .ne 5, 3) := by decide +kernel
theorem dX9_decodesAll_85 : decode cX9_decodesAll 85 = .ok (.iconst 1, 1) := by decide +kernel
theorem dX9_decodesAll_86 : decode cX9_decodesAll 86 = .ok (.ireturn, 1) := by decide +kernel
theorem dX9_decodesAll_87 : decode cX9_decodesAll 87 = .ok (.aload_n 0, 1) := by decide +kernel
theorem dX9_decodesAll_88 : decode cX9_decodesAll 88 = .ok (.aload_n 0, 1) := by decide +kernel
theorem dX9_decodesAll_89 : decode cX9_decodesAll 89 = .ok (.getfield 33, 3) := by decide +kernel
theorem dX9_decodesAll_92 : decode cX9_decodesAll 92 = .ok (.aload_n 0, 1) := by decide +kernel
theorem dX9_decodesAll_93 : decode cX9_decodesAll 93 = .ok (.getfield 196, 3) := by decide +kernel
theorem dX9_decodesAll_96 : decode cX9_decodesAll 96 = .ok (.iload_n 1, 1) := by decide +kernel
theorem dX9_decodesAll_97 : decode cX9_decodesAll 97 = .ok (.invokevirtual 146, 3) := by decide +kernel
theorem dX9_decodesAll_100 : decode cX9_decodesAll 100 = .ok (.aload_n 0, 1) := by decide +kernel
theorem dX9_decodesAll_101 : decode cX9_decodesAll 101 = .ok (.getfield 33, 3) := by decide +kernel
theorem dX9_decodesAll_104 : decode cX9_decodesAll 104 = .ok (.aload_n 0, 1) := by decide +kernel
theorem dX9_decodesAll_105 : decode cX9_decodesAll 105 = .ok (.getfield 196, 3) := by decide +kernel
theorem dX9_decodesAll_108 : decode cX9_decodesAll 108 = .ok (.iload_n 1, 1) := by decide +kernel
theorem dX9_decodesAll_109 : decode cX9_decodesAll 109 = .ok (.bipush 32, 2) := by decide +kernel
theorem dX9_decodesAll_111 : decode cX9_decodesAll 111 = .ok (.iadd, 1) := by decide +kernel
theorem dX9_decodesAll_112 : decode cX9_decodesAll 112 = .ok (.iastore, 1) := by decide +kernel
theorem dX9_decodesAll_113 : decode cX9_decodesAll 113 = .ok (.aload_n 0, 1) := by decide +kernel
theorem dX9_decodesAll_114 : decode cX9_decodesAll 114 = .ok (.dup, 1) := by decide +kernel
theorem dX9_decodesAll_115 : decode cX9_decodesAll 115 = .ok (.getfield 196, 3) := by decide +kernel
theorem dX9_decodesAll_118 : decode cX9_decodesAll 118 = .ok (.iconst 1, 1) := by decide +kernel
theorem dX9_decodesAll_119 : decode cX9_decodesAll 119 = .ok (.iadd, 1) := by decide +kernel
theorem dX9_decodesAll_120 : decode cX9_decodesAll 120 = .ok (.putfield 196, 3) := by decide +kernel
theorem dX9_decodesAll_123 : decode cX9_decodesAll 123 = .ok (.aload_n 0, 1) := by decide +kernel
theorem dX9_decodesAll_124 : decode cX9_decodesAll 124 = .ok (.aload_n 0, 1) := by decide +kernel
theorem dX9_decodesAll_125 : decode cX9_decodesAll 125 = .ok (.getfield 33, 3) := by decide +kernel
theorem dX9_decodesAll_128 : decode cX9_decodesAll 128 = .ok (.aload_n 0, 1) := by decide +kernel
theorem dX9_decodesAll_129 : decode cX9_decodesAll 129 = .ok (.getfield 196, 3) := by decide +kernel
theorem dX9_decodesAll_132 : decode cX9_decodesAll 132 = .ok (.invokevirtual 199, 3) := by decide +kernel
theorem dX9_decodesAll_135 : decode cX9_decodesAll 135 = .ok (.istore_n 1, 1) := by decide +kernel
theorem dX9_decodesAll_136 : decode cX9_decodesAll 136 = .ok (.goto (-73), 3) := by decide +kernel
theorem dX9_decodesAll_139 : decode cX9_decodesAll 139 = .ok (.aload_n 0, 1) := by decide +kernel
theorem dX9_decodesAll_140 : decode cX9_decodesAll 140 = .ok (.ldc 88, 2) := by decide +kernel
theorem dX9_decodesAll_142 : decode cX9_decodesAll 142 = .ok (.invokevirtual 190, 3) := by decide +kernel
theorem dX9_decodesAll_145 : decode cX9_decodesAll 145 = .ok (.aload_n 0, 1) := by decide +kernel
theorem dX9_decodesAll_146 : decode cX9_decodesAll 146 = .ok (.getfield 33, 3) := by decide +kernel
theorem dX9_decodesAll_149 : decode cX9_decodesAll 149 = .ok (.aload_n 0, 1) := by decide +kernel
theorem dX9_decodesAll_150 : decode cX9_decodesAll 150 = .ok (.getfield 196, 3) := by decide +kernel
theorem dX9_decodesAll_153 : decode cX9_decodesAll 153 = .ok (.invokestatic 163, 3) := by decide +kernel
theorem dX9_decodesAll_156 : decode cX9_decodesAll 156 = .ok (.if_icmp .ne 7, 3) := by decide +kernel
theorem dX9_decodesAll_159 : decode cX9_decodesAll 159 = .ok (.iconst 0, 1) := by decide +kernel
theorem dX9_decodesAll_160 : decode cX9_decodesAll 160 = .ok (.goto 4, 3) := by decide +kernel
theorem dX9_decodesAll_163 : decode cX9_decodesAll 163 = .ok (.iconst 2, 1) := by decide +kernel
theorem dX9_decodesAll_164 : decode cX9_decodesAll 164 = .ok (.ireturn, 1) := by decide +kernel
theorem dX9_isCode_0 : decode cX9_isCode 0 = .ok (.aload_n 0, 1) := by decide +kernel
theorem dX9_isCode_1 : decode cX9_isCode 1 = .ok (.getfield 73, 3) := by decide +kernel
theorem dX9_isCode_4 : decode cX9_isCode 4 = .ok (.aload_n 0, 1) := by decide +kernel
theorem dX9_isCode_5 : decode cX9_isCode 5 = .ok (.getfield 7, 3) := by decide +kernel
theorem dX9_isCode_8 : decode cX9_isCode 8 = .ok (.iconst 5, 1) := by decide +kernel
theorem dX9_isCode_9 : decode cX9_isCode 9 = .ok (.iaload, 1) := by decide +kernel
theorem dX9_isCode_10 : decode cX9_isCode 10 = .ok (.if_icmp .ne 7, 3) := by decide +kernel
theorem dX9_isCode_13 : decode cX9_isCode 13 = .ok (.iconst 1, 1) := by decide +kernel
theorem dX9_isCode_14 : decode cX9_isCode 14 = .ok (.goto 4, 3) := by decide +kernel
theorem dX9_isCode_17 : decode cX9_isCode 17 = .ok (.iconst 0, 1) := by decide +kernel
theorem dX9_isCode_18 : decode cX9_isCode 18 = .ok (.istore_n 1, 1) := by decide +kernel
theorem dX9_isCode_19 : decode cX9_isCode 19 = .ok (.iconst 0, 1) := by decide +kernel
theorem dX9_isCode_20 : decode cX9_isCode 20 = .ok (.istore_n 2, 1) := by decide +kernel
theorem dX9_isCode_21 : decode cX9_isCode 21 = .ok (.iload_n 2, 1) := by decide +kernel
theorem dX9_isCode_22 : decode cX9_isCode 22 = .ok (.aload_n 0, 1) := by decide +kernel
theorem dX9_isCode_23 : decode cX9_isCode 23 = .ok (.getfield 73, 3) := by decide +kernel
theorem dX9_isCode_26 : decode cX9_isCode 26 = .ok (.if_icmp .ge 38, 3) := by decide +kernel
theorem dX9_isCode_29 : decode cX9_isCode 29 = .ok (.iload_n 1, 1) := by decide +kernel
theorem dX9_isCode_30 : decode cX9_isCode 30 = .ok (.ifCond .eq 34, 3) := by decide +kernel
theorem dX9_isCode_33 : decode cX9_isCode 33 = .ok (.aload_n 0, 1) := by decide +kernel
theorem dX9_isCode_34 : decode cX9_isCode 34 = .ok (.getfield 23, 3) := by decide +kernel
theorem dX9_isCode_37 : decode cX9_isCode 37 = .ok (.iload_n 2, 1) := by decide +kernel
theorem dX9_isCode_38 : decode cX9_isCode 38 = .ok (.iaload, 1) := by decide +kernel
theorem dX9_isCode_39 : decode cX9_isCode 39 = .ok (.aload_n 0, 1) := by decide +kernel
theorem dX9_isCode_40 : decode cX9_isCode 40 = .ok (.getfield 7, 3) := by decide +kernel
theorem dX9_isCode_43 : decode cX9_isCode 43 = .ok (.sipush 24260, 3) := by decide +kernel
theorem dX9_isCode_46 : decode cX9_isCode 46 = .ok (.iload_n 2, 1) := by decide +kernel
theorem dX9_isCode_47 : decode cX9_isCode 47 = .ok (.iadd, 1) := by decide +kernel
theorem dX9_isCode_48 : decode cX9_isCode 48 = .ok (.iaload, 1) := by decide +kernel
theorem dX9_isCode_49 : decode cX9_isCode 49 = .ok (.if_icmp .ne 7, 3) := by decide +kernel
theorem dX9_isCode_52 : decode cX9_isCode 52 = .ok (.iconst 1, 1) := by decide +kernel
theorem dX9_isCode_53 : decode cX9_isCode 53 = .ok (.goto 4, 3) := by decide +kernel
theorem dX9_isCode_56 : decode cX9_isCode 56 = .ok (.iconst 0, 1) := by decide +kernel
theorem dX9_isCode_57 : decode cX9_isCode 57 = .ok (.istore_n 1, 1) := by decide +kernel
theorem dX9_isCode_58 : decode cX9_isCode 58 = .ok (.iinc 2 1, 3) := by decide +kernel
theorem dX9_isCode_61 : decode cX9_isCode 61 = .ok (.goto (-40), 3) := by decide +kernel
theorem dX9_isCode_64 : decode cX9_isCode 64 = .ok (.iload_n 1, 1) := by decide +kernel
theorem dX9_isCode_65 : decode cX9_isCode 65 = .ok (.ireturn, 1) := by decide +kernel
theorem dX9_decode_0 : decode cX9_decode 0 = .ok (.aload_n 0, 1) := by decide +kernel
theorem dX9_decode_1 : decode cX9_decode 1 = .ok (.getfield 7, 3) := by decide +kernel
theorem dX9_decode_4 : decode cX9_decode 4 = .ok (.aload_n 0, 1) := by decide +kernel
theorem dX9_decode_5 : decode cX9_decode 5 = .ok (.getfield 13, 3) := by decide +kernel
theorem dX9_decode_8 : decode cX9_decode 8 = .ok (.invokestatic 172, 3) := by decide +kernel
theorem dX9_decode_11 : decode cX9_decode 11 = .ok (.aload_n 0, 1) := by decide +kernel
theorem dX9_decode_12 : decode cX9_decode 12 = .ok (.invokevirtual 202, 3) := by decide +kernel
theorem dX9_decode_15 : decode cX9_decode 15 = .ok (.istore_n 1, 1) := by decide +kernel
theorem dX9_decode_16 : decode cX9_decode 16 = .ok (.aload_n 0, 1) := by decide +kernel
theorem dX9_decode_17 : decode cX9_decode 17 = .ok (.getfield 13, 3) := by decide +kernel
theorem dX9_decode_20 : decode cX9_decode 20 = .ok (.aload_n 0, 1) := by decide +kernel
theorem dX9_decode_21 : decode cX9_decode 21 = .ok (.getfield 7, 3) := by decide +kernel
theorem dX9_decode_24 : decode cX9_decode 24 = .ok (.invokestatic 172, 3) := by decide +kernel
theorem dX9_decode_27 : decode cX9_decode 27 = .ok (.iload_n 1, 1) := by decide +kernel
theorem dX9_decode_28 : decode cX9_decode 28 = .ok (.ifCond .ne 28, 3) := by decide +kernel
theorem dX9_decode_31 : decode cX9_decode 31 = .ok (.aload_n 0, 1) := by decide +kernel
theorem dX9_decode_32 : decode cX9_decode 32 = .ok (.aload_n 0, 1) := by decide +kernel
theorem dX9_decode_33 : decode cX9_decode 33 = .ok (.getfield 33, 3) := by decide +kernel
theorem dX9_decode_36 : decode cX9_decode 36 = .ok (.aload_n 0, 1) := by decide +kernel
theorem dX9_decode_37 : decode cX9_decode 37 = .ok (.getfield 196, 3) := by decide +kernel
theorem dX9_decode_40 : decode cX9_decode 40 = .ok (.invokevirtual 176, 3) := by decide +kernel
theorem dX9_decode_43 : decode cX9_decode 43 = .ok (.aload_n 0, 1) := by decide +kernel
theorem dX9_decode_44 : decode cX9_decode 44 = .ok (.invokevirtual 205, 3) := by decide +kernel
theorem dX9_decode_47 : decode cX9_decode 47 = .ok (.ifCond .eq 7, 3) := by decide +kernel
theorem dX9_decode_50 : decode cX9_decode 50 = .ok (.iconst 0, 1) := by decide +kernel
theorem dX9_decode_51 : decode cX9_decode 51 = .ok (.goto 4, 3) := by decide +kernel
theorem dX9_decode_54 : decode cX9_decode 54 = .ok (.iconst 3, 1) := by decide +kernel
theorem dX9_decode_55 : decode cX9_decode 55 = .ok (.istore_n 1, 1) := by decide +kernel
theorem dX9_decode_56 : decode cX9_decode 56 = .ok (.iload_n 1, 1) := by decide +kernel
theorem dX9_decode_57 : decode cX9_decode 57 = .ok (.ifCond .eq 19, 3) := by decide +kernel
theorem dX9_decode_60 : decode cX9_decode 60 = .ok (.aload_n 0, 1) := by decide +kernel
theorem dX9_decode_61 : decode cX9_decode 61 = .ok (.getfield 13, 3) := by decide +kernel
theorem dX9_decode_64 : decode cX9_decode 64 = .ok (.aload_n 0, 1) := by decide +kernel
theorem dX9_decode_65 : decode cX9_decode 65 = .ok (.getfield 7, 3) := by decide +kernel
theorem dX9_decode_68 : decode cX9_decode 68 = .ok (.invokestatic 172, 3) := by decide +kernel
theorem dX9_decode_71 : decode cX9_decode 71 = .ok (.bipush (-100), 2) := by decide +kernel
theorem dX9_decode_73 : decode cX9_decode 73 = .ok (.iload_n 1, 1) := by decide +kernel
theorem dX9_decode_74 : decode cX9_decode 74 = .ok (.isub, 1) := by decide +kernel
theorem dX9_decode_75 : decode cX9_decode 75 = .ok (.ireturn, 1) := by decide +kernel
theorem dX9_decode_76 : decode cX9_decode 76 = .ok (.aload_n 0, 1) := by decide +kernel
theorem dX9_decode_77 : decode cX9_decode 77 = .ok (.aload_n 0, 1) := by decide +kernel
theorem dX9_decode_78 : decode cX9_decode 78 = .ok (.getfield 13, 3) := by decide +kernel
theorem dX9_decode_81 : decode cX9_decode 81 = .ok (.invokevirtual 41, 3) := by decide +kernel
theorem dX9_decode_84 : decode cX9_decode 84 = .ok (.aload_n 0, 1) := by decide +kernel
theorem dX9_decode_85 : decode cX9_decode 85 = .ok (.getfield 7, 3) := by decide +kernel
theorem dX9_decode_88 : decode cX9_decode 88 = .ok (.bipush 9, 2) := by decide +kernel
theorem dX9_decode_90 : decode cX9_decode 90 = .ok (.aload_n 0, 1) := by decide +kernel
theorem dX9_decode_91 : decode cX9_decode 91 = .ok (.getfield 196, 3) := by decide +kernel
theorem dX9_decode_94 : decode cX9_decode 94 = .ok (.iastore, 1) := by decide +kernel
theorem dX9_decode_95 : decode cX9_decode 95 = .ok (.iconst 0, 1) := by decide +kernel
theorem dX9_decode_96 : decode cX9_decode 96 = .ok (.istore_n 2, 1) := by decide +kernel
theorem dX9_decode_97 : decode cX9_decode 97 = .ok (.iload_n 2, 1) := by decide +kernel
theorem dX9_decode_98 : decode cX9_decode 98 = .ok (.sipush 200, 3) := by decide +kernel
theorem dX9_decode_101 : decode cX9_decode 101 = .ok (.if_icmp .ge 37, 3) := by decide +kernel
theorem dX9_decode_104 : decode cX9_decode 104 = .ok (.aload_n 0, 1) := by decide +kernel
theorem dX9_decode_105 : decode cX9_decode 105 = .ok (.getfield 7, 3) := by decide +kernel
theorem dX9_decode_108 : decode cX9_decode 108 = .ok (.sipush 25480, 3) := by decide +kernel
theorem dX9_decode_111 : decode cX9_decode 111 = .ok (.iload_n 2, 1) := by decide +kernel
theorem dX9_decode_112 : decode cX9_decode 112 = .ok (.iadd, 1) := by decide +kernel
theorem dX9_decode_113 : decode cX9_decode 113 = .ok (.iload_n 2, 1) := by decide +kernel
theorem dX9_decode_114 : decode cX9_decode 114 = .ok (.aload_n 0, 1) := by decide +kernel
theorem dX9_decode_115 : decode cX9_decode 115 = .ok (.getfield 196, 3) := by decide +kernel
theorem dX9_decode_118 : decode cX9_decode 118 = .ok (.if_icmp .ge 12, 3) := by decide +kernel
theorem dX9_decode_121 : decode cX9_decode 121 = .ok (.aload_n 0, 1) := by decide +kernel
theorem dX9_decode_122 : decode cX9_decode 122 = .ok (.getfield 33, 3) := by decide +kernel
theorem dX9_decode_125 : decode cX9_decode 125 = .ok (.iload_n 2, 1) := by decide +kernel
theorem dX9_decode_126 : decode cX9_decode 126 = .ok (.iaload, 1) := by decide +kernel
theorem dX9_decode_127 : decode cX9_decode 127 = .ok (.goto 4, 3) := by decide +kernel
theorem dX9_decode_130 : decode cX9_decode 130 = .ok (.iconst 0, 1) := by decide +kernel
theorem dX9_decode_131 : decode cX9_decode 131 = .ok (.iastore, 1) := by decide +kernel
theorem dX9_decode_132 : decode cX9_decode 132 = .ok (.iinc 2 1, 3) := by decide +kernel
theorem dX9_decode_135 : decode cX9_decode 135 = .ok (.goto (-38), 3) := by decide +kernel
theorem dX9_decode_138 : decode cX9_decode 138 = .ok (.aload_n 0, 1) := by decide +kernel
theorem dX9_decode_139 : decode cX9_decode 139 = .ok (.getfield 196, 3) := by decide +kernel
theorem dX9_decode_142 : decode cX9_decode 142 = .ok (.ireturn, 1) := by decide +kernel
theorem dX9_decoded_0 : decode cX9_decoded 0 = .ok (.iload_n 1, 1) := by decide +kernel
theorem dX9_decoded_1 : decode cX9_decoded 1 = .ok (.ifCond .ge 7, 3) := by decide +kernel
theorem dX9_decoded_4 : decode cX9_decoded 4 = .ok (.iconst (-1), 1) := by decide +kernel
theorem dX9_decoded_5 : decode cX9_decoded 5 = .ok (.goto 29, 3) := by decide +kernel
theorem dX9_decoded_8 : decode cX9_decoded 8 = .ok (.iload_n 1, 1) := by decide +kernel
theorem dX9_decoded_9 : decode cX9_decoded 9 = .ok (.aload_n 0, 1) := by decide +kernel
theorem dX9_decoded_10 : decode cX9_decoded 10 = .ok (.getfield 7, 3) := by decide +kernel
theorem dX9_decoded_13 : decode cX9_decoded 13 = .ok (.bipush 9, 2) := by decide +kernel
theorem dX9_decoded_15 : decode cX9_decoded 15 = .ok (.iaload, 1) := by decide +kernel
theorem dX9_decoded_16 : decode cX9_decoded 16 = .ok (.if_icmp .ge 16, 3) := by decide +kernel
theorem dX9_decoded_19 : decode cX9_decoded 19 = .ok (.aload_n 0, 1) := by decide +kernel
theorem dX9_decoded_20 : decode cX9_decoded 20 = .ok (.getfield 7, 3) := by decide +kernel
theorem dX9_decoded_23 : decode cX9_decoded 23 = .ok (.sipush 25480, 3) := by decide +kernel
theorem dX9_decoded_26 : decode cX9_decoded 26 = .ok (.iload_n 1, 1) := by decide +kernel
theorem dX9_decoded_27 : decode cX9_decoded 27 = .ok (.iadd, 1) := by decide +kernel
theorem dX9_decoded_28 : decode cX9_decoded 28 = .ok (.iaload, 1) := by decide +kernel
theorem dX9_decoded_29 : decode cX9_decoded 29 = .ok (.goto 5, 3) := by decide +kernel
theorem dX9_decoded_32 : decode cX9_decoded 32 = .ok (.bipush (-9), 2) := by decide +kernel
theorem dX9_decoded_34 : decode cX9_decoded 34 = .ok (.ireturn, 1) := by decide +kernel
theorem dX9_flip_0 : decode cX9_flip 0 = .ok (.iload_n 1, 1) := by decide +kernel
theorem dX9_flip_1 : decode cX9_flip 1 = .ok (.iconst 0, 1) := by decide +kernel
theorem dX9_flip_2 : decode cX9_flip 2 = .ok (.aload_n 0, 1) := by decide +kernel
theorem dX9_flip_3 : decode cX9_flip 3 = .ok (.getfield 7, 3) := by decide +kernel
theorem dX9_flip_6 : decode cX9_flip 6 = .ok (.iconst 5, 1) := by decide +kernel
theorem dX9_flip_7 : decode cX9_flip 7 = .ok (.iaload, 1) := by decide +kernel
theorem dX9_flip_8 : decode cX9_flip 8 = .ok (.iconst 1, 1) := by decide +kernel
theorem dX9_flip_9 : decode cX9_flip 9 = .ok (.isub, 1) := by decide +kernel
theorem dX9_flip_10 : decode cX9_flip 10 = .ok (.invokestatic 130, 3) := by decide +kernel
theorem dX9_flip_13 : decode cX9_flip 13 = .ok (.ifCond .eq 13, 3) := by decide +kernel
theorem dX9_flip_16 : decode cX9_flip 16 = .ok (.iload_n 2, 1) := by decide +kernel
theorem dX9_flip_17 : decode cX9_flip 17 = .ok (.iconst 0, 1) := by decide +kernel
theorem dX9_flip_18 : decode cX9_flip 18 = .ok (.bipush 7, 2) := by decide +kernel
theorem dX9_flip_20 : decode cX9_flip 20 = .ok (.invokestatic 130, 3) := by decide +kernel
theorem dX9_flip_23 : decode cX9_flip 23 = .ok (.ifCond .ne 5, 3) := by decide +kernel
theorem dX9_flip_26 : decode cX9_flip 26 = .ok (.iconst (-1), 1) := by decide +kernel
theorem dX9_flip_27 : decode cX9_flip 27 = .ok (.ireturn, 1) := by decide +kernel
theorem dX9_flip_28 : decode cX9_flip 28 = .ok (.aload_n 0, 1) := by decide +kernel
theorem dX9_flip_29 : decode cX9_flip 29 = .ok (.aload_n 0, 1) := by decide +kernel
theorem dX9_flip_30 : decode cX9_flip 30 = .ok (.getfield 7, 3) := by decide +kernel
theorem dX9_flip_33 : decode cX9_flip 33 = .ok (.invokevirtual 41, 3) := by decide +kernel
theorem dX9_flip_36 : decode cX9_flip 36 = .ok (.aload_n 0, 1) := by decide +kernel
theorem dX9_flip_37 : decode cX9_flip 37 = .ok (.getfield 7, 3) := by decide +kernel
theorem dX9_flip_40 : decode cX9_flip 40 = .ok (.sipush 24260, 3) := by decide +kernel
theorem dX9_flip_43 : decode cX9_flip 43 = .ok (.iload_n 1, 1) := by decide +kernel
theorem dX9_flip_44 : decode cX9_flip 44 = .ok (.iadd, 1) := by decide +kernel
theorem dX9_flip_45 : decode cX9_flip 45 = .ok (.dup2, 1) := by decide +kernel
theorem dX9_flip_46 : decode cX9_flip 46 = .ok (.iaload, 1) := by decide +kernel
theorem dX9_flip_47 : decode cX9_flip 47 = .ok (.iconst 1, 1) := by decide +kernel
theorem dX9_flip_48 : decode cX9_flip 48 = .ok (.iload_n 2, 1) := by decide +kernel
theorem dX9_flip_49 : decode cX9_flip 49 = .ok (.ishl, 1) := by decide +kernel
theorem dX9_flip_50 : decode cX9_flip 50 = .ok (.ixor, 1) := by decide +kernel
theorem dX9_flip_51 : decode cX9_flip 51 = .ok (.iastore, 1) := by decide +kernel
theorem dX9_flip_52 : decode cX9_flip 52 = .ok (.aload_n 0, 1) := by decide +kernel
theorem dX9_flip_53 : decode cX9_flip 53 = .ok (.getfield 7, 3) := by decide +kernel
theorem dX9_flip_56 : decode cX9_flip 56 = .ok (.sipush 24260, 3) := by decide +kernel
theorem dX9_flip_59 : decode cX9_flip 59 = .ok (.iload_n 1, 1) := by decide +kernel
theorem dX9_flip_60 : decode cX9_flip 60 = .ok (.iadd, 1) := by decide +kernel
theorem dX9_flip_61 : decode cX9_flip 61 = .ok (.iaload, 1) := by decide +kernel
theorem dX9_flip_62 : decode cX9_flip 62 = .ok (.ireturn, 1) := by decide +kernel
theorem dX9_cut_0 : decode cX9_cut 0 = .ok (.iload_n 1, 1) := by decide +kernel
theorem dX9_cut_1 : decode cX9_cut 1 = .ok (.iconst 1, 1) := by decide +kernel
theorem dX9_cut_2 : decode cX9_cut 2 = .ok (.sipush 400, 3) := by decide +kernel
theorem dX9_cut_5 : decode cX9_cut 5 = .ok (.invokestatic 130, 3) := by decide +kernel
theorem dX9_cut_8 : decode cX9_cut 8 = .ok (.ifCond .ne 5, 3) := by decide +kernel
theorem dX9_cut_11 : decode cX9_cut 11 = .ok (.iconst (-1), 1) := by decide +kernel
theorem dX9_cut_12 : decode cX9_cut 12 = .ok (.ireturn, 1) := by decide +kernel
theorem dX9_cut_13 : decode cX9_cut 13 = .ok (.iload_n 1, 1) := by decide +kernel
theorem dX9_cut_14 : decode cX9_cut 14 = .ok (.aload_n 0, 1) := by decide +kernel
theorem dX9_cut_15 : decode cX9_cut 15 = .ok (.getfield 7, 3) := by decide +kernel
theorem dX9_cut_18 : decode cX9_cut 18 = .ok (.iconst 5, 1) := by decide +kernel
theorem dX9_cut_19 : decode cX9_cut 19 = .ok (.iaload, 1) := by decide +kernel
theorem dX9_cut_20 : decode cX9_cut 20 = .ok (.if_icmp .le 6, 3) := by decide +kernel
theorem dX9_cut_23 : decode cX9_cut 23 = .ok (.bipush (-2), 2) := by decide +kernel
theorem dX9_cut_25 : decode cX9_cut 25 = .ok (.ireturn, 1) := by decide +kernel
theorem dX9_cut_26 : decode cX9_cut 26 = .ok (.aload_n 0, 1) := by decide +kernel
theorem dX9_cut_27 : decode cX9_cut 27 = .ok (.aload_n 0, 1) := by decide +kernel
theorem dX9_cut_28 : decode cX9_cut 28 = .ok (.getfield 7, 3) := by decide +kernel
theorem dX9_cut_31 : decode cX9_cut 31 = .ok (.invokevirtual 41, 3) := by decide +kernel
theorem dX9_cut_34 : decode cX9_cut 34 = .ok (.aload_n 0, 1) := by decide +kernel
theorem dX9_cut_35 : decode cX9_cut 35 = .ok (.getfield 7, 3) := by decide +kernel
theorem dX9_cut_38 : decode cX9_cut 38 = .ok (.iconst 5, 1) := by decide +kernel
theorem dX9_cut_39 : decode cX9_cut 39 = .ok (.dup2, 1) := by decide +kernel
theorem dX9_cut_40 : decode cX9_cut 40 = .ok (.iaload, 1) := by decide +kernel
theorem dX9_cut_41 : decode cX9_cut 41 = .ok (.iload_n 1, 1) := by decide +kernel
theorem dX9_cut_42 : decode cX9_cut 42 = .ok (.isub, 1) := by decide +kernel
theorem dX9_cut_43 : decode cX9_cut 43 = .ok (.iastore, 1) := by decide +kernel
theorem dX9_cut_44 : decode cX9_cut 44 = .ok (.aload_n 0, 1) := by decide +kernel
theorem dX9_cut_45 : decode cX9_cut 45 = .ok (.getfield 7, 3) := by decide +kernel
theorem dX9_cut_48 : decode cX9_cut 48 = .ok (.iconst 5, 1) := by decide +kernel
theorem dX9_cut_49 : decode cX9_cut 49 = .ok (.iaload, 1) := by decide +kernel
theorem dX9_cut_50 : decode cX9_cut 50 = .ok (.ireturn, 1) := by decide +kernel
theorem dX9_append_0 : decode cX9_append 0 = .ok (.iload_n 1, 1) := by decide +kernel
theorem dX9_append_1 : decode cX9_append 1 = .ok (.iconst 0, 1) := by decide +kernel
theorem dX9_append_2 : decode cX9_append 2 = .ok (.sipush 255, 3) := by decide +kernel
theorem dX9_append_5 : decode cX9_append 5 = .ok (.invokestatic 130, 3) := by decide +kernel
theorem dX9_append_8 : decode cX9_append 8 = .ok (.ifCond .ne 5, 3) := by decide +kernel
theorem dX9_append_11 : decode cX9_append 11 = .ok (.iconst (-1), 1) := by decide +kernel
theorem dX9_append_12 : decode cX9_append 12 = .ok (.ireturn, 1) := by decide +kernel
theorem dX9_append_13 : decode cX9_append 13 = .ok (.aload_n 0, 1) := by decide +kernel
theorem dX9_append_14 : decode cX9_append 14 = .ok (.getfield 7, 3) := by decide +kernel
theorem dX9_append_17 : decode cX9_append 17 = .ok (.iconst 5, 1) := by decide +kernel
theorem dX9_append_18 : decode cX9_append 18 = .ok (.iaload, 1) := by decide +kernel
theorem dX9_append_19 : decode cX9_append 19 = .ok (.sipush 400, 3) := by decide +kernel
theorem dX9_append_22 : decode cX9_append 22 = .ok (.if_icmp .ne 6, 3) := by decide +kernel
theorem dX9_append_25 : decode cX9_append 25 = .ok (.bipush (-3), 2) := by decide +kernel
theorem dX9_append_27 : decode cX9_append 27 = .ok (.ireturn, 1) := by decide +kernel
theorem dX9_append_28 : decode cX9_append 28 = .ok (.aload_n 0, 1) := by decide +kernel
theorem dX9_append_29 : decode cX9_append 29 = .ok (.aload_n 0, 1) := by decide +kernel
theorem dX9_append_30 : decode cX9_append 30 = .ok (.getfield 7, 3) := by decide +kernel
theorem dX9_append_33 : decode cX9_append 33 = .ok (.invokevirtual 41, 3) := by decide +kernel
theorem dX9_append_36 : decode cX9_append 36 = .ok (.aload_n 0, 1) := by decide +kernel
theorem dX9_append_37 : decode cX9_append 37 = .ok (.getfield 7, 3) := by decide +kernel
theorem dX9_append_40 : decode cX9_append 40 = .ok (.sipush 24260, 3) := by decide +kernel
theorem dX9_append_43 : decode cX9_append 43 = .ok (.aload_n 0, 1) := by decide +kernel
theorem dX9_append_44 : decode cX9_append 44 = .ok (.getfield 7, 3) := by decide +kernel
theorem dX9_append_47 : decode cX9_append 47 = .ok (.iconst 5, 1) := by decide +kernel
theorem dX9_append_48 : decode cX9_append 48 = .ok (.iaload, 1) := by decide +kernel
theorem dX9_append_49 : decode cX9_append 49 = .ok (.iadd, 1) := by decide +kernel
theorem dX9_append_50 : decode cX9_append 50 = .ok (.iload_n 1, 1) := by decide +kernel
theorem dX9_append_51 : decode cX9_append 51 = .ok (.iastore, 1) := by decide +kernel
theorem dX9_append_52 : decode cX9_append 52 = .ok (.aload_n 0, 1) := by decide +kernel
theorem dX9_append_53 : decode cX9_append 53 = .ok (.getfield 7, 3) := by decide +kernel
theorem dX9_append_56 : decode cX9_append 56 = .ok (.iconst 5, 1) := by decide +kernel
theorem dX9_append_57 : decode cX9_append 57 = .ok (.dup2, 1) := by decide +kernel
theorem dX9_append_58 : decode cX9_append 58 = .ok (.iaload, 1) := by decide +kernel
theorem dX9_append_59 : decode cX9_append 59 = .ok (.iconst 1, 1) := by decide +kernel
theorem dX9_append_60 : decode cX9_append 60 = .ok (.iadd, 1) := by decide +kernel
theorem dX9_append_61 : decode cX9_append 61 = .ok (.iastore, 1) := by decide +kernel
theorem dX9_append_62 : decode cX9_append 62 = .ok (.aload_n 0, 1) := by decide +kernel
theorem dX9_append_63 : decode cX9_append 63 = .ok (.getfield 7, 3) := by decide +kernel
theorem dX9_append_66 : decode cX9_append 66 = .ok (.iconst 5, 1) := by decide +kernel
theorem dX9_append_67 : decode cX9_append 67 = .ok (.iaload, 1) := by decide +kernel
theorem dX9_append_68 : decode cX9_append 68 = .ok (.ireturn, 1) := by decide +kernel
theorem dX9_coded_0 : decode cX9_coded 0 = .ok (.aload_n 0, 1) := by decide +kernel
theorem dX9_coded_1 : decode cX9_coded 1 = .ok (.getfield 7, 3) := by decide +kernel
theorem dX9_coded_4 : decode cX9_coded 4 = .ok (.bipush 7, 2) := by decide +kernel
theorem dX9_coded_6 : decode cX9_coded 6 = .ok (.iaload, 1) := by decide +kernel
theorem dX9_coded_7 : decode cX9_coded 7 = .ok (.ireturn, 1) := by decide +kernel
theorem dX9_account_0 : decode cX9_account 0 = .ok (.iload_n 1, 1) := by decide +kernel
theorem dX9_account_1 : decode cX9_account 1 = .ok (.iconst 0, 1) := by decide +kernel
theorem dX9_account_2 : decode cX9_account 2 = .ok (.aload_n 0, 1) := by decide +kernel
theorem dX9_account_3 : decode cX9_account 3 = .ok (.getfield 7, 3) := by decide +kernel
theorem dX9_account_6 : decode cX9_account 6 = .ok (.bipush 7, 2) := by decide +kernel
theorem dX9_account_8 : decode cX9_account 8 = .ok (.iaload, 1) := by decide +kernel
theorem dX9_account_9 : decode cX9_account 9 = .ok (.iconst 1, 1) := by decide +kernel
theorem dX9_account_10 : decode cX9_account 10 = .ok (.isub, 1) := by decide +kernel
theorem dX9_account_11 : decode cX9_account 11 = .ok (.invokestatic 130, 3) := by decide +kernel
theorem dX9_account_14 : decode cX9_account 14 = .ok (.ifCond .eq 29, 3) := by decide +kernel
theorem dX9_account_17 : decode cX9_account 17 = .ok (.iload_n 2, 1) := by decide +kernel
theorem dX9_account_18 : decode cX9_account 18 = .ok (.iconst 0, 1) := by decide +kernel
theorem dX9_account_19 : decode cX9_account 19 = .ok (.iconst 3, 1) := by decide +kernel
theorem dX9_account_20 : decode cX9_account 20 = .ok (.invokestatic 130, 3) := by decide +kernel
theorem dX9_account_23 : decode cX9_account 23 = .ok (.ifCond .eq 20, 3) := by decide +kernel
theorem dX9_account_26 : decode cX9_account 26 = .ok (.aload_n 0, 1) := by decide +kernel
theorem dX9_account_27 : decode cX9_account 27 = .ok (.getfield 7, 3) := by decide +kernel
theorem dX9_account_30 : decode cX9_account 30 = .ok (.sipush 24660, 3) := by decide +kernel
theorem dX9_account_33 : decode cX9_account 33 = .ok (.iconst 4, 1) := by decide +kernel
theorem dX9_account_34 : decode cX9_account 34 = .ok (.iload_n 1, 1) := by decide +kernel
theorem dX9_account_35 : decode cX9_account 35 = .ok (.imul, 1) := by decide +kernel
theorem dX9_account_36 : decode cX9_account 36 = .ok (.iadd, 1) := by decide +kernel
theorem dX9_account_37 : decode cX9_account 37 = .ok (.iload_n 2, 1) := by decide +kernel
theorem dX9_account_38 : decode cX9_account 38 = .ok (.iadd, 1) := by decide +kernel
theorem dX9_account_39 : decode cX9_account 39 = .ok (.iaload, 1) := by decide +kernel
theorem dX9_account_40 : decode cX9_account 40 = .ok (.goto 4, 3) := by decide +kernel
theorem dX9_account_43 : decode cX9_account 43 = .ok (.iconst (-1), 1) := by decide +kernel
theorem dX9_account_44 : decode cX9_account 44 = .ok (.ireturn, 1) := by decide +kernel
theorem dX9_cost_0 : decode cX9_cost 0 = .ok (.aload_n 0, 1) := by decide +kernel
theorem dX9_cost_1 : decode cX9_cost 1 = .ok (.getfield 7, 3) := by decide +kernel
theorem dX9_cost_4 : decode cX9_cost 4 = .ok (.bipush 8, 2) := by decide +kernel
theorem dX9_cost_6 : decode cX9_cost 6 = .ok (.iaload, 1) := by decide +kernel
theorem dX9_cost_7 : decode cX9_cost 7 = .ok (.ireturn, 1) := by decide +kernel
theorem dX9_lg_0 : decode cX9_lg 0 = .ok (.iload_n 2, 1) := by decide +kernel
theorem dX9_lg_1 : decode cX9_lg 1 = .ok (.iconst 1, 1) := by decide +kernel
theorem dX9_lg_2 : decode cX9_lg 2 = .ok (.ldc 209, 2) := by decide +kernel
theorem dX9_lg_4 : decode cX9_lg 4 = .ok (.invokestatic 130, 3) := by decide +kernel
theorem dX9_lg_7 : decode cX9_lg 7 = .ok (.ifCond .eq 24, 3) := by decide +kernel
theorem dX9_lg_10 : decode cX9_lg 10 = .ok (.iload_n 1, 1) := by decide +kernel
theorem dX9_lg_11 : decode cX9_lg 11 = .ok (.iconst 1, 1) := by decide +kernel
theorem dX9_lg_12 : decode cX9_lg 12 = .ok (.iload_n 2, 1) := by decide +kernel
theorem dX9_lg_13 : decode cX9_lg 13 = .ok (.invokestatic 130, 3) := by decide +kernel
theorem dX9_lg_16 : decode cX9_lg 16 = .ok (.ifCond .eq 15, 3) := by decide +kernel
theorem dX9_lg_19 : decode cX9_lg 19 = .ok (.iload_n 2, 1) := by decide +kernel
theorem dX9_lg_20 : decode cX9_lg 20 = .ok (.invokestatic 96, 3) := by decide +kernel
theorem dX9_lg_23 : decode cX9_lg 23 = .ok (.iload_n 1, 1) := by decide +kernel
theorem dX9_lg_24 : decode cX9_lg 24 = .ok (.invokestatic 96, 3) := by decide +kernel
theorem dX9_lg_27 : decode cX9_lg 27 = .ok (.isub, 1) := by decide +kernel
theorem dX9_lg_28 : decode cX9_lg 28 = .ok (.goto 4, 3) := by decide +kernel
theorem dX9_lg_31 : decode cX9_lg 31 = .ok (.iconst (-1), 1) := by decide +kernel
theorem dX9_lg_32 : decode cX9_lg 32 = .ok (.ireturn, 1) := by decide +kernel
theorem dX9_undo_0 : decode cX9_undo 0 = .ok (.aload_n 0, 1) := by decide +kernel
theorem dX9_undo_1 : decode cX9_undo 1 = .ok (.getfield 36, 3) := by decide +kernel
theorem dX9_undo_4 : decode cX9_undo 4 = .ok (.ifCond .ne 6, 3) := by decide +kernel
theorem dX9_undo_7 : decode cX9_undo 7 = .ok (.bipush (-9), 2) := by decide +kernel
theorem dX9_undo_9 : decode cX9_undo 9 = .ok (.ireturn, 1) := by decide +kernel
theorem dX9_undo_10 : decode cX9_undo 10 = .ok (.aload_n 0, 1) := by decide +kernel
theorem dX9_undo_11 : decode cX9_undo 11 = .ok (.dup, 1) := by decide +kernel
theorem dX9_undo_12 : decode cX9_undo 12 = .ok (.getfield 36, 3) := by decide +kernel
theorem dX9_undo_15 : decode cX9_undo 15 = .ok (.iconst 1, 1) := by decide +kernel
theorem dX9_undo_16 : decode cX9_undo 16 = .ok (.isub, 1) := by decide +kernel
theorem dX9_undo_17 : decode cX9_undo 17 = .ok (.putfield 36, 3) := by decide +kernel
theorem dX9_undo_20 : decode cX9_undo 20 = .ok (.iconst 0, 1) := by decide +kernel
theorem dX9_undo_21 : decode cX9_undo 21 = .ok (.istore_n 1, 1) := by decide +kernel
theorem dX9_undo_22 : decode cX9_undo 22 = .ok (.iload_n 1, 1) := by decide +kernel
theorem dX9_undo_23 : decode cX9_undo 23 = .ok (.sipush 25700, 3) := by decide +kernel
theorem dX9_undo_26 : decode cX9_undo 26 = .ok (.if_icmp .ge 30, 3) := by decide +kernel
theorem dX9_undo_29 : decode cX9_undo 29 = .ok (.aload_n 0, 1) := by decide +kernel
theorem dX9_undo_30 : decode cX9_undo 30 = .ok (.getfield 7, 3) := by decide +kernel
theorem dX9_undo_33 : decode cX9_undo 33 = .ok (.iload_n 1, 1) := by decide +kernel
theorem dX9_undo_34 : decode cX9_undo 34 = .ok (.aload_n 0, 1) := by decide +kernel
theorem dX9_undo_35 : decode cX9_undo 35 = .ok (.getfield 17, 3) := by decide +kernel
theorem dX9_undo_38 : decode cX9_undo 38 = .ok (.sipush 25700, 3) := by decide +kernel
theorem dX9_undo_41 : decode cX9_undo 41 = .ok (.aload_n 0, 1) := by decide +kernel
theorem dX9_undo_42 : decode cX9_undo 42 = .ok (.getfield 36, 3) := by decide +kernel
theorem dX9_undo_45 : decode cX9_undo 45 = .ok (.imul, 1) := by decide +kernel
theorem dX9_undo_46 : decode cX9_undo 46 = .ok (.iload_n 1, 1) := by decide +kernel
theorem dX9_undo_47 : decode cX9_undo 47 = .ok (.iadd, 1) := by decide +kernel
theorem dX9_undo_48 : decode cX9_undo 48 = .ok (.iaload, 1) := by decide +kernel
theorem dX9_undo_49 : decode cX9_undo 49 = .ok (.iastore, 1) := by decide +kernel
theorem dX9_undo_50 : decode cX9_undo 50 = .ok (.iinc 1 1, 3) := by decide +kernel
theorem dX9_undo_53 : decode cX9_undo 53 = .ok (.goto (-31), 3) := by decide +kernel
theorem dX9_undo_56 : decode cX9_undo 56 = .ok (.aload_n 0, 1) := by decide +kernel
theorem dX9_undo_57 : decode cX9_undo 57 = .ok (.getfield 36, 3) := by decide +kernel
theorem dX9_undo_60 : decode cX9_undo 60 = .ok (.ireturn, 1) := by decide +kernel
theorem dX9_fingerprint_0 : decode cX9_fingerprint 0 = .ok (.ldc2_w 210, 3) := by decide +kernel
theorem dX9_fingerprint_3 : decode cX9_fingerprint 3 = .ok (.lstore_n 1, 1) := by decide +kernel
theorem dX9_fingerprint_4 : decode cX9_fingerprint 4 = .ok (.iconst 0, 1) := by decide +kernel
theorem dX9_fingerprint_5 : decode cX9_fingerprint 5 = .ok (.istore_n 3, 1) := by decide +kernel
theorem dX9_fingerprint_6 : decode cX9_fingerprint 6 = .ok (.iload_n 3, 1) := by decide +kernel
theorem dX9_fingerprint_7 : decode cX9_fingerprint 7 = .ok (.iconst 4, 1) := by decide +kernel
theorem dX9_fingerprint_8 : decode cX9_fingerprint 8 = .ok (.if_icmp .gt 23, 3) := by decide +kernel
theorem dX9_fingerprint_11 : decode cX9_fingerprint 11 = .ok (.ldc2_w 212, 3) := by decide +kernel
theorem dX9_fingerprint_14 : decode cX9_fingerprint 14 = .ok (.lload_n 1, 1) := by decide +kernel
theorem dX9_fingerprint_15 : decode cX9_fingerprint 15 = .ok (.lmul, 1) := by decide +kernel
theorem dX9_fingerprint_16 : decode cX9_fingerprint 16 = .ok (.aload_n 0, 1) := by decide +kernel
theorem dX9_fingerprint_17 : decode cX9_fingerprint 17 = .ok (.getfield 7, 3) := by decide +kernel
theorem dX9_fingerprint_20 : decode cX9_fingerprint 20 = .ok (.iload_n 3, 1) := by decide +kernel
theorem dX9_fingerprint_21 : decode cX9_fingerprint 21 = .ok (.iaload, 1) := by decide +kernel
theorem dX9_fingerprint_22 : decode cX9_fingerprint 22 = .ok (.i2l, 1) := by decide +kernel
theorem dX9_fingerprint_23 : decode cX9_fingerprint 23 = .ok (.ladd, 1) := by decide +kernel
theorem dX9_fingerprint_24 : decode cX9_fingerprint 24 = .ok (.lstore_n 1, 1) := by decide +kernel
theorem dX9_fingerprint_25 : decode cX9_fingerprint 25 = .ok (.iinc 3 1, 3) := by decide +kernel
theorem dX9_fingerprint_28 : decode cX9_fingerprint 28 = .ok (.goto (-22), 3) := by decide +kernel
theorem dX9_fingerprint_31 : decode cX9_fingerprint 31 = .ok (.ldc2_w 212, 3) := by decide +kernel
theorem dX9_fingerprint_34 : decode cX9_fingerprint 34 = .ok (.lload_n 1, 1) := by decide +kernel
theorem dX9_fingerprint_35 : decode cX9_fingerprint 35 = .ok (.lmul, 1) := by decide +kernel
theorem dX9_fingerprint_36 : decode cX9_fingerprint 36 = .ok (.aload_n 0, 1) := by decide +kernel
theorem dX9_fingerprint_37 : decode cX9_fingerprint 37 = .ok (.getfield 7, 3) := by decide +kernel
theorem dX9_fingerprint_40 : decode cX9_fingerprint 40 = .ok (.iconst 5, 1) := by decide +kernel
theorem dX9_fingerprint_41 : decode cX9_fingerprint 41 = .ok (.iaload, 1) := by decide +kernel
theorem dX9_fingerprint_42 : decode cX9_fingerprint 42 = .ok (.i2l, 1) := by decide +kernel
theorem dX9_fingerprint_43 : decode cX9_fingerprint 43 = .ok (.ladd, 1) := by decide +kernel
theorem dX9_fingerprint_44 : decode cX9_fingerprint 44 = .ok (.lstore_n 1, 1) := by decide +kernel
theorem dX9_fingerprint_45 : decode cX9_fingerprint 45 = .ok (.iconst 0, 1) := by decide +kernel
theorem dX9_fingerprint_46 : decode cX9_fingerprint 46 = .ok (.istore_n 3, 1) := by decide +kernel
theorem dX9_fingerprint_47 : decode cX9_fingerprint 47 = .ok (.iload_n 3, 1) := by decide +kernel
theorem dX9_fingerprint_48 : decode cX9_fingerprint 48 = .ok (.aload_n 0, 1) := by decide +kernel
theorem dX9_fingerprint_49 : decode cX9_fingerprint 49 = .ok (.getfield 7, 3) := by decide +kernel
theorem dX9_fingerprint_52 : decode cX9_fingerprint 52 = .ok (.iconst 5, 1) := by decide +kernel
theorem dX9_fingerprint_53 : decode cX9_fingerprint 53 = .ok (.iaload, 1) := by decide +kernel
theorem dX9_fingerprint_54 : decode cX9_fingerprint 54 = .ok (.if_icmp .ge 27, 3) := by decide +kernel
theorem dX9_fingerprint_57 : decode cX9_fingerprint 57 = .ok (.ldc2_w 212, 3) := by decide +kernel
theorem dX9_fingerprint_60 : decode cX9_fingerprint 60 = .ok (.lload_n 1, 1) := by decide +kernel
theorem dX9_fingerprint_61 : decode cX9_fingerprint 61 = .ok (.lmul, 1) := by decide +kernel
theorem dX9_fingerprint_62 : decode cX9_fingerprint 62 = .ok (.aload_n 0, 1) := by decide +kernel
theorem dX9_fingerprint_63 : decode cX9_fingerprint 63 = .ok (.getfield 7, 3) := by decide +kernel
theorem dX9_fingerprint_66 : decode cX9_fingerprint 66 = .ok (.sipush 24260, 3) := by decide +kernel
theorem dX9_fingerprint_69 : decode cX9_fingerprint 69 = .ok (.iload_n 3, 1) := by decide +kernel
theorem dX9_fingerprint_70 : decode cX9_fingerprint 70 = .ok (.iadd, 1) := by decide +kernel
theorem dX9_fingerprint_71 : decode cX9_fingerprint 71 = .ok (.iaload, 1) := by decide +kernel
theorem dX9_fingerprint_72 : decode cX9_fingerprint 72 = .ok (.i2l, 1) := by decide +kernel
theorem dX9_fingerprint_73 : decode cX9_fingerprint 73 = .ok (.ladd, 1) := by decide +kernel
theorem dX9_fingerprint_74 : decode cX9_fingerprint 74 = .ok (.lstore_n 1, 1) := by decide +kernel
theorem dX9_fingerprint_75 : decode cX9_fingerprint 75 = .ok (.iinc 3 1, 3) := by decide +kernel
theorem dX9_fingerprint_78 : decode cX9_fingerprint 78 = .ok (.goto (-31), 3) := by decide +kernel
theorem dX9_fingerprint_81 : decode cX9_fingerprint 81 = .ok (.ldc2_w 212, 3) := by decide +kernel
theorem dX9_fingerprint_84 : decode cX9_fingerprint 84 = .ok (.ldc2_w 212, 3) := by decide +kernel
theorem dX9_fingerprint_87 : decode cX9_fingerprint 87 = .ok (.ldc2_w 212, 3) := by decide +kernel
theorem dX9_fingerprint_90 : decode cX9_fingerprint 90 = .ok (.lload_n 1, 1) := by decide +kernel
theorem dX9_fingerprint_91 : decode cX9_fingerprint 91 = .ok (.lmul, 1) := by decide +kernel
theorem dX9_fingerprint_92 : decode cX9_fingerprint 92 = .ok (.aload_n 0, 1) := by decide +kernel
theorem dX9_fingerprint_93 : decode cX9_fingerprint 93 = .ok (.getfield 7, 3) := by decide +kernel
theorem dX9_fingerprint_96 : decode cX9_fingerprint 96 = .ok (.bipush 7, 2) := by decide +kernel
theorem dX9_fingerprint_98 : decode cX9_fingerprint 98 = .ok (.iaload, 1) := by decide +kernel
theorem dX9_fingerprint_99 : decode cX9_fingerprint 99 = .ok (.i2l, 1) := by decide +kernel
theorem dX9_fingerprint_100 : decode cX9_fingerprint 100 = .ok (.ladd, 1) := by decide +kernel
theorem dX9_fingerprint_101 : decode cX9_fingerprint 101 = .ok (.lmul, 1) := by decide +kernel
theorem dX9_fingerprint_102 : decode cX9_fingerprint 102 = .ok (.aload_n 0, 1) := by decide +kernel
theorem dX9_fingerprint_103 : decode cX9_fingerprint 103 = .ok (.getfield 7, 3) := by decide +kernel
theorem dX9_fingerprint_106 : decode cX9_fingerprint 106 = .ok (.bipush 8, 2) := by decide +kernel
theorem dX9_fingerprint_108 : decode cX9_fingerprint 108 = .ok (.iaload, 1) := by decide +kernel
theorem dX9_fingerprint_109 : decode cX9_fingerprint 109 = .ok (.i2l, 1) := by decide +kernel
theorem dX9_fingerprint_110 : decode cX9_fingerprint 110 = .ok (.ladd, 1) := by decide +kernel
theorem dX9_fingerprint_111 : decode cX9_fingerprint 111 = .ok (.lmul, 1) := by decide +kernel
theorem dX9_fingerprint_112 : decode cX9_fingerprint 112 = .ok (.aload_n 0, 1) := by decide +kernel
theorem dX9_fingerprint_113 : decode cX9_fingerprint 113 = .ok (.getfield 7, 3) := by decide +kernel
theorem dX9_fingerprint_116 : decode cX9_fingerprint 116 = .ok (.bipush 9, 2) := by decide +kernel
theorem dX9_fingerprint_118 : decode cX9_fingerprint 118 = .ok (.iaload, 1) := by decide +kernel
theorem dX9_fingerprint_119 : decode cX9_fingerprint 119 = .ok (.i2l, 1) := by decide +kernel
theorem dX9_fingerprint_120 : decode cX9_fingerprint 120 = .ok (.ladd, 1) := by decide +kernel
theorem dX9_fingerprint_121 : decode cX9_fingerprint 121 = .ok (.lstore_n 1, 1) := by decide +kernel
theorem dX9_fingerprint_122 : decode cX9_fingerprint 122 = .ok (.iconst 0, 1) := by decide +kernel
theorem dX9_fingerprint_123 : decode cX9_fingerprint 123 = .ok (.istore_n 3, 1) := by decide +kernel
theorem dX9_fingerprint_124 : decode cX9_fingerprint 124 = .ok (.iload_n 3, 1) := by decide +kernel
theorem dX9_fingerprint_125 : decode cX9_fingerprint 125 = .ok (.aload_n 0, 1) := by decide +kernel
theorem dX9_fingerprint_126 : decode cX9_fingerprint 126 = .ok (.getfield 7, 3) := by decide +kernel
theorem dX9_fingerprint_129 : decode cX9_fingerprint 129 = .ok (.bipush 9, 2) := by decide +kernel
theorem dX9_fingerprint_131 : decode cX9_fingerprint 131 = .ok (.iaload, 1) := by decide +kernel
theorem dX9_fingerprint_132 : decode cX9_fingerprint 132 = .ok (.if_icmp .ge 27, 3) := by decide +kernel
theorem dX9_fingerprint_135 : decode cX9_fingerprint 135 = .ok (.ldc2_w 212, 3) := by decide +kernel
theorem dX9_fingerprint_138 : decode cX9_fingerprint 138 = .ok (.lload_n 1, 1) := by decide +kernel
theorem dX9_fingerprint_139 : decode cX9_fingerprint 139 = .ok (.lmul, 1) := by decide +kernel
theorem dX9_fingerprint_140 : decode cX9_fingerprint 140 = .ok (.aload_n 0, 1) := by decide +kernel
theorem dX9_fingerprint_141 : decode cX9_fingerprint 141 = .ok (.getfield 7, 3) := by decide +kernel
theorem dX9_fingerprint_144 : decode cX9_fingerprint 144 = .ok (.sipush 25480, 3) := by decide +kernel
theorem dX9_fingerprint_147 : decode cX9_fingerprint 147 = .ok (.iload_n 3, 1) := by decide +kernel
theorem dX9_fingerprint_148 : decode cX9_fingerprint 148 = .ok (.iadd, 1) := by decide +kernel
theorem dX9_fingerprint_149 : decode cX9_fingerprint 149 = .ok (.iaload, 1) := by decide +kernel
theorem dX9_fingerprint_150 : decode cX9_fingerprint 150 = .ok (.i2l, 1) := by decide +kernel
theorem dX9_fingerprint_151 : decode cX9_fingerprint 151 = .ok (.ladd, 1) := by decide +kernel
theorem dX9_fingerprint_152 : decode cX9_fingerprint 152 = .ok (.lstore_n 1, 1) := by decide +kernel
theorem dX9_fingerprint_153 : decode cX9_fingerprint 153 = .ok (.iinc 3 1, 3) := by decide +kernel
theorem dX9_fingerprint_156 : decode cX9_fingerprint 156 = .ok (.goto (-32), 3) := by decide +kernel
theorem dX9_fingerprint_159 : decode cX9_fingerprint 159 = .ok (.lload_n 1, 1) := by decide +kernel
theorem dX9_fingerprint_160 : decode cX9_fingerprint 160 = .ok (.lreturn, 1) := by decide +kernel
theorem dJ9_max_7cf53_0 : decode cJ9_max_7cf53 0 = .ok (.iload_n 0, 1) := by decide +kernel
theorem dJ9_max_7cf53_1 : decode cJ9_max_7cf53 1 = .ok (.iload_n 1, 1) := by decide +kernel
theorem dJ9_max_7cf53_2 : decode cJ9_max_7cf53 2 = .ok (.if_icmp .lt 7, 3) := by decide +kernel
theorem dJ9_max_7cf53_5 : decode cJ9_max_7cf53 5 = .ok (.iload_n 0, 1) := by decide +kernel
theorem dJ9_max_7cf53_6 : decode cJ9_max_7cf53 6 = .ok (.goto 4, 3) := by decide +kernel
theorem dJ9_max_7cf53_9 : decode cJ9_max_7cf53 9 = .ok (.iload_n 1, 1) := by decide +kernel
theorem dJ9_max_7cf53_10 : decode cJ9_max_7cf53 10 = .ok (.ireturn, 1) := by decide +kernel
theorem dJ9_min_7cf53_0 : decode cJ9_min_7cf53 0 = .ok (.iload_n 0, 1) := by decide +kernel
theorem dJ9_min_7cf53_1 : decode cJ9_min_7cf53 1 = .ok (.iload_n 1, 1) := by decide +kernel
theorem dJ9_min_7cf53_2 : decode cJ9_min_7cf53 2 = .ok (.if_icmp .gt 7, 3) := by decide +kernel
theorem dJ9_min_7cf53_5 : decode cJ9_min_7cf53 5 = .ok (.iload_n 0, 1) := by decide +kernel
theorem dJ9_min_7cf53_6 : decode cJ9_min_7cf53 6 = .ok (.goto 4, 3) := by decide +kernel
theorem dJ9_min_7cf53_9 : decode cJ9_min_7cf53 9 = .ok (.iload_n 1, 1) := by decide +kernel
theorem dJ9_min_7cf53_10 : decode cJ9_min_7cf53 10 = .ok (.ireturn, 1) := by decide +kernel
theorem dJ9_min_f86c9_0 : decode cJ9_min_f86c9 0 = .ok (.lload_n 0, 1) := by decide +kernel
theorem dJ9_min_f86c9_1 : decode cJ9_min_f86c9 1 = .ok (.lload_n 2, 1) := by decide +kernel
theorem dJ9_min_f86c9_2 : decode cJ9_min_f86c9 2 = .ok (.lcmp, 1) := by decide +kernel
theorem dJ9_min_f86c9_3 : decode cJ9_min_f86c9 3 = .ok (.ifCond .gt 7, 3) := by decide +kernel
theorem dJ9_min_f86c9_6 : decode cJ9_min_f86c9 6 = .ok (.lload_n 0, 1) := by decide +kernel
theorem dJ9_min_f86c9_7 : decode cJ9_min_f86c9 7 = .ok (.goto 4, 3) := by decide +kernel
theorem dJ9_min_f86c9_10 : decode cJ9_min_f86c9 10 = .ok (.lload_n 2, 1) := by decide +kernel
theorem dJ9_min_f86c9_11 : decode cJ9_min_f86c9 11 = .ok (.lreturn, 1) := by decide +kernel
theorem dL_cell_0 : decode cL_cell 0 = .ok (.iload_n 1, 1) := by decide +kernel
theorem dL_cell_1 : decode cL_cell 1 = .ok (.aload_n 0, 1) := by decide +kernel
theorem dL_cell_2 : decode cL_cell 2 = .ok (.arraylength, 1) := by decide +kernel
theorem dL_cell_3 : decode cL_cell 3 = .ok (.if_icmp .ge 9, 3) := by decide +kernel
theorem dL_cell_6 : decode cL_cell 6 = .ok (.aload_n 0, 1) := by decide +kernel
theorem dL_cell_7 : decode cL_cell 7 = .ok (.iload_n 1, 1) := by decide +kernel
theorem dL_cell_8 : decode cL_cell 8 = .ok (.iaload, 1) := by decide +kernel
theorem dL_cell_9 : decode cL_cell 9 = .ok (.goto 4, 3) := by decide +kernel
theorem dL_cell_12 : decode cL_cell 12 = .ok (.iconst 0, 1) := by decide +kernel
theorem dL_cell_13 : decode cL_cell 13 = .ok (.ireturn, 1) := by decide +kernel
theorem dL_law_0 : decode cL_law 0 = .ok (.new 7, 3) := by decide +kernel
theorem dL_law_3 : decode cL_law 3 = .ok (.dup, 1) := by decide +kernel
theorem dL_law_4 : decode cL_law 4 = .ok (.aload_n 0, 1) := by decide +kernel
theorem dL_law_5 : decode cL_law 5 = .ok (.iconst 0, 1) := by decide +kernel
theorem dL_law_6 : decode cL_law 6 = .ok (.invokestatic 9, 3) := by decide +kernel
theorem dL_law_9 : decode cL_law 9 = .ok (.invokespecial 15, 3) := by decide +kernel
theorem dL_law_12 : decode cL_law 12 = .ok (.astore_n 1, 1) := by decide +kernel
theorem dL_law_13 : decode cL_law 13 = .ok (.new 18, 3) := by decide +kernel
theorem dL_law_16 : decode cL_law 16 = .ok (.dup, 1) := by decide +kernel
theorem dL_law_17 : decode cL_law 17 = .ok (.aload_n 0, 1) := by decide +kernel
theorem dL_law_18 : decode cL_law 18 = .ok (.iconst 0, 1) := by decide +kernel
theorem dL_law_19 : decode cL_law 19 = .ok (.invokestatic 9, 3) := by decide +kernel
theorem dL_law_22 : decode cL_law 22 = .ok (.invokespecial 20, 3) := by decide +kernel
theorem dL_law_25 : decode cL_law 25 = .ok (.astore_n 2, 1) := by decide +kernel
theorem dL_law_26 : decode cL_law 26 = .ok (.iconst 1, 1) := by decide +kernel
theorem dL_law_27 : decode cL_law 27 = .ok (.istore_n 3, 1) := by decide +kernel
theorem dL_law_28 : decode cL_law 28 = .ok (.iload_n 3, 1) := by decide +kernel
theorem dL_law_29 : decode cL_law 29 = .ok (.aload_n 0, 1) := by decide +kernel
theorem dL_law_30 : decode cL_law 30 = .ok (.arraylength, 1) := by decide +kernel
theorem dL_law_31 : decode cL_law 31 = .ok (.iconst 3, 1) := by decide +kernel
theorem dL_law_32 : decode cL_law 32 = .ok (.isub, 1) := by decide +kernel
theorem dL_law_33 : decode cL_law 33 = .ok (.if_icmp .gt 722, 3) := by decide +kernel
theorem dL_law_36 : decode cL_law 36 = .ok (.aload_n 0, 1) := by decide +kernel
theorem dL_law_37 : decode cL_law 37 = .ok (.iload_n 3, 1) := by decide +kernel
theorem dL_law_38 : decode cL_law 38 = .ok (.iaload, 1) := by decide +kernel
theorem dL_law_39 : decode cL_law 39 = .ok (.bipush 31, 2) := by decide +kernel
theorem dL_law_41 : decode cL_law 41 = .ok (.iand, 1) := by decide +kernel
theorem dL_law_42 : decode cL_law 42 = .ok (.tableswitch 707 0 27 #[126, 149, 188, 211, 234, 247, 260, 273, 306, 329, 352, 365, 388, 411, 424, 437, 460, 473, 486, 509, 542, 565, 588, 601, 634, 647, 680, 693], 126) := by decide +kernel
theorem dL_law_168 : decode cL_law 168 = .ok (.aload_n 1, 1) := by decide +kernel
theorem dL_law_169 : decode cL_law 169 = .ok (.aload_n 0, 1) := by decide +kernel
theorem dL_law_170 : decode cL_law 170 = .ok (.iload_n 3, 1) := by decide +kernel
theorem dL_law_171 : decode cL_law 171 = .ok (.iconst 1, 1) := by decide +kernel
theorem dL_law_172 : decode cL_law 172 = .ok (.iadd, 1) := by decide +kernel
theorem dL_law_173 : decode cL_law 173 = .ok (.iaload, 1) := by decide +kernel
theorem dL_law_174 : decode cL_law 174 = .ok (.invokevirtual 21, 3) := by decide +kernel
theorem dL_law_177 : decode cL_law 177 = .ok (.aload_n 2, 1) := by decide +kernel
theorem dL_law_178 : decode cL_law 178 = .ok (.aload_n 0, 1) := by decide +kernel
theorem dL_law_179 : decode cL_law 179 = .ok (.iload_n 3, 1) := by decide +kernel
theorem dL_law_180 : decode cL_law 180 = .ok (.iconst 1, 1) := by decide +kernel
theorem dL_law_181 : decode cL_law 181 = .ok (.iadd, 1) := by decide +kernel
theorem dL_law_182 : decode cL_law 182 = .ok (.iaload, 1) := by decide +kernel
theorem dL_law_183 : decode cL_law 183 = .ok (.invokevirtual 25, 3) := by decide +kernel
theorem dL_law_186 : decode cL_law 186 = .ok (.if_icmp .eq 563, 3) := by decide +kernel
theorem dL_law_189 : decode cL_law 189 = .ok (.iconst 0, 1) := by decide +kernel
theorem dL_law_190 : decode cL_law 190 = .ok (.ireturn, 1) := by decide +kernel
theorem dL_law_191 : decode cL_law 191 = .ok (.aload_n 1, 1) := by decide +kernel
theorem dL_law_192 : decode cL_law 192 = .ok (.aload_n 0, 1) := by decide +kernel
theorem dL_law_193 : decode cL_law 193 = .ok (.iload_n 3, 1) := by decide +kernel
theorem dL_law_194 : decode cL_law 194 = .ok (.iconst 1, 1) := by decide +kernel
theorem dL_law_195 : decode cL_law 195 = .ok (.iadd, 1) := by decide +kernel
theorem dL_law_196 : decode cL_law 196 = .ok (.iaload, 1) := by decide +kernel
theorem dL_law_197 : decode cL_law 197 = .ok (.ifCond .eq 7, 3) := by decide +kernel
theorem dL_law_200 : decode cL_law 200 = .ok (.iconst 1, 1) := by decide +kernel
theorem dL_law_201 : decode cL_law 201 = .ok (.goto 4, 3) := by decide +kernel
theorem dL_law_204 : decode cL_law 204 = .ok (.iconst 0, 1) := by decide +kernel
theorem dL_law_205 : decode cL_law 205 = .ok (.invokevirtual 26, 3) := by decide +kernel
theorem dL_law_208 : decode cL_law 208 = .ok (.aload_n 2, 1) := by decide +kernel
theorem dL_law_209 : decode cL_law 209 = .ok (.aload_n 0, 1) := by decide +kernel
theorem dL_law_210 : decode cL_law 210 = .ok (.iload_n 3, 1) := by decide +kernel
theorem dL_law_211 : decode cL_law 211 = .ok (.iconst 1, 1) := by decide +kernel
theorem dL_law_212 : decode cL_law 212 = .ok (.iadd, 1) := by decide +kernel
theorem dL_law_213 : decode cL_law 213 = .ok (.iaload, 1) := by decide +kernel
theorem dL_law_214 : decode cL_law 214 = .ok (.ifCond .eq 7, 3) := by decide +kernel
theorem dL_law_217 : decode cL_law 217 = .ok (.iconst 1, 1) := by decide +kernel
theorem dL_law_218 : decode cL_law 218 = .ok (.goto 4, 3) := by decide +kernel
theorem dL_law_221 : decode cL_law 221 = .ok (.iconst 0, 1) := by decide +kernel
theorem dL_law_222 : decode cL_law 222 = .ok (.invokevirtual 30, 3) := by decide +kernel
theorem dL_law_225 : decode cL_law 225 = .ok (.if_icmp .eq 524, 3) := by decide +kernel
theorem dL_law_228 : decode cL_law 228 = .ok (.iconst 0, 1) := by decide +kernel
theorem dL_law_229 : decode cL_law 229 = .ok (.ireturn, 1) := by decide +kernel
theorem dL_law_230 : decode cL_law 230 = .ok (.aload_n 1, 1) := by decide +kernel
theorem dL_law_231 : decode cL_law 231 = .ok (.aload_n 0, 1) := by decide +kernel
theorem dL_law_232 : decode cL_law 232 = .ok (.iload_n 3, 1) := by decide +kernel
theorem dL_law_233 : decode cL_law 233 = .ok (.iconst 1, 1) := by decide +kernel
theorem dL_law_234 : decode cL_law 234 = .ok (.iadd, 1) := by decide +kernel
theorem dL_law_235 : decode cL_law 235 = .ok (.iaload, 1) := by decide +kernel
theorem dL_law_236 : decode cL_law 236 = .ok (.invokevirtual 31, 3) := by decide +kernel
theorem dL_law_239 : decode cL_law 239 = .ok (.aload_n 2, 1) := by decide +kernel
theorem dL_law_240 : decode cL_law 240 = .ok (.aload_n 0, 1) := by decide +kernel
theorem dL_law_241 : decode cL_law 241 = .ok (.iload_n 3, 1) := by decide +kernel
theorem dL_law_242 : decode cL_law 242 = .ok (.iconst 1, 1) := by decide +kernel
theorem dL_law_243 : decode cL_law 243 = .ok (.iadd, 1) := by decide +kernel
theorem dL_law_244 : decode cL_law 244 = .ok (.iaload, 1) := by decide +kernel
theorem dL_law_245 : decode cL_law 245 = .ok (.invokevirtual 34, 3) := by decide +kernel
theorem dL_law_248 : decode cL_law 248 = .ok (.if_icmp .eq 501, 3) := by decide +kernel
theorem dL_law_251 : decode cL_law 251 = .ok (.iconst 0, 1) := by decide +kernel
theorem dL_law_252 : decode cL_law 252 = .ok (.ireturn, 1) := by decide +kernel
theorem dL_law_253 : decode cL_law 253 = .ok (.aload_n 1, 1) := by decide +kernel
theorem dL_law_254 : decode cL_law 254 = .ok (.aload_n 0, 1) := by decide +kernel
theorem dL_law_255 : decode cL_law 255 = .ok (.iload_n 3, 1) := by decide +kernel
theorem dL_law_256 : decode cL_law 256 = .ok (.iconst 1, 1) := by decide +kernel
theorem dL_law_257 : decode cL_law 257 = .ok (.iadd, 1) := by decide +kernel
theorem dL_law_258 : decode cL_law 258 = .ok (.iaload, 1) := by decide +kernel
theorem dL_law_259 : decode cL_law 259 = .ok (.invokevirtual 35, 3) := by decide +kernel
theorem dL_law_262 : decode cL_law 262 = .ok (.aload_n 2, 1) := by decide +kernel
theorem dL_law_263 : decode cL_law 263 = .ok (.aload_n 0, 1) := by decide +kernel
theorem dL_law_264 : decode cL_law 264 = .ok (.iload_n 3, 1) := by decide +kernel
theorem dL_law_265 : decode cL_law 265 = .ok (.iconst 1, 1) := by decide +kernel
theorem dL_law_266 : decode cL_law 266 = .ok (.iadd, 1) := by decide +kernel
theorem dL_law_267 : decode cL_law 267 = .ok (.iaload, 1) := by decide +kernel
theorem dL_law_268 : decode cL_law 268 = .ok (.invokevirtual 38, 3) := by decide +kernel
theorem dL_law_271 : decode cL_law 271 = .ok (.if_icmp .eq 478, 3) := by decide +kernel
theorem dL_law_274 : decode cL_law 274 = .ok (.iconst 0, 1) := by decide +kernel
theorem dL_law_275 : decode cL_law 275 = .ok (.ireturn, 1) := by decide +kernel
theorem dL_law_276 : decode cL_law 276 = .ok (.aload_n 1, 1) := by decide +kernel
theorem dL_law_277 : decode cL_law 277 = .ok (.invokevirtual 39, 3) := by decide +kernel
theorem dL_law_280 : decode cL_law 280 = .ok (.aload_n 2, 1) := by decide +kernel
theorem dL_law_281 : decode cL_law 281 = .ok (.invokevirtual 43, 3) := by decide +kernel
theorem dL_law_284 : decode cL_law 284 = .ok (.if_icmp .eq 465, 3) := by decide +kernel
theorem dL_law_287 : decode cL_law 287 = .ok (.iconst 0, 1) := by decide +kernel
theorem dL_law_288 : decode cL_law 288 = .ok (.ireturn, 1) := by decide +kernel
theorem dL_law_289 : decode cL_law 289 = .ok (.aload_n 1, 1) := by decide +kernel
theorem dL_law_290 : decode cL_law 290 = .ok (.invokevirtual 44, 3) := by decide +kernel
theorem dL_law_293 : decode cL_law 293 = .ok (.aload_n 2, 1) := by decide +kernel
theorem dL_law_294 : decode cL_law 294 = .ok (.invokevirtual 47, 3) := by decide +kernel
theorem dL_law_297 : decode cL_law 297 = .ok (.if_icmp .eq 452, 3) := by decide +kernel
theorem dL_law_300 : decode cL_law 300 = .ok (.iconst 0, 1) := by decide +kernel
theorem dL_law_301 : decode cL_law 301 = .ok (.ireturn, 1) := by decide +kernel
theorem dL_law_302 : decode cL_law 302 = .ok (.aload_n 1, 1) := by decide +kernel
theorem dL_law_303 : decode cL_law 303 = .ok (.invokevirtual 48, 3) := by decide +kernel
theorem dL_law_306 : decode cL_law 306 = .ok (.aload_n 2, 1) := by decide +kernel
theorem dL_law_307 : decode cL_law 307 = .ok (.invokevirtual 51, 3) := by decide +kernel
theorem dL_law_310 : decode cL_law 310 = .ok (.if_icmp .eq 439, 3) := by decide +kernel
theorem dL_law_313 : decode cL_law 313 = .ok (.iconst 0, 1) := by decide +kernel
theorem dL_law_314 : decode cL_law 314 = .ok (.ireturn, 1) := by decide +kernel
theorem dL_law_315 : decode cL_law 315 = .ok (.aload_n 1, 1) := by decide +kernel
theorem dL_law_316 : decode cL_law 316 = .ok (.aload_n 0, 1) := by decide +kernel
theorem dL_law_317 : decode cL_law 317 = .ok (.iload_n 3, 1) := by decide +kernel
theorem dL_law_318 : decode cL_law 318 = .ok (.iconst 1, 1) := by decide +kernel
theorem dL_law_319 : decode cL_law 319 = .ok (.iadd, 1) := by decide +kernel
theorem dL_law_320 : decode cL_law 320 = .ok (.iaload, 1) := by decide +kernel
theorem dL_law_321 : decode cL_law 321 = .ok (.aload_n 0, 1) := by decide +kernel
theorem dL_law_322 : decode cL_law 322 = .ok (.iload_n 3, 1) := by decide +kernel
theorem dL_law_323 : decode cL_law 323 = .ok (.iconst 2, 1) := by decide +kernel
theorem dL_law_324 : decode cL_law 324 = .ok (.iadd, 1) := by decide +kernel
theorem dL_law_325 : decode cL_law 325 = .ok (.iaload, 1) := by decide +kernel
theorem dL_law_326 : decode cL_law 326 = .ok (.invokevirtual 52, 3) := by decide +kernel
theorem dL_law_329 : decode cL_law 329 = .ok (.aload_n 2, 1) := by decide +kernel
theorem dL_law_330 : decode cL_law 330 = .ok (.aload_n 0, 1) := by decide +kernel
theorem dL_law_331 : decode cL_law 331 = .ok (.iload_n 3, 1) := by decide +kernel
theorem dL_law_332 : decode cL_law 332 = .ok (.iconst 1, 1) := by decide +kernel
theorem dL_law_333 : decode cL_law 333 = .ok (.iadd, 1) := by decide +kernel
theorem dL_law_334 : decode cL_law 334 = .ok (.iaload, 1) := by decide +kernel
theorem dL_law_335 : decode cL_law 335 = .ok (.aload_n 0, 1) := by decide +kernel
theorem dL_law_336 : decode cL_law 336 = .ok (.iload_n 3, 1) := by decide +kernel
theorem dL_law_337 : decode cL_law 337 = .ok (.iconst 2, 1) := by decide +kernel
theorem dL_law_338 : decode cL_law 338 = .ok (.iadd, 1) := by decide +kernel
theorem dL_law_339 : decode cL_law 339 = .ok (.iaload, 1) := by decide +kernel
theorem dL_law_340 : decode cL_law 340 = .ok (.invokevirtual 56, 3) := by decide +kernel
theorem dL_law_343 : decode cL_law 343 = .ok (.if_icmp .eq 406, 3) := by decide +kernel
theorem dL_law_346 : decode cL_law 346 = .ok (.iconst 0, 1) := by decide +kernel
theorem dL_law_347 : decode cL_law 347 = .ok (.ireturn, 1) := by decide +kernel
theorem dL_law_348 : decode cL_law 348 = .ok (.aload_n 1, 1) := by decide +kernel
theorem dL_law_349 : decode cL_law 349 = .ok (.aload_n 0, 1) := by decide +kernel
theorem dL_law_350 : decode cL_law 350 = .ok (.iload_n 3, 1) := by decide +kernel
theorem dL_law_351 : decode cL_law 351 = .ok (.iconst 1, 1) := by decide +kernel
theorem dL_law_352 : decode cL_law 352 = .ok (.iadd, 1) := by decide +kernel
theorem dL_law_353 : decode cL_law 353 = .ok (.iaload, 1) := by decide +kernel
theorem dL_law_354 : decode cL_law 354 = .ok (.invokevirtual 57, 3) := by decide +kernel
theorem dL_law_357 : decode cL_law 357 = .ok (.aload_n 2, 1) := by decide +kernel
theorem dL_law_358 : decode cL_law 358 = .ok (.aload_n 0, 1) := by decide +kernel
theorem dL_law_359 : decode cL_law 359 = .ok (.iload_n 3, 1) := by decide +kernel
theorem dL_law_360 : decode cL_law 360 = .ok (.iconst 1, 1) := by decide +kernel
theorem dL_law_361 : decode cL_law 361 = .ok (.iadd, 1) := by decide +kernel
theorem dL_law_362 : decode cL_law 362 = .ok (.iaload, 1) := by decide +kernel
theorem dL_law_363 : decode cL_law 363 = .ok (.invokevirtual 60, 3) := by decide +kernel
theorem dL_law_366 : decode cL_law 366 = .ok (.if_icmp .eq 383, 3) := by decide +kernel
theorem dL_law_369 : decode cL_law 369 = .ok (.iconst 0, 1) := by decide +kernel
theorem dL_law_370 : decode cL_law 370 = .ok (.ireturn, 1) := by decide +kernel
theorem dL_law_371 : decode cL_law 371 = .ok (.aload_n 1, 1) := by decide +kernel
theorem dL_law_372 : decode cL_law 372 = .ok (.aload_n 0, 1) := by decide +kernel
theorem dL_law_373 : decode cL_law 373 = .ok (.iload_n 3, 1) := by decide +kernel
theorem dL_law_374 : decode cL_law 374 = .ok (.iconst 1, 1) := by decide +kernel
theorem dL_law_375 : decode cL_law 375 = .ok (.iadd, 1) := by decide +kernel
theorem dL_law_376 : decode cL_law 376 = .ok (.iaload, 1) := by decide +kernel
theorem dL_law_377 : decode cL_law 377 = .ok (.invokevirtual 61, 3) := by decide +kernel
theorem dL_law_380 : decode cL_law 380 = .ok (.aload_n 2, 1) := by decide +kernel
theorem dL_law_381 : decode cL_law 381 = .ok (.aload_n 0, 1) := by decide +kernel
theorem dL_law_382 : decode cL_law 382 = .ok (.iload_n 3, 1) := by decide +kernel
theorem dL_law_383 : decode cL_law 383 = .ok (.iconst 1, 1) := by decide +kernel
theorem dL_law_384 : decode cL_law 384 = .ok (.iadd, 1) := by decide +kernel
theorem dL_law_385 : decode cL_law 385 = .ok (.iaload, 1) := by decide +kernel
theorem dL_law_386 : decode cL_law 386 = .ok (.invokevirtual 64, 3) := by decide +kernel
theorem dL_law_389 : decode cL_law 389 = .ok (.if_icmp .eq 360, 3) := by decide +kernel
theorem dL_law_392 : decode cL_law 392 = .ok (.iconst 0, 1) := by decide +kernel
theorem dL_law_393 : decode cL_law 393 = .ok (.ireturn, 1) := by decide +kernel
theorem dL_law_394 : decode cL_law 394 = .ok (.aload_n 1, 1) := by decide +kernel
theorem dL_law_395 : decode cL_law 395 = .ok (.invokevirtual 65, 3) := by decide +kernel
theorem dL_law_398 : decode cL_law 398 = .ok (.aload_n 2, 1) := by decide +kernel
theorem dL_law_399 : decode cL_law 399 = .ok (.invokevirtual 68, 3) := by decide +kernel
theorem dL_law_402 : decode cL_law 402 = .ok (.if_icmp .eq 347, 3) := by decide +kernel
theorem dL_law_405 : decode cL_law 405 = .ok (.iconst 0, 1) := by decide +kernel
theorem dL_law_406 : decode cL_law 406 = .ok (.ireturn, 1) := by decide +kernel
theorem dL_law_407 : decode cL_law 407 = .ok (.aload_n 1, 1) := by decide +kernel
theorem dL_law_408 : decode cL_law 408 = .ok (.aload_n 0, 1) := by decide +kernel
theorem dL_law_409 : decode cL_law 409 = .ok (.iload_n 3, 1) := by decide +kernel
theorem dL_law_410 : decode cL_law 410 = .ok (.iconst 1, 1) := by decide +kernel
theorem dL_law_411 : decode cL_law 411 = .ok (.iadd, 1) := by decide +kernel
theorem dL_law_412 : decode cL_law 412 = .ok (.iaload, 1) := by decide +kernel
theorem dL_law_413 : decode cL_law 413 = .ok (.invokevirtual 69, 3) := by decide +kernel
theorem dL_law_416 : decode cL_law 416 = .ok (.aload_n 2, 1) := by decide +kernel
theorem dL_law_417 : decode cL_law 417 = .ok (.aload_n 0, 1) := by decide +kernel
theorem dL_law_418 : decode cL_law 418 = .ok (.iload_n 3, 1) := by decide +kernel
theorem dL_law_419 : decode cL_law 419 = .ok (.iconst 1, 1) := by decide +kernel
theorem dL_law_420 : decode cL_law 420 = .ok (.iadd, 1) := by decide +kernel
theorem dL_law_421 : decode cL_law 421 = .ok (.iaload, 1) := by decide +kernel
theorem dL_law_422 : decode cL_law 422 = .ok (.invokevirtual 72, 3) := by decide +kernel
theorem dL_law_425 : decode cL_law 425 = .ok (.if_icmp .eq 324, 3) := by decide +kernel
theorem dL_law_428 : decode cL_law 428 = .ok (.iconst 0, 1) := by decide +kernel
theorem dL_law_429 : decode cL_law 429 = .ok (.ireturn, 1) := by decide +kernel
theorem dL_law_430 : decode cL_law 430 = .ok (.aload_n 1, 1) := by decide +kernel
theorem dL_law_431 : decode cL_law 431 = .ok (.aload_n 0, 1) := by decide +kernel
theorem dL_law_432 : decode cL_law 432 = .ok (.iload_n 3, 1) := by decide +kernel
theorem dL_law_433 : decode cL_law 433 = .ok (.iconst 1, 1) := by decide +kernel
theorem dL_law_434 : decode cL_law 434 = .ok (.iadd, 1) := by decide +kernel
theorem dL_law_435 : decode cL_law 435 = .ok (.iaload, 1) := by decide +kernel
theorem dL_law_436 : decode cL_law 436 = .ok (.invokevirtual 73, 3) := by decide +kernel
theorem dL_law_439 : decode cL_law 439 = .ok (.aload_n 2, 1) := by decide +kernel
theorem dL_law_440 : decode cL_law 440 = .ok (.aload_n 0, 1) := by decide +kernel
theorem dL_law_441 : decode cL_law 441 = .ok (.iload_n 3, 1) := by decide +kernel
theorem dL_law_442 : decode cL_law 442 = .ok (.iconst 1, 1) := by decide +kernel
theorem dL_law_443 : decode cL_law 443 = .ok (.iadd, 1) := by decide +kernel
theorem dL_law_444 : decode cL_law 444 = .ok (.iaload, 1) := by decide +kernel
theorem dL_law_445 : decode cL_law 445 = .ok (.invokevirtual 76, 3) := by decide +kernel
theorem dL_law_448 : decode cL_law 448 = .ok (.if_icmp .eq 301, 3) := by decide +kernel
theorem dL_law_451 : decode cL_law 451 = .ok (.iconst 0, 1) := by decide +kernel
theorem dL_law_452 : decode cL_law 452 = .ok (.ireturn, 1) := by decide +kernel
theorem dL_law_453 : decode cL_law 453 = .ok (.aload_n 1, 1) := by decide +kernel
theorem dL_law_454 : decode cL_law 454 = .ok (.invokevirtual 77, 3) := by decide +kernel
theorem dL_law_457 : decode cL_law 457 = .ok (.aload_n 2, 1) := by decide +kernel
theorem dL_law_458 : decode cL_law 458 = .ok (.invokevirtual 80, 3) := by decide +kernel
theorem dL_law_461 : decode cL_law 461 = .ok (.if_icmp .eq 288, 3) := by decide +kernel
theorem dL_law_464 : decode cL_law 464 = .ok (.iconst 0, 1) := by decide +kernel
theorem dL_law_465 : decode cL_law 465 = .ok (.ireturn, 1) := by decide +kernel
theorem dL_law_466 : decode cL_law 466 = .ok (.aload_n 1, 1) := by decide +kernel
theorem dL_law_467 : decode cL_law 467 = .ok (.invokevirtual 81, 3) := by decide +kernel
theorem dL_law_470 : decode cL_law 470 = .ok (.aload_n 2, 1) := by decide +kernel
theorem dL_law_471 : decode cL_law 471 = .ok (.invokevirtual 84, 3) := by decide +kernel
theorem dL_law_474 : decode cL_law 474 = .ok (.if_icmp .eq 275, 3) := by decide +kernel
theorem dL_law_477 : decode cL_law 477 = .ok (.iconst 0, 1) := by decide +kernel
theorem dL_law_478 : decode cL_law 478 = .ok (.ireturn, 1) := by decide +kernel
theorem dL_law_479 : decode cL_law 479 = .ok (.aload_n 1, 1) := by decide +kernel
theorem dL_law_480 : decode cL_law 480 = .ok (.aload_n 0, 1) := by decide +kernel
theorem dL_law_481 : decode cL_law 481 = .ok (.iload_n 3, 1) := by decide +kernel
theorem dL_law_482 : decode cL_law 482 = .ok (.iconst 1, 1) := by decide +kernel
theorem dL_law_483 : decode cL_law 483 = .ok (.iadd, 1) := by decide +kernel
theorem dL_law_484 : decode cL_law 484 = .ok (.iaload, 1) := by decide +kernel
theorem dL_law_485 : decode cL_law 485 = .ok (.invokevirtual 85, 3) := by decide +kernel
theorem dL_law_488 : decode cL_law 488 = .ok (.aload_n 2, 1) := by decide +kernel
theorem dL_law_489 : decode cL_law 489 = .ok (.aload_n 0, 1) := by decide +kernel
theorem dL_law_490 : decode cL_law 490 = .ok (.iload_n 3, 1) := by decide +kernel
theorem dL_law_491 : decode cL_law 491 = .ok (.iconst 1, 1) := by decide +kernel
theorem dL_law_492 : decode cL_law 492 = .ok (.iadd, 1) := by decide +kernel
theorem dL_law_493 : decode cL_law 493 = .ok (.iaload, 1) := by decide +kernel
theorem dL_law_494 : decode cL_law 494 = .ok (.invokevirtual 88, 3) := by decide +kernel
theorem dL_law_497 : decode cL_law 497 = .ok (.if_icmp .eq 252, 3) := by decide +kernel
theorem dL_law_500 : decode cL_law 500 = .ok (.iconst 0, 1) := by decide +kernel
theorem dL_law_501 : decode cL_law 501 = .ok (.ireturn, 1) := by decide +kernel
theorem dL_law_502 : decode cL_law 502 = .ok (.aload_n 1, 1) := by decide +kernel
theorem dL_law_503 : decode cL_law 503 = .ok (.invokevirtual 89, 3) := by decide +kernel
theorem dL_law_506 : decode cL_law 506 = .ok (.aload_n 2, 1) := by decide +kernel
theorem dL_law_507 : decode cL_law 507 = .ok (.invokevirtual 92, 3) := by decide +kernel
theorem dL_law_510 : decode cL_law 510 = .ok (.if_icmp .eq 239, 3) := by decide +kernel
theorem dL_law_513 : decode cL_law 513 = .ok (.iconst 0, 1) := by decide +kernel
theorem dL_law_514 : decode cL_law 514 = .ok (.ireturn, 1) := by decide +kernel
theorem dL_law_515 : decode cL_law 515 = .ok (.aload_n 1, 1) := by decide +kernel
theorem dL_law_516 : decode cL_law 516 = .ok (.invokevirtual 93, 3) := by decide +kernel
theorem dL_law_519 : decode cL_law 519 = .ok (.aload_n 2, 1) := by decide +kernel
theorem dL_law_520 : decode cL_law 520 = .ok (.invokevirtual 96, 3) := by decide +kernel
theorem dL_law_523 : decode cL_law 523 = .ok (.if_icmp .eq 226, 3) := by decide +kernel
theorem dL_law_526 : decode cL_law 526 = .ok (.iconst 0, 1) := by decide +kernel
theorem dL_law_527 : decode cL_law 527 = .ok (.ireturn, 1) := by decide +kernel
theorem dL_law_528 : decode cL_law 528 = .ok (.aload_n 1, 1) := by decide +kernel
theorem dL_law_529 : decode cL_law 529 = .ok (.aload_n 0, 1) := by decide +kernel
theorem dL_law_530 : decode cL_law 530 = .ok (.iload_n 3, 1) := by decide +kernel
theorem dL_law_531 : decode cL_law 531 = .ok (.iconst 1, 1) := by decide +kernel
theorem dL_law_532 : decode cL_law 532 = .ok (.iadd, 1) := by decide +kernel
theorem dL_law_533 : decode cL_law 533 = .ok (.iaload, 1) := by decide +kernel
theorem dL_law_534 : decode cL_law 534 = .ok (.invokevirtual 97, 3) := by decide +kernel
theorem dL_law_537 : decode cL_law 537 = .ok (.aload_n 2, 1) := by decide +kernel
theorem dL_law_538 : decode cL_law 538 = .ok (.aload_n 0, 1) := by decide +kernel
theorem dL_law_539 : decode cL_law 539 = .ok (.iload_n 3, 1) := by decide +kernel
theorem dL_law_540 : decode cL_law 540 = .ok (.iconst 1, 1) := by decide +kernel
theorem dL_law_541 : decode cL_law 541 = .ok (.iadd, 1) := by decide +kernel
theorem dL_law_542 : decode cL_law 542 = .ok (.iaload, 1) := by decide +kernel
theorem dL_law_543 : decode cL_law 543 = .ok (.invokevirtual 100, 3) := by decide +kernel
theorem dL_law_546 : decode cL_law 546 = .ok (.if_icmp .eq 203, 3) := by decide +kernel
theorem dL_law_549 : decode cL_law 549 = .ok (.iconst 0, 1) := by decide +kernel
theorem dL_law_550 : decode cL_law 550 = .ok (.ireturn, 1) := by decide +kernel
theorem dL_law_551 : decode cL_law 551 = .ok (.aload_n 1, 1) := by decide +kernel
theorem dL_law_552 : decode cL_law 552 = .ok (.aload_n 0, 1) := by decide +kernel
theorem dL_law_553 : decode cL_law 553 = .ok (.iload_n 3, 1) := by decide +kernel
theorem dL_law_554 : decode cL_law 554 = .ok (.iconst 1, 1) := by decide +kernel
theorem dL_law_555 : decode cL_law 555 = .ok (.iadd, 1) := by decide +kernel
theorem dL_law_556 : decode cL_law 556 = .ok (.iaload, 1) := by decide +kernel
theorem dL_law_557 : decode cL_law 557 = .ok (.aload_n 0, 1) := by decide +kernel
theorem dL_law_558 : decode cL_law 558 = .ok (.iload_n 3, 1) := by decide +kernel
theorem dL_law_559 : decode cL_law 559 = .ok (.iconst 2, 1) := by decide +kernel
theorem dL_law_560 : decode cL_law 560 = .ok (.iadd, 1) := by decide +kernel
theorem dL_law_561 : decode cL_law 561 = .ok (.iaload, 1) := by decide +kernel
theorem dL_law_562 : decode cL_law 562 = .ok (.invokevirtual 101, 3) := by decide +kernel
theorem dL_law_565 : decode cL_law 565 = .ok (.aload_n 2, 1) := by decide +kernel
theorem dL_law_566 : decode cL_law 566 = .ok (.aload_n 0, 1) := by decide +kernel
theorem dL_law_567 : decode cL_law 567 = .ok (.iload_n 3, 1) := by decide +kernel
theorem dL_law_568 : decode cL_law 568 = .ok (.iconst 1, 1) := by decide +kernel
theorem dL_law_569 : decode cL_law 569 = .ok (.iadd, 1) := by decide +kernel
theorem dL_law_570 : decode cL_law 570 = .ok (.iaload, 1) := by decide +kernel
theorem dL_law_571 : decode cL_law 571 = .ok (.aload_n 0, 1) := by decide +kernel
theorem dL_law_572 : decode cL_law 572 = .ok (.iload_n 3, 1) := by decide +kernel
theorem dL_law_573 : decode cL_law 573 = .ok (.iconst 2, 1) := by decide +kernel
theorem dL_law_574 : decode cL_law 574 = .ok (.iadd, 1) := by decide +kernel
theorem dL_law_575 : decode cL_law 575 = .ok (.iaload, 1) := by decide +kernel
theorem dL_law_576 : decode cL_law 576 = .ok (.invokevirtual 104, 3) := by decide +kernel
theorem dL_law_579 : decode cL_law 579 = .ok (.if_icmp .eq 170, 3) := by decide +kernel
theorem dL_law_582 : decode cL_law 582 = .ok (.iconst 0, 1) := by decide +kernel
theorem dL_law_583 : decode cL_law 583 = .ok (.ireturn, 1) := by decide +kernel
theorem dL_law_584 : decode cL_law 584 = .ok (.aload_n 1, 1) := by decide +kernel
theorem dL_law_585 : decode cL_law 585 = .ok (.aload_n 0, 1) := by decide +kernel
theorem dL_law_586 : decode cL_law 586 = .ok (.iload_n 3, 1) := by decide +kernel
theorem dL_law_587 : decode cL_law 587 = .ok (.iconst 1, 1) := by decide +kernel
theorem dL_law_588 : decode cL_law 588 = .ok (.iadd, 1) := by decide +kernel
theorem dL_law_589 : decode cL_law 589 = .ok (.iaload, 1) := by decide +kernel
theorem dL_law_590 : decode cL_law 590 = .ok (.invokevirtual 105, 3) := by decide +kernel
theorem dL_law_593 : decode cL_law 593 = .ok (.aload_n 2, 1) := by decide +kernel
theorem dL_law_594 : decode cL_law 594 = .ok (.aload_n 0, 1) := by decide +kernel
theorem dL_law_595 : decode cL_law 595 = .ok (.iload_n 3, 1) := by decide +kernel
theorem dL_law_596 : decode cL_law 596 = .ok (.iconst 1, 1) := by decide +kernel
theorem dL_law_597 : decode cL_law 597 = .ok (.iadd, 1) := by decide +kernel
theorem dL_law_598 : decode cL_law 598 = .ok (.iaload, 1) := by decide +kernel
theorem dL_law_599 : decode cL_law 599 = .ok (.invokevirtual 108, 3) := by decide +kernel
theorem dL_law_602 : decode cL_law 602 = .ok (.if_icmp .eq 147, 3) := by decide +kernel
theorem dL_law_605 : decode cL_law 605 = .ok (.iconst 0, 1) := by decide +kernel
theorem dL_law_606 : decode cL_law 606 = .ok (.ireturn, 1) := by decide +kernel
theorem dL_law_607 : decode cL_law 607 = .ok (.aload_n 1, 1) := by decide +kernel
theorem dL_law_608 : decode cL_law 608 = .ok (.aload_n 0, 1) := by decide +kernel
theorem dL_law_609 : decode cL_law 609 = .ok (.iload_n 3, 1) := by decide +kernel
theorem dL_law_610 : decode cL_law 610 = .ok (.iconst 1, 1) := by decide +kernel
theorem dL_law_611 : decode cL_law 611 = .ok (.iadd, 1) := by decide +kernel
theorem dL_law_612 : decode cL_law 612 = .ok (.iaload, 1) := by decide +kernel
theorem dL_law_613 : decode cL_law 613 = .ok (.invokevirtual 109, 3) := by decide +kernel
theorem dL_law_616 : decode cL_law 616 = .ok (.aload_n 2, 1) := by decide +kernel
theorem dL_law_617 : decode cL_law 617 = .ok (.aload_n 0, 1) := by decide +kernel
theorem dL_law_618 : decode cL_law 618 = .ok (.iload_n 3, 1) := by decide +kernel
theorem dL_law_619 : decode cL_law 619 = .ok (.iconst 1, 1) := by decide +kernel
theorem dL_law_620 : decode cL_law 620 = .ok (.iadd, 1) := by decide +kernel
theorem dL_law_621 : decode cL_law 621 = .ok (.iaload, 1) := by decide +kernel
theorem dL_law_622 : decode cL_law 622 = .ok (.invokevirtual 112, 3) := by decide +kernel
theorem dL_law_625 : decode cL_law 625 = .ok (.if_icmp .eq 124, 3) := by decide +kernel
theorem dL_law_628 : decode cL_law 628 = .ok (.iconst 0, 1) := by decide +kernel
theorem dL_law_629 : decode cL_law 629 = .ok (.ireturn, 1) := by decide +kernel
theorem dL_law_630 : decode cL_law 630 = .ok (.aload_n 1, 1) := by decide +kernel
theorem dL_law_631 : decode cL_law 631 = .ok (.invokevirtual 113, 3) := by decide +kernel
theorem dL_law_634 : decode cL_law 634 = .ok (.aload_n 2, 1) := by decide +kernel
theorem dL_law_635 : decode cL_law 635 = .ok (.invokevirtual 116, 3) := by decide +kernel
theorem dL_law_638 : decode cL_law 638 = .ok (.if_icmp .eq 111, 3) := by decide +kernel
theorem dL_law_641 : decode cL_law 641 = .ok (.iconst 0, 1) := by decide +kernel
theorem dL_law_642 : decode cL_law 642 = .ok (.ireturn, 1) := by decide +kernel
theorem dL_law_643 : decode cL_law 643 = .ok (.aload_n 1, 1) := by decide +kernel
theorem dL_law_644 : decode cL_law 644 = .ok (.aload_n 0, 1) := by decide +kernel
theorem dL_law_645 : decode cL_law 645 = .ok (.iload_n 3, 1) := by decide +kernel
theorem dL_law_646 : decode cL_law 646 = .ok (.iconst 1, 1) := by decide +kernel
theorem dL_law_647 : decode cL_law 647 = .ok (.iadd, 1) := by decide +kernel
theorem dL_law_648 : decode cL_law 648 = .ok (.iaload, 1) := by decide +kernel
theorem dL_law_649 : decode cL_law 649 = .ok (.aload_n 0, 1) := by decide +kernel
theorem dL_law_650 : decode cL_law 650 = .ok (.iload_n 3, 1) := by decide +kernel
theorem dL_law_651 : decode cL_law 651 = .ok (.iconst 2, 1) := by decide +kernel
theorem dL_law_652 : decode cL_law 652 = .ok (.iadd, 1) := by decide +kernel
theorem dL_law_653 : decode cL_law 653 = .ok (.iaload, 1) := by decide +kernel
theorem dL_law_654 : decode cL_law 654 = .ok (.invokevirtual 117, 3) := by decide +kernel
theorem dL_law_657 : decode cL_law 657 = .ok (.aload_n 2, 1) := by decide +kernel
theorem dL_law_658 : decode cL_law 658 = .ok (.aload_n 0, 1) := by decide +kernel
theorem dL_law_659 : decode cL_law 659 = .ok (.iload_n 3, 1) := by decide +kernel
theorem dL_law_660 : decode cL_law 660 = .ok (.iconst 1, 1) := by decide +kernel
theorem dL_law_661 : decode cL_law 661 = .ok (.iadd, 1) := by decide +kernel
theorem dL_law_662 : decode cL_law 662 = .ok (.iaload, 1) := by decide +kernel
theorem dL_law_663 : decode cL_law 663 = .ok (.aload_n 0, 1) := by decide +kernel
theorem dL_law_664 : decode cL_law 664 = .ok (.iload_n 3, 1) := by decide +kernel
theorem dL_law_665 : decode cL_law 665 = .ok (.iconst 2, 1) := by decide +kernel
theorem dL_law_666 : decode cL_law 666 = .ok (.iadd, 1) := by decide +kernel
theorem dL_law_667 : decode cL_law 667 = .ok (.iaload, 1) := by decide +kernel
theorem dL_law_668 : decode cL_law 668 = .ok (.invokevirtual 120, 3) := by decide +kernel
theorem dL_law_671 : decode cL_law 671 = .ok (.if_icmp .eq 78, 3) := by decide +kernel
theorem dL_law_674 : decode cL_law 674 = .ok (.iconst 0, 1) := by decide +kernel
theorem dL_law_675 : decode cL_law 675 = .ok (.ireturn, 1) := by decide +kernel
theorem dL_law_676 : decode cL_law 676 = .ok (.aload_n 1, 1) := by decide +kernel
theorem dL_law_677 : decode cL_law 677 = .ok (.invokevirtual 121, 3) := by decide +kernel
theorem dL_law_680 : decode cL_law 680 = .ok (.aload_n 2, 1) := by decide +kernel
theorem dL_law_681 : decode cL_law 681 = .ok (.invokevirtual 124, 3) := by decide +kernel
theorem dL_law_684 : decode cL_law 684 = .ok (.if_icmp .eq 65, 3) := by decide +kernel
theorem dL_law_687 : decode cL_law 687 = .ok (.iconst 0, 1) := by decide +kernel
theorem dL_law_688 : decode cL_law 688 = .ok (.ireturn, 1) := by decide +kernel
theorem dL_law_689 : decode cL_law 689 = .ok (.aload_n 1, 1) := by decide +kernel
theorem dL_law_690 : decode cL_law 690 = .ok (.aload_n 0, 1) := by decide +kernel
theorem dL_law_691 : decode cL_law 691 = .ok (.iload_n 3, 1) := by decide +kernel
theorem dL_law_692 : decode cL_law 692 = .ok (.iconst 1, 1) := by decide +kernel
theorem dL_law_693 : decode cL_law 693 = .ok (.iadd, 1) := by decide +kernel
theorem dL_law_694 : decode cL_law 694 = .ok (.iaload, 1) := by decide +kernel
theorem dL_law_695 : decode cL_law 695 = .ok (.aload_n 0, 1) := by decide +kernel
theorem dL_law_696 : decode cL_law 696 = .ok (.iload_n 3, 1) := by decide +kernel
theorem dL_law_697 : decode cL_law 697 = .ok (.iconst 2, 1) := by decide +kernel
theorem dL_law_698 : decode cL_law 698 = .ok (.iadd, 1) := by decide +kernel
theorem dL_law_699 : decode cL_law 699 = .ok (.iaload, 1) := by decide +kernel
theorem dL_law_700 : decode cL_law 700 = .ok (.invokevirtual 125, 3) := by decide +kernel
theorem dL_law_703 : decode cL_law 703 = .ok (.aload_n 2, 1) := by decide +kernel
theorem dL_law_704 : decode cL_law 704 = .ok (.aload_n 0, 1) := by decide +kernel
theorem dL_law_705 : decode cL_law 705 = .ok (.iload_n 3, 1) := by decide +kernel
theorem dL_law_706 : decode cL_law 706 = .ok (.iconst 1, 1) := by decide +kernel
theorem dL_law_707 : decode cL_law 707 = .ok (.iadd, 1) := by decide +kernel
theorem dL_law_708 : decode cL_law 708 = .ok (.iaload, 1) := by decide +kernel
theorem dL_law_709 : decode cL_law 709 = .ok (.aload_n 0, 1) := by decide +kernel
theorem dL_law_710 : decode cL_law 710 = .ok (.iload_n 3, 1) := by decide +kernel
theorem dL_law_711 : decode cL_law 711 = .ok (.iconst 2, 1) := by decide +kernel
theorem dL_law_712 : decode cL_law 712 = .ok (.iadd, 1) := by decide +kernel
theorem dL_law_713 : decode cL_law 713 = .ok (.iaload, 1) := by decide +kernel
theorem dL_law_714 : decode cL_law 714 = .ok (.invokevirtual 128, 3) := by decide +kernel
theorem dL_law_717 : decode cL_law 717 = .ok (.if_icmp .eq 32, 3) := by decide +kernel
theorem dL_law_720 : decode cL_law 720 = .ok (.iconst 0, 1) := by decide +kernel
theorem dL_law_721 : decode cL_law 721 = .ok (.ireturn, 1) := by decide +kernel
theorem dL_law_722 : decode cL_law 722 = .ok (.aload_n 1, 1) := by decide +kernel
theorem dL_law_723 : decode cL_law 723 = .ok (.invokevirtual 129, 3) := by decide +kernel
theorem dL_law_726 : decode cL_law 726 = .ok (.aload_n 2, 1) := by decide +kernel
theorem dL_law_727 : decode cL_law 727 = .ok (.invokevirtual 132, 3) := by decide +kernel
theorem dL_law_730 : decode cL_law 730 = .ok (.if_icmp .eq 19, 3) := by decide +kernel
theorem dL_law_733 : decode cL_law 733 = .ok (.iconst 0, 1) := by decide +kernel
theorem dL_law_734 : decode cL_law 734 = .ok (.ireturn, 1) := by decide +kernel
theorem dL_law_735 : decode cL_law 735 = .ok (.aload_n 1, 1) := by decide +kernel
theorem dL_law_736 : decode cL_law 736 = .ok (.invokevirtual 133, 3) := by decide +kernel
theorem dL_law_739 : decode cL_law 739 = .ok (.aload_n 2, 1) := by decide +kernel
theorem dL_law_740 : decode cL_law 740 = .ok (.invokevirtual 137, 3) := by decide +kernel
theorem dL_law_743 : decode cL_law 743 = .ok (.lcmp, 1) := by decide +kernel
theorem dL_law_744 : decode cL_law 744 = .ok (.ifCond .eq 5, 3) := by decide +kernel
theorem dL_law_747 : decode cL_law 747 = .ok (.iconst 0, 1) := by decide +kernel
theorem dL_law_748 : decode cL_law 748 = .ok (.ireturn, 1) := by decide +kernel
theorem dL_law_749 : decode cL_law 749 = .ok (.iinc 3 3, 3) := by decide +kernel
theorem dL_law_752 : decode cL_law 752 = .ok (.goto (-724), 3) := by decide +kernel
theorem dL_law_755 : decode cL_law 755 = .ok (.iconst 1, 1) := by decide +kernel
theorem dL_law_756 : decode cL_law 756 = .ok (.ireturn, 1) := by decide +kernel
