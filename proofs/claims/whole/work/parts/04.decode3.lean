theorem dX8_logarithm_54 : decode cX8_logarithm 54 = .ok (.lmul, 1) := by decide +kernel
theorem dX8_logarithm_55 : decode cX8_logarithm 55 = .ok (.bipush 30, 2) := by decide +kernel
theorem dX8_logarithm_57 : decode cX8_logarithm 57 = .ok (.lshr, 1) := by decide +kernel
theorem dX8_logarithm_58 : decode cX8_logarithm 58 = .ok (.lstore_n 2, 1) := by decide +kernel
theorem dX8_logarithm_59 : decode cX8_logarithm 59 = .ok (.lload_n 2, 1) := by decide +kernel
theorem dX8_logarithm_60 : decode cX8_logarithm 60 = .ok (.ldc2_w 319, 3) := by decide +kernel
theorem dX8_logarithm_63 : decode cX8_logarithm 63 = .ok (.lcmp, 1) := by decide +kernel
theorem dX8_logarithm_64 : decode cX8_logarithm 64 = .ok (.ifCond .lt 16, 3) := by decide +kernel
theorem dX8_logarithm_67 : decode cX8_logarithm 67 = .ok (.lload_n 2, 1) := by decide +kernel
theorem dX8_logarithm_68 : decode cX8_logarithm 68 = .ok (.iconst 1, 1) := by decide +kernel
theorem dX8_logarithm_69 : decode cX8_logarithm 69 = .ok (.lshr, 1) := by decide +kernel
theorem dX8_logarithm_70 : decode cX8_logarithm 70 = .ok (.lstore_n 2, 1) := by decide +kernel
theorem dX8_logarithm_71 : decode cX8_logarithm 71 = .ok (.iload 4, 2) := by decide +kernel
theorem dX8_logarithm_73 : decode cX8_logarithm 73 = .ok (.iconst 1, 1) := by decide +kernel
theorem dX8_logarithm_74 : decode cX8_logarithm 74 = .ok (.iload 5, 2) := by decide +kernel
theorem dX8_logarithm_76 : decode cX8_logarithm 76 = .ok (.ishl, 1) := by decide +kernel
theorem dX8_logarithm_77 : decode cX8_logarithm 77 = .ok (.iadd, 1) := by decide +kernel
theorem dX8_logarithm_78 : decode cX8_logarithm 78 = .ok (.istore 4, 2) := by decide +kernel
theorem dX8_logarithm_80 : decode cX8_logarithm 80 = .ok (.iinc 5 (-1), 3) := by decide +kernel
theorem dX8_logarithm_83 : decode cX8_logarithm 83 = .ok (.goto (-36), 3) := by decide +kernel
theorem dX8_logarithm_86 : decode cX8_logarithm 86 = .ok (.iload 4, 2) := by decide +kernel
theorem dX8_logarithm_88 : decode cX8_logarithm 88 = .ok (.ireturn, 1) := by decide +kernel
theorem dX9_init_0 : decode cX9_init 0 = .ok (.aload_n 0, 1) := by decide +kernel
theorem dX9_init_1 : decode cX9_init 1 = .ok (.invokespecial 1, 3) := by decide +kernel
theorem dX9_init_4 : decode cX9_init 4 = .ok (.aload_n 0, 1) := by decide +kernel
theorem dX9_init_5 : decode cX9_init 5 = .ok (.sipush 25700, 3) := by decide +kernel
theorem dX9_init_8 : decode cX9_init 8 = .ok (.newarray .int, 2) := by decide +kernel
theorem dX9_init_10 : decode cX9_init 10 = .ok (.putfield 7, 3) := by decide +kernel
theorem dX9_init_13 : decode cX9_init 13 = .ok (.aload_n 0, 1) := by decide +kernel
theorem dX9_init_14 : decode cX9_init 14 = .ok (.sipush 25700, 3) := by decide +kernel
theorem dX9_init_17 : decode cX9_init 17 = .ok (.newarray .int, 2) := by decide +kernel
theorem dX9_init_19 : decode cX9_init 19 = .ok (.putfield 13, 3) := by decide +kernel
theorem dX9_init_22 : decode cX9_init 22 = .ok (.aload_n 0, 1) := by decide +kernel
theorem dX9_init_23 : decode cX9_init 23 = .ok (.ldc 16, 2) := by decide +kernel
theorem dX9_init_25 : decode cX9_init 25 = .ok (.newarray .int, 2) := by decide +kernel
theorem dX9_init_27 : decode cX9_init 27 = .ok (.putfield 17, 3) := by decide +kernel
theorem dX9_init_30 : decode cX9_init 30 = .ok (.aload_n 0, 1) := by decide +kernel
theorem dX9_init_31 : decode cX9_init 31 = .ok (.sipush 200, 3) := by decide +kernel
theorem dX9_init_34 : decode cX9_init 34 = .ok (.newarray .int, 2) := by decide +kernel
theorem dX9_init_36 : decode cX9_init 36 = .ok (.putfield 20, 3) := by decide +kernel
theorem dX9_init_39 : decode cX9_init 39 = .ok (.aload_n 0, 1) := by decide +kernel
theorem dX9_init_40 : decode cX9_init 40 = .ok (.sipush 2000, 3) := by decide +kernel
theorem dX9_init_43 : decode cX9_init 43 = .ok (.newarray .int, 2) := by decide +kernel
theorem dX9_init_45 : decode cX9_init 45 = .ok (.putfield 23, 3) := by decide +kernel
theorem dX9_init_48 : decode cX9_init 48 = .ok (.aload_n 0, 1) := by decide +kernel
theorem dX9_init_49 : decode cX9_init 49 = .ok (.bipush 96, 2) := by decide +kernel
theorem dX9_init_51 : decode cX9_init 51 = .ok (.newarray .boolean, 2) := by decide +kernel
theorem dX9_init_53 : decode cX9_init 53 = .ok (.putfield 26, 3) := by decide +kernel
theorem dX9_init_56 : decode cX9_init 56 = .ok (.aload_n 0, 1) := by decide +kernel
theorem dX9_init_57 : decode cX9_init 57 = .ok (.sipush 804, 3) := by decide +kernel
theorem dX9_init_60 : decode cX9_init 60 = .ok (.newarray .int, 2) := by decide +kernel
theorem dX9_init_62 : decode cX9_init 62 = .ok (.putfield 30, 3) := by decide +kernel
theorem dX9_init_65 : decode cX9_init 65 = .ok (.aload_n 0, 1) := by decide +kernel
theorem dX9_init_66 : decode cX9_init 66 = .ok (.sipush 201, 3) := by decide +kernel
theorem dX9_init_69 : decode cX9_init 69 = .ok (.newarray .int, 2) := by decide +kernel
theorem dX9_init_71 : decode cX9_init 71 = .ok (.putfield 33, 3) := by decide +kernel
theorem dX9_init_74 : decode cX9_init 74 = .ok (.aload_n 0, 1) := by decide +kernel
theorem dX9_init_75 : decode cX9_init 75 = .ok (.getfield 7, 3) := by decide +kernel
theorem dX9_init_78 : decode cX9_init 78 = .ok (.iconst 0, 1) := by decide +kernel
theorem dX9_init_79 : decode cX9_init 79 = .ok (.iload_n 1, 1) := by decide +kernel
theorem dX9_init_80 : decode cX9_init 80 = .ok (.ifCond .ge 7, 3) := by decide +kernel
theorem dX9_init_83 : decode cX9_init 83 = .ok (.iconst 0, 1) := by decide +kernel
theorem dX9_init_84 : decode cX9_init 84 = .ok (.goto 13, 3) := by decide +kernel
theorem dX9_init_87 : decode cX9_init 87 = .ok (.iload_n 1, 1) := by decide +kernel
theorem dX9_init_88 : decode cX9_init 88 = .ok (.iconst 3, 1) := by decide +kernel
theorem dX9_init_89 : decode cX9_init 89 = .ok (.if_icmp .le 7, 3) := by decide +kernel
theorem dX9_init_92 : decode cX9_init 92 = .ok (.iconst 3, 1) := by decide +kernel
theorem dX9_init_93 : decode cX9_init 93 = .ok (.goto 4, 3) := by decide +kernel
theorem dX9_init_96 : decode cX9_init 96 = .ok (.iload_n 1, 1) := by decide +kernel
theorem dX9_init_97 : decode cX9_init 97 = .ok (.iastore, 1) := by decide +kernel
theorem dX9_init_98 : decode cX9_init 98 = .ok (.aload_n 0, 1) := by decide +kernel
theorem dX9_init_99 : decode cX9_init 99 = .ok (.getfield 7, 3) := by decide +kernel
theorem dX9_init_102 : decode cX9_init 102 = .ok (.iconst 2, 1) := by decide +kernel
theorem dX9_init_103 : decode cX9_init 103 = .ok (.iconst 1, 1) := by decide +kernel
theorem dX9_init_104 : decode cX9_init 104 = .ok (.iastore, 1) := by decide +kernel
theorem dX9_init_105 : decode cX9_init 105 = .ok (.aload_n 0, 1) := by decide +kernel
theorem dX9_init_106 : decode cX9_init 106 = .ok (.getfield 7, 3) := by decide +kernel
theorem dX9_init_109 : decode cX9_init 109 = .ok (.iconst 3, 1) := by decide +kernel
theorem dX9_init_110 : decode cX9_init 110 = .ok (.sipush 200, 3) := by decide +kernel
theorem dX9_init_113 : decode cX9_init 113 = .ok (.iastore, 1) := by decide +kernel
theorem dX9_init_114 : decode cX9_init 114 = .ok (.return_, 1) := by decide +kernel
theorem dX9_in_0 : decode cX9_in 0 = .ok (.iload_n 0, 1) := by decide +kernel
theorem dX9_in_1 : decode cX9_in 1 = .ok (.iload_n 1, 1) := by decide +kernel
theorem dX9_in_2 : decode cX9_in 2 = .ok (.if_icmp .lt 12, 3) := by decide +kernel
theorem dX9_in_5 : decode cX9_in 5 = .ok (.iload_n 0, 1) := by decide +kernel
theorem dX9_in_6 : decode cX9_in 6 = .ok (.iload_n 2, 1) := by decide +kernel
theorem dX9_in_7 : decode cX9_in 7 = .ok (.if_icmp .gt 7, 3) := by decide +kernel
theorem dX9_in_10 : decode cX9_in 10 = .ok (.iconst 1, 1) := by decide +kernel
theorem dX9_in_11 : decode cX9_in 11 = .ok (.goto 4, 3) := by decide +kernel
theorem dX9_in_14 : decode cX9_in 14 = .ok (.iconst 0, 1) := by decide +kernel
theorem dX9_in_15 : decode cX9_in 15 = .ok (.ireturn, 1) := by decide +kernel
theorem dX9_keeps_0 : decode cX9_keeps 0 = .ok (.aload_n 0, 1) := by decide +kernel
theorem dX9_keeps_1 : decode cX9_keeps 1 = .ok (.getfield 36, 3) := by decide +kernel
theorem dX9_keeps_4 : decode cX9_keeps 4 = .ok (.iconst 4, 1) := by decide +kernel
theorem dX9_keeps_5 : decode cX9_keeps 5 = .ok (.if_icmp .ne 43, 3) := by decide +kernel
theorem dX9_keeps_8 : decode cX9_keeps 8 = .ok (.iconst 0, 1) := by decide +kernel
theorem dX9_keeps_9 : decode cX9_keeps 9 = .ok (.istore_n 2, 1) := by decide +kernel
theorem dX9_keeps_10 : decode cX9_keeps 10 = .ok (.iload_n 2, 1) := by decide +kernel
theorem dX9_keeps_11 : decode cX9_keeps 11 = .ok (.ldc 40, 2) := by decide +kernel
theorem dX9_keeps_13 : decode cX9_keeps 13 = .ok (.if_icmp .ge 25, 3) := by decide +kernel
theorem dX9_keeps_16 : decode cX9_keeps 16 = .ok (.aload_n 0, 1) := by decide +kernel
theorem dX9_keeps_17 : decode cX9_keeps 17 = .ok (.getfield 17, 3) := by decide +kernel
theorem dX9_keeps_20 : decode cX9_keeps 20 = .ok (.iload_n 2, 1) := by decide +kernel
theorem dX9_keeps_21 : decode cX9_keeps 21 = .ok (.aload_n 0, 1) := by decide +kernel
theorem dX9_keeps_22 : decode cX9_keeps 22 = .ok (.getfield 17, 3) := by decide +kernel
theorem dX9_keeps_25 : decode cX9_keeps 25 = .ok (.iload_n 2, 1) := by decide +kernel
theorem dX9_keeps_26 : decode cX9_keeps 26 = .ok (.sipush 25700, 3) := by decide +kernel
theorem dX9_keeps_29 : decode cX9_keeps 29 = .ok (.iadd, 1) := by decide +kernel
theorem dX9_keeps_30 : decode cX9_keeps 30 = .ok (.iaload, 1) := by decide +kernel
theorem dX9_keeps_31 : decode cX9_keeps 31 = .ok (.iastore, 1) := by decide +kernel
theorem dX9_keeps_32 : decode cX9_keeps 32 = .ok (.iinc 2 1, 3) := by decide +kernel
theorem dX9_keeps_35 : decode cX9_keeps 35 = .ok (.goto (-25), 3) := by decide +kernel
theorem dX9_keeps_38 : decode cX9_keeps 38 = .ok (.aload_n 0, 1) := by decide +kernel
theorem dX9_keeps_39 : decode cX9_keeps 39 = .ok (.dup, 1) := by decide +kernel
theorem dX9_keeps_40 : decode cX9_keeps 40 = .ok (.getfield 36, 3) := by decide +kernel
theorem dX9_keeps_43 : decode cX9_keeps 43 = .ok (.iconst 1, 1) := by decide +kernel
theorem dX9_keeps_44 : decode cX9_keeps 44 = .ok (.isub, 1) := by decide +kernel
theorem dX9_keeps_45 : decode cX9_keeps 45 = .ok (.putfield 36, 3) := by decide +kernel
theorem dX9_keeps_48 : decode cX9_keeps 48 = .ok (.iconst 0, 1) := by decide +kernel
theorem dX9_keeps_49 : decode cX9_keeps 49 = .ok (.istore_n 2, 1) := by decide +kernel
theorem dX9_keeps_50 : decode cX9_keeps 50 = .ok (.iload_n 2, 1) := by decide +kernel
theorem dX9_keeps_51 : decode cX9_keeps 51 = .ok (.sipush 25700, 3) := by decide +kernel
theorem dX9_keeps_54 : decode cX9_keeps 54 = .ok (.if_icmp .ge 27, 3) := by decide +kernel
theorem dX9_keeps_57 : decode cX9_keeps 57 = .ok (.aload_n 0, 1) := by decide +kernel
theorem dX9_keeps_58 : decode cX9_keeps 58 = .ok (.getfield 17, 3) := by decide +kernel
theorem dX9_keeps_61 : decode cX9_keeps 61 = .ok (.sipush 25700, 3) := by decide +kernel
theorem dX9_keeps_64 : decode cX9_keeps 64 = .ok (.aload_n 0, 1) := by decide +kernel
theorem dX9_keeps_65 : decode cX9_keeps 65 = .ok (.getfield 36, 3) := by decide +kernel
theorem dX9_keeps_68 : decode cX9_keeps 68 = .ok (.imul, 1) := by decide +kernel
theorem dX9_keeps_69 : decode cX9_keeps 69 = .ok (.iload_n 2, 1) := by decide +kernel
theorem dX9_keeps_70 : decode cX9_keeps 70 = .ok (.iadd, 1) := by decide +kernel
theorem dX9_keeps_71 : decode cX9_keeps 71 = .ok (.aload_n 1, 1) := by decide +kernel
theorem dX9_keeps_72 : decode cX9_keeps 72 = .ok (.iload_n 2, 1) := by decide +kernel
theorem dX9_keeps_73 : decode cX9_keeps 73 = .ok (.iaload, 1) := by decide +kernel
theorem dX9_keeps_74 : decode cX9_keeps 74 = .ok (.iastore, 1) := by decide +kernel
theorem dX9_keeps_75 : decode cX9_keeps 75 = .ok (.iinc 2 1, 3) := by decide +kernel
theorem dX9_keeps_78 : decode cX9_keeps 78 = .ok (.goto (-28), 3) := by decide +kernel
theorem dX9_keeps_81 : decode cX9_keeps 81 = .ok (.aload_n 0, 1) := by decide +kernel
theorem dX9_keeps_82 : decode cX9_keeps 82 = .ok (.dup, 1) := by decide +kernel
theorem dX9_keeps_83 : decode cX9_keeps 83 = .ok (.getfield 36, 3) := by decide +kernel
theorem dX9_keeps_86 : decode cX9_keeps 86 = .ok (.iconst 1, 1) := by decide +kernel
theorem dX9_keeps_87 : decode cX9_keeps 87 = .ok (.iadd, 1) := by decide +kernel
theorem dX9_keeps_88 : decode cX9_keeps 88 = .ok (.putfield 36, 3) := by decide +kernel
theorem dX9_keeps_91 : decode cX9_keeps 91 = .ok (.return_, 1) := by decide +kernel
theorem dX9_copies_0 : decode cX9_copies 0 = .ok (.iconst 0, 1) := by decide +kernel
theorem dX9_copies_1 : decode cX9_copies 1 = .ok (.istore_n 2, 1) := by decide +kernel
theorem dX9_copies_2 : decode cX9_copies 2 = .ok (.iload_n 2, 1) := by decide +kernel
theorem dX9_copies_3 : decode cX9_copies 3 = .ok (.sipush 25700, 3) := by decide +kernel
theorem dX9_copies_6 : decode cX9_copies 6 = .ok (.if_icmp .ge 15, 3) := by decide +kernel
theorem dX9_copies_9 : decode cX9_copies 9 = .ok (.aload_n 1, 1) := by decide +kernel
theorem dX9_copies_10 : decode cX9_copies 10 = .ok (.iload_n 2, 1) := by decide +kernel
theorem dX9_copies_11 : decode cX9_copies 11 = .ok (.aload_n 0, 1) := by decide +kernel
theorem dX9_copies_12 : decode cX9_copies 12 = .ok (.iload_n 2, 1) := by decide +kernel
theorem dX9_copies_13 : decode cX9_copies 13 = .ok (.iaload, 1) := by decide +kernel
theorem dX9_copies_14 : decode cX9_copies 14 = .ok (.iastore, 1) := by decide +kernel
theorem dX9_copies_15 : decode cX9_copies 15 = .ok (.iinc 2 1, 3) := by decide +kernel
theorem dX9_copies_18 : decode cX9_copies 18 = .ok (.goto (-16), 3) := by decide +kernel
theorem dX9_copies_21 : decode cX9_copies 21 = .ok (.return_, 1) := by decide +kernel
theorem dX9_sets_0 : decode cX9_sets 0 = .ok (.aload_n 0, 1) := by decide +kernel
theorem dX9_sets_1 : decode cX9_sets 1 = .ok (.aload_n 0, 1) := by decide +kernel
theorem dX9_sets_2 : decode cX9_sets 2 = .ok (.getfield 7, 3) := by decide +kernel
theorem dX9_sets_5 : decode cX9_sets 5 = .ok (.invokevirtual 41, 3) := by decide +kernel
theorem dX9_sets_8 : decode cX9_sets 8 = .ok (.aload_n 0, 1) := by decide +kernel
theorem dX9_sets_9 : decode cX9_sets 9 = .ok (.getfield 7, 3) := by decide +kernel
theorem dX9_sets_12 : decode cX9_sets 12 = .ok (.iload_n 1, 1) := by decide +kernel
theorem dX9_sets_13 : decode cX9_sets 13 = .ok (.iaload, 1) := by decide +kernel
theorem dX9_sets_14 : decode cX9_sets 14 = .ok (.istore_n 3, 1) := by decide +kernel
theorem dX9_sets_15 : decode cX9_sets 15 = .ok (.aload_n 0, 1) := by decide +kernel
theorem dX9_sets_16 : decode cX9_sets 16 = .ok (.getfield 7, 3) := by decide +kernel
theorem dX9_sets_19 : decode cX9_sets 19 = .ok (.iload_n 1, 1) := by decide +kernel
theorem dX9_sets_20 : decode cX9_sets 20 = .ok (.iload_n 2, 1) := by decide +kernel
theorem dX9_sets_21 : decode cX9_sets 21 = .ok (.iastore, 1) := by decide +kernel
theorem dX9_sets_22 : decode cX9_sets 22 = .ok (.iload_n 3, 1) := by decide +kernel
theorem dX9_sets_23 : decode cX9_sets 23 = .ok (.ireturn, 1) := by decide +kernel
theorem dX9_keyOf_0 : decode cX9_keyOf 0 = .ok (.iload_n 2, 1) := by decide +kernel
theorem dX9_keyOf_1 : decode cX9_keyOf 1 = .ok (.istore_n 3, 1) := by decide +kernel
theorem dX9_keyOf_2 : decode cX9_keyOf 2 = .ok (.iload_n 1, 1) := by decide +kernel
theorem dX9_keyOf_3 : decode cX9_keyOf 3 = .ok (.iload_n 2, 1) := by decide +kernel
theorem dX9_keyOf_4 : decode cX9_keyOf 4 = .ok (.isub, 1) := by decide +kernel
theorem dX9_keyOf_5 : decode cX9_keyOf 5 = .ok (.istore 4, 2) := by decide +kernel
theorem dX9_keyOf_7 : decode cX9_keyOf 7 = .ok (.iload 4, 2) := by decide +kernel
theorem dX9_keyOf_9 : decode cX9_keyOf 9 = .ok (.iload_n 1, 1) := by decide +kernel
theorem dX9_keyOf_10 : decode cX9_keyOf 10 = .ok (.if_icmp .ge 22, 3) := by decide +kernel
theorem dX9_keyOf_13 : decode cX9_keyOf 13 = .ok (.bipush 97, 2) := by decide +kernel
theorem dX9_keyOf_15 : decode cX9_keyOf 15 = .ok (.iload_n 3, 1) := by decide +kernel
theorem dX9_keyOf_16 : decode cX9_keyOf 16 = .ok (.imul, 1) := by decide +kernel
theorem dX9_keyOf_17 : decode cX9_keyOf 17 = .ok (.aload_n 0, 1) := by decide +kernel
theorem dX9_keyOf_18 : decode cX9_keyOf 18 = .ok (.iload 4, 2) := by decide +kernel
theorem dX9_keyOf_20 : decode cX9_keyOf 20 = .ok (.iaload, 1) := by decide +kernel
theorem dX9_keyOf_21 : decode cX9_keyOf 21 = .ok (.iadd, 1) := by decide +kernel
theorem dX9_keyOf_22 : decode cX9_keyOf 22 = .ok (.bipush 31, 2) := by decide +kernel
theorem dX9_keyOf_24 : decode cX9_keyOf 24 = .ok (.isub, 1) := by decide +kernel
theorem dX9_keyOf_25 : decode cX9_keyOf 25 = .ok (.istore_n 3, 1) := by decide +kernel
theorem dX9_keyOf_26 : decode cX9_keyOf 26 = .ok (.iinc 4 1, 3) := by decide +kernel
theorem dX9_keyOf_29 : decode cX9_keyOf 29 = .ok (.goto (-22), 3) := by decide +kernel
theorem dX9_keyOf_32 : decode cX9_keyOf 32 = .ok (.iload_n 3, 1) := by decide +kernel
theorem dX9_keyOf_33 : decode cX9_keyOf 33 = .ok (.ireturn, 1) := by decide +kernel
theorem dX9_find_0 : decode cX9_find 0 = .ok (.aload_n 1, 1) := by decide +kernel
theorem dX9_find_1 : decode cX9_find 1 = .ok (.iload_n 2, 1) := by decide +kernel
theorem dX9_find_2 : decode cX9_find 2 = .ok (.iload_n 3, 1) := by decide +kernel
theorem dX9_find_3 : decode cX9_find 3 = .ok (.invokestatic 45, 3) := by decide +kernel
theorem dX9_find_6 : decode cX9_find 6 = .ok (.istore 4, 2) := by decide +kernel
theorem dX9_find_8 : decode cX9_find 8 = .ok (.iconst 0, 1) := by decide +kernel
theorem dX9_find_9 : decode cX9_find 9 = .ok (.istore 5, 2) := by decide +kernel
theorem dX9_find_11 : decode cX9_find 11 = .ok (.iload 5, 2) := by decide +kernel
theorem dX9_find_13 : decode cX9_find 13 = .ok (.aload_n 0, 1) := by decide +kernel
theorem dX9_find_14 : decode cX9_find 14 = .ok (.getfield 7, 3) := by decide +kernel
theorem dX9_find_17 : decode cX9_find 17 = .ok (.iconst 4, 1) := by decide +kernel
theorem dX9_find_18 : decode cX9_find 18 = .ok (.iaload, 1) := by decide +kernel
theorem dX9_find_19 : decode cX9_find 19 = .ok (.if_icmp .ge 27, 3) := by decide +kernel
theorem dX9_find_22 : decode cX9_find 22 = .ok (.aload_n 0, 1) := by decide +kernel
theorem dX9_find_23 : decode cX9_find 23 = .ok (.getfield 7, 3) := by decide +kernel
theorem dX9_find_26 : decode cX9_find 26 = .ok (.bipush 10, 2) := by decide +kernel
theorem dX9_find_28 : decode cX9_find 28 = .ok (.iload 5, 2) := by decide +kernel
theorem dX9_find_30 : decode cX9_find 30 = .ok (.iadd, 1) := by decide +kernel
theorem dX9_find_31 : decode cX9_find 31 = .ok (.iaload, 1) := by decide +kernel
theorem dX9_find_32 : decode cX9_find 32 = .ok (.iload 4, 2) := by decide +kernel
theorem dX9_find_34 : decode cX9_find 34 = .ok (.if_icmp .ne 6, 3) := by decide +kernel
theorem dX9_find_37 : decode cX9_find 37 = .ok (.iload 5, 2) := by decide +kernel
theorem dX9_find_39 : decode cX9_find 39 = .ok (.ireturn, 1) := by decide +kernel
theorem dX9_find_40 : decode cX9_find 40 = .ok (.iinc 5 1, 3) := by decide +kernel
theorem dX9_find_43 : decode cX9_find 43 = .ok (.goto (-32), 3) := by decide +kernel
theorem dX9_find_46 : decode cX9_find 46 = .ok (.iconst (-1), 1) := by decide +kernel
theorem dX9_find_47 : decode cX9_find 47 = .ok (.ireturn, 1) := by decide +kernel
theorem dX9_countAt_0 : decode cX9_countAt 0 = .ok (.aload_n 0, 1) := by decide +kernel
theorem dX9_countAt_1 : decode cX9_countAt 1 = .ok (.getfield 7, 3) := by decide +kernel
theorem dX9_countAt_4 : decode cX9_countAt 4 = .ok (.sipush 260, 3) := by decide +kernel
theorem dX9_countAt_7 : decode cX9_countAt 7 = .ok (.bipush 96, 2) := by decide +kernel
theorem dX9_countAt_9 : decode cX9_countAt 9 = .ok (.iload_n 1, 1) := by decide +kernel
theorem dX9_countAt_10 : decode cX9_countAt 10 = .ok (.imul, 1) := by decide +kernel
theorem dX9_countAt_11 : decode cX9_countAt 11 = .ok (.iadd, 1) := by decide +kernel
theorem dX9_countAt_12 : decode cX9_countAt 12 = .ok (.iload_n 2, 1) := by decide +kernel
theorem dX9_countAt_13 : decode cX9_countAt 13 = .ok (.iadd, 1) := by decide +kernel
theorem dX9_countAt_14 : decode cX9_countAt 14 = .ok (.iaload, 1) := by decide +kernel
theorem dX9_countAt_15 : decode cX9_countAt 15 = .ok (.ireturn, 1) := by decide +kernel
theorem dX9_weightOf_0 : decode cX9_weightOf 0 = .ok (.iconst 0, 1) := by decide +kernel
theorem dX9_weightOf_1 : decode cX9_weightOf 1 = .ok (.istore_n 2, 1) := by decide +kernel
theorem dX9_weightOf_2 : decode cX9_weightOf 2 = .ok (.iconst 0, 1) := by decide +kernel
theorem dX9_weightOf_3 : decode cX9_weightOf 3 = .ok (.istore_n 3, 1) := by decide +kernel
theorem dX9_weightOf_4 : decode cX9_weightOf 4 = .ok (.iload_n 3, 1) := by decide +kernel
theorem dX9_weightOf_5 : decode cX9_weightOf 5 = .ok (.bipush 96, 2) := by decide +kernel
theorem dX9_weightOf_7 : decode cX9_weightOf 7 = .ok (.if_icmp .ge 18, 3) := by decide +kernel
theorem dX9_weightOf_10 : decode cX9_weightOf 10 = .ok (.iload_n 2, 1) := by decide +kernel
theorem dX9_weightOf_11 : decode cX9_weightOf 11 = .ok (.aload_n 0, 1) := by decide +kernel
theorem dX9_weightOf_12 : decode cX9_weightOf 12 = .ok (.iload_n 1, 1) := by decide +kernel
theorem dX9_weightOf_13 : decode cX9_weightOf 13 = .ok (.iload_n 3, 1) := by decide +kernel
theorem dX9_weightOf_14 : decode cX9_weightOf 14 = .ok (.invokevirtual 49, 3) := by decide +kernel
theorem dX9_weightOf_17 : decode cX9_weightOf 17 = .ok (.iadd, 1) := by decide +kernel
theorem dX9_weightOf_18 : decode cX9_weightOf 18 = .ok (.istore_n 2, 1) := by decide +kernel
theorem dX9_weightOf_19 : decode cX9_weightOf 19 = .ok (.iinc 3 1, 3) := by decide +kernel
theorem dX9_weightOf_22 : decode cX9_weightOf 22 = .ok (.goto (-18), 3) := by decide +kernel
theorem dX9_weightOf_25 : decode cX9_weightOf 25 = .ok (.iload_n 2, 1) := by decide +kernel
theorem dX9_weightOf_26 : decode cX9_weightOf 26 = .ok (.ireturn, 1) := by decide +kernel
theorem dX9_counts_0 : decode cX9_counts 0 = .ok (.aload_n 0, 1) := by decide +kernel
theorem dX9_counts_1 : decode cX9_counts 1 = .ok (.getfield 7, 3) := by decide +kernel
theorem dX9_counts_4 : decode cX9_counts 4 = .ok (.sipush 260, 3) := by decide +kernel
theorem dX9_counts_7 : decode cX9_counts 7 = .ok (.bipush 96, 2) := by decide +kernel
theorem dX9_counts_9 : decode cX9_counts 9 = .ok (.iload_n 1, 1) := by decide +kernel
theorem dX9_counts_10 : decode cX9_counts 10 = .ok (.imul, 1) := by decide +kernel
theorem dX9_counts_11 : decode cX9_counts 11 = .ok (.iadd, 1) := by decide +kernel
theorem dX9_counts_12 : decode cX9_counts 12 = .ok (.iload_n 2, 1) := by decide +kernel
theorem dX9_counts_13 : decode cX9_counts 13 = .ok (.iadd, 1) := by decide +kernel
theorem dX9_counts_14 : decode cX9_counts 14 = .ok (.dup2, 1) := by decide +kernel
theorem dX9_counts_15 : decode cX9_counts 15 = .ok (.iaload, 1) := by decide +kernel
theorem dX9_counts_16 : decode cX9_counts 16 = .ok (.aload_n 0, 1) := by decide +kernel
theorem dX9_counts_17 : decode cX9_counts 17 = .ok (.getfield 7, 3) := by decide +kernel
theorem dX9_counts_20 : decode cX9_counts 20 = .ok (.iconst 2, 1) := by decide +kernel
theorem dX9_counts_21 : decode cX9_counts 21 = .ok (.iaload, 1) := by decide +kernel
theorem dX9_counts_22 : decode cX9_counts 22 = .ok (.iadd, 1) := by decide +kernel
theorem dX9_counts_23 : decode cX9_counts 23 = .ok (.iastore, 1) := by decide +kernel
theorem dX9_counts_24 : decode cX9_counts 24 = .ok (.aload_n 0, 1) := by decide +kernel
theorem dX9_counts_25 : decode cX9_counts 25 = .ok (.iload_n 1, 1) := by decide +kernel
theorem dX9_counts_26 : decode cX9_counts 26 = .ok (.invokevirtual 53, 3) := by decide +kernel
theorem dX9_counts_29 : decode cX9_counts 29 = .ok (.aload_n 0, 1) := by decide +kernel
theorem dX9_counts_30 : decode cX9_counts 30 = .ok (.getfield 7, 3) := by decide +kernel
theorem dX9_counts_33 : decode cX9_counts 33 = .ok (.iconst 3, 1) := by decide +kernel
theorem dX9_counts_34 : decode cX9_counts 34 = .ok (.iaload, 1) := by decide +kernel
theorem dX9_counts_35 : decode cX9_counts 35 = .ok (.if_icmp .le 42, 3) := by decide +kernel
theorem dX9_counts_38 : decode cX9_counts 38 = .ok (.iconst 0, 1) := by decide +kernel
theorem dX9_counts_39 : decode cX9_counts 39 = .ok (.istore_n 3, 1) := by decide +kernel
theorem dX9_counts_40 : decode cX9_counts 40 = .ok (.iload_n 3, 1) := by decide +kernel
theorem dX9_counts_41 : decode cX9_counts 41 = .ok (.bipush 96, 2) := by decide +kernel
theorem dX9_counts_43 : decode cX9_counts 43 = .ok (.if_icmp .ge 34, 3) := by decide +kernel
theorem dX9_counts_46 : decode cX9_counts 46 = .ok (.aload_n 0, 1) := by decide +kernel
theorem dX9_counts_47 : decode cX9_counts 47 = .ok (.getfield 7, 3) := by decide +kernel
theorem dX9_counts_50 : decode cX9_counts 50 = .ok (.sipush 260, 3) := by decide +kernel
theorem dX9_counts_53 : decode cX9_counts 53 = .ok (.bipush 96, 2) := by decide +kernel
theorem dX9_counts_55 : decode cX9_counts 55 = .ok (.iload_n 1, 1) := by decide +kernel
theorem dX9_counts_56 : decode cX9_counts 56 = .ok (.imul, 1) := by decide +kernel
theorem dX9_counts_57 : decode cX9_counts 57 = .ok (.iadd, 1) := by decide +kernel
theorem dX9_counts_58 : decode cX9_counts 58 = .ok (.iload_n 3, 1) := by decide +kernel
theorem dX9_counts_59 : decode cX9_counts 59 = .ok (.iadd, 1) := by decide +kernel
theorem dX9_counts_60 : decode cX9_counts 60 = .ok (.aload_n 0, 1) := by decide +kernel
theorem dX9_counts_61 : decode cX9_counts 61 = .ok (.iload_n 1, 1) := by decide +kernel
theorem dX9_counts_62 : decode cX9_counts 62 = .ok (.iload_n 3, 1) := by decide +kernel
theorem dX9_counts_63 : decode cX9_counts 63 = .ok (.invokevirtual 49, 3) := by decide +kernel
theorem dX9_counts_66 : decode cX9_counts 66 = .ok (.iconst 1, 1) := by decide +kernel
theorem dX9_counts_67 : decode cX9_counts 67 = .ok (.iadd, 1) := by decide +kernel
theorem dX9_counts_68 : decode cX9_counts 68 = .ok (.iconst 2, 1) := by decide +kernel
theorem dX9_counts_69 : decode cX9_counts 69 = .ok (.idiv, 1) := by decide +kernel
theorem dX9_counts_70 : decode cX9_counts 70 = .ok (.iastore, 1) := by decide +kernel
theorem dX9_counts_71 : decode cX9_counts 71 = .ok (.iinc 3 1, 3) := by decide +kernel
theorem dX9_counts_74 : decode cX9_counts 74 = .ok (.goto (-34), 3) := by decide +kernel
theorem dX9_counts_77 : decode cX9_counts 77 = .ok (.return_, 1) := by decide +kernel
theorem dX9_learns_0 : decode cX9_learns 0 = .ok (.iconst 0, 1) := by decide +kernel
theorem dX9_learns_1 : decode cX9_learns 1 = .ok (.istore 4, 2) := by decide +kernel
theorem dX9_learns_3 : decode cX9_learns 3 = .ok (.iload 4, 2) := by decide +kernel
theorem dX9_learns_5 : decode cX9_learns 5 = .ok (.aload_n 0, 1) := by decide +kernel
theorem dX9_learns_6 : decode cX9_learns 6 = .ok (.getfield 7, 3) := by decide +kernel
theorem dX9_learns_9 : decode cX9_learns 9 = .ok (.iconst 0, 1) := by decide +kernel
theorem dX9_learns_10 : decode cX9_learns 10 = .ok (.iaload, 1) := by decide +kernel
theorem dX9_learns_11 : decode cX9_learns 11 = .ok (.if_icmp .gt 123, 3) := by decide +kernel
theorem dX9_learns_14 : decode cX9_learns 14 = .ok (.iload 4, 2) := by decide +kernel
theorem dX9_learns_16 : decode cX9_learns 16 = .ok (.iload_n 2, 1) := by decide +kernel
theorem dX9_learns_17 : decode cX9_learns 17 = .ok (.if_icmp .gt 117, 3) := by decide +kernel
theorem dX9_learns_20 : decode cX9_learns 20 = .ok (.aload_n 0, 1) := by decide +kernel
theorem dX9_learns_21 : decode cX9_learns 21 = .ok (.aload_n 1, 1) := by decide +kernel
theorem dX9_learns_22 : decode cX9_learns 22 = .ok (.iload_n 2, 1) := by decide +kernel
theorem dX9_learns_23 : decode cX9_learns 23 = .ok (.iload 4, 2) := by decide +kernel
theorem dX9_learns_25 : decode cX9_learns 25 = .ok (.invokevirtual 57, 3) := by decide +kernel
theorem dX9_learns_28 : decode cX9_learns 28 = .ok (.istore 5, 2) := by decide +kernel
theorem dX9_learns_30 : decode cX9_learns 30 = .ok (.iload 5, 2) := by decide +kernel
theorem dX9_learns_32 : decode cX9_learns 32 = .ok (.ifCond .ge 84, 3) := by decide +kernel
theorem dX9_learns_35 : decode cX9_learns 35 = .ok (.aload_n 0, 1) := by decide +kernel
theorem dX9_learns_36 : decode cX9_learns 36 = .ok (.getfield 7, 3) := by decide +kernel
theorem dX9_learns_39 : decode cX9_learns 39 = .ok (.iconst 4, 1) := by decide +kernel
theorem dX9_learns_40 : decode cX9_learns 40 = .ok (.iaload, 1) := by decide +kernel
theorem dX9_learns_41 : decode cX9_learns 41 = .ok (.sipush 250, 3) := by decide +kernel
theorem dX9_learns_44 : decode cX9_learns 44 = .ok (.if_icmp .ge 72, 3) := by decide +kernel
theorem dX9_learns_47 : decode cX9_learns 47 = .ok (.aload_n 0, 1) := by decide +kernel
theorem dX9_learns_48 : decode cX9_learns 48 = .ok (.getfield 7, 3) := by decide +kernel
theorem dX9_learns_51 : decode cX9_learns 51 = .ok (.iconst 4, 1) := by decide +kernel
theorem dX9_learns_52 : decode cX9_learns 52 = .ok (.iaload, 1) := by decide +kernel
theorem dX9_learns_53 : decode cX9_learns 53 = .ok (.istore 5, 2) := by decide +kernel
theorem dX9_learns_55 : decode cX9_learns 55 = .ok (.aload_n 0, 1) := by decide +kernel
theorem dX9_learns_56 : decode cX9_learns 56 = .ok (.getfield 7, 3) := by decide +kernel
theorem dX9_learns_59 : decode cX9_learns 59 = .ok (.bipush 10, 2) := by decide +kernel
theorem dX9_learns_61 : decode cX9_learns 61 = .ok (.iload 5, 2) := by decide +kernel
theorem dX9_learns_63 : decode cX9_learns 63 = .ok (.iadd, 1) := by decide +kernel
theorem dX9_learns_64 : decode cX9_learns 64 = .ok (.aload_n 1, 1) := by decide +kernel
theorem dX9_learns_65 : decode cX9_learns 65 = .ok (.iload_n 2, 1) := by decide +kernel
theorem dX9_learns_66 : decode cX9_learns 66 = .ok (.iload 4, 2) := by decide +kernel
theorem dX9_learns_68 : decode cX9_learns 68 = .ok (.invokestatic 45, 3) := by decide +kernel
theorem dX9_learns_71 : decode cX9_learns 71 = .ok (.iastore, 1) := by decide +kernel
theorem dX9_learns_72 : decode cX9_learns 72 = .ok (.iconst 0, 1) := by decide +kernel
theorem dX9_learns_73 : decode cX9_learns 73 = .ok (.istore 6, 2) := by decide +kernel
theorem dX9_learns_75 : decode cX9_learns 75 = .ok (.iload 6, 2) := by decide +kernel
theorem dX9_learns_77 : decode cX9_learns 77 = .ok (.bipush 96, 2) := by decide +kernel
theorem dX9_learns_79 : decode cX9_learns 79 = .ok (.if_icmp .ge 27, 3) := by decide +kernel
theorem dX9_learns_82 : decode cX9_learns 82 = .ok (.aload_n 0, 1) := by decide +kernel
theorem dX9_learns_83 : decode cX9_learns 83 = .ok (.getfield 7, 3) := by decide +kernel
theorem dX9_learns_86 : decode cX9_learns 86 = .ok (.sipush 260, 3) := by decide +kernel
theorem dX9_learns_89 : decode cX9_learns 89 = .ok (.bipush 96, 2) := by decide +kernel
theorem dX9_learns_91 : decode cX9_learns 91 = .ok (.iload 5, 2) := by decide +kernel
theorem dX9_learns_93 : decode cX9_learns 93 = .ok (.imul, 1) := by decide +kernel
theorem dX9_learns_94 : decode cX9_learns 94 = .ok (.iadd, 1) := by decide +kernel
theorem dX9_learns_95 : decode cX9_learns 95 = .ok (.iload 6, 2) := by decide +kernel
theorem dX9_learns_97 : decode cX9_learns 97 = .ok (.iadd, 1) := by decide +kernel
theorem dX9_learns_98 : decode cX9_learns 98 = .ok (.iconst 0, 1) := by decide +kernel
theorem dX9_learns_99 : decode cX9_learns 99 = .ok (.iastore, 1) := by decide +kernel
theorem dX9_learns_100 : decode cX9_learns 100 = .ok (.iinc 6 1, 3) := by decide +kernel
theorem dX9_learns_103 : decode cX9_learns 103 = .ok (.goto (-28), 3) := by decide +kernel
theorem dX9_learns_106 : decode cX9_learns 106 = .ok (.aload_n 0, 1) := by decide +kernel
theorem dX9_learns_107 : decode cX9_learns 107 = .ok (.getfield 7, 3) := by decide +kernel
theorem dX9_learns_110 : decode cX9_learns 110 = .ok (.iconst 4, 1) := by decide +kernel
theorem dX9_learns_111 : decode cX9_learns 111 = .ok (.dup2, 1) := by decide +kernel
theorem dX9_learns_112 : decode cX9_learns 112 = .ok (.iaload, 1) := by decide +kernel
theorem dX9_learns_113 : decode cX9_learns 113 = .ok (.iconst 1, 1) := by decide +kernel
theorem dX9_learns_114 : decode cX9_learns 114 = .ok (.iadd, 1) := by decide +kernel
theorem dX9_learns_115 : decode cX9_learns 115 = .ok (.iastore, 1) := by decide +kernel
theorem dX9_learns_116 : decode cX9_learns 116 = .ok (.iload 5, 2) := by decide +kernel
theorem dX9_learns_118 : decode cX9_learns 118 = .ok (.ifCond .lt 10, 3) := by decide +kernel
theorem dX9_learns_121 : decode cX9_learns 121 = .ok (.aload_n 0, 1) := by decide +kernel
theorem dX9_learns_122 : decode cX9_learns 122 = .ok (.iload 5, 2) := by decide +kernel
theorem dX9_learns_124 : decode cX9_learns 124 = .ok (.iload_n 3, 1) := by decide +kernel
theorem dX9_learns_125 : decode cX9_learns 125 = .ok (.invokevirtual 60, 3) := by decide +kernel
theorem dX9_learns_128 : decode cX9_learns 128 = .ok (.iinc 4 1, 3) := by decide +kernel
theorem dX9_learns_131 : decode cX9_learns 131 = .ok (.goto (-128), 3) := by decide +kernel
theorem dX9_learns_134 : decode cX9_learns 134 = .ok (.return_, 1) := by decide +kernel
theorem dX9_starts_0 : decode cX9_starts 0 = .ok (.aload_n 0, 1) := by decide +kernel
theorem dX9_starts_1 : decode cX9_starts 1 = .ok (.lconst 0, 1) := by decide +kernel
theorem dX9_starts_2 : decode cX9_starts 2 = .ok (.putfield 64, 3) := by decide +kernel
theorem dX9_starts_5 : decode cX9_starts 5 = .ok (.aload_n 0, 1) := by decide +kernel
theorem dX9_starts_6 : decode cX9_starts 6 = .ok (.ldc2_w 68, 3) := by decide +kernel
theorem dX9_starts_9 : decode cX9_starts 9 = .ok (.putfield 70, 3) := by decide +kernel
theorem dX9_starts_12 : decode cX9_starts 12 = .ok (.aload_n 0, 1) := by decide +kernel
theorem dX9_starts_13 : decode cX9_starts 13 = .ok (.iconst 0, 1) := by decide +kernel
theorem dX9_starts_14 : decode cX9_starts 14 = .ok (.putfield 73, 3) := by decide +kernel
theorem dX9_starts_17 : decode cX9_starts 17 = .ok (.aload_n 0, 1) := by decide +kernel
theorem dX9_starts_18 : decode cX9_starts 18 = .ok (.iconst 0, 1) := by decide +kernel
theorem dX9_starts_19 : decode cX9_starts 19 = .ok (.putfield 76, 3) := by decide +kernel
theorem dX9_starts_22 : decode cX9_starts 22 = .ok (.return_, 1) := by decide +kernel
theorem dX9_carries_0 : decode cX9_carries 0 = .ok (.iconst 1, 1) := by decide +kernel
theorem dX9_carries_1 : decode cX9_carries 1 = .ok (.istore_n 1, 1) := by decide +kernel
theorem dX9_carries_2 : decode cX9_carries 2 = .ok (.aload_n 0, 1) := by decide +kernel
theorem dX9_carries_3 : decode cX9_carries 3 = .ok (.getfield 73, 3) := by decide +kernel
theorem dX9_carries_6 : decode cX9_carries 6 = .ok (.iconst 1, 1) := by decide +kernel
theorem dX9_carries_7 : decode cX9_carries 7 = .ok (.isub, 1) := by decide +kernel
theorem dX9_carries_8 : decode cX9_carries 8 = .ok (.istore_n 2, 1) := by decide +kernel
theorem dX9_carries_9 : decode cX9_carries 9 = .ok (.aload_n 0, 1) := by decide +kernel
theorem dX9_carries_10 : decode cX9_carries 10 = .ok (.getfield 23, 3) := by decide +kernel
theorem dX9_carries_13 : decode cX9_carries 13 = .ok (.iload_n 2, 1) := by decide +kernel
theorem dX9_carries_14 : decode cX9_carries 14 = .ok (.iaload, 1) := by decide +kernel
theorem dX9_carries_15 : decode cX9_carries 15 = .ok (.sipush 255, 3) := by decide +kernel
theorem dX9_carries_18 : decode cX9_carries 18 = .ok (.if_icmp .ne 19, 3) := by decide +kernel
theorem dX9_carries_21 : decode cX9_carries 21 = .ok (.aload_n 0, 1) := by decide +kernel
theorem dX9_carries_22 : decode cX9_carries 22 = .ok (.getfield 23, 3) := by decide +kernel
theorem dX9_carries_25 : decode cX9_carries 25 = .ok (.iload_n 2, 1) := by decide +kernel
theorem dX9_carries_26 : decode cX9_carries 26 = .ok (.iconst 0, 1) := by decide +kernel
theorem dX9_carries_27 : decode cX9_carries 27 = .ok (.iastore, 1) := by decide +kernel
theorem dX9_carries_28 : decode cX9_carries 28 = .ok (.iinc 2 (-1), 3) := by decide +kernel
theorem dX9_carries_31 : decode cX9_carries 31 = .ok (.iinc 1 1, 3) := by decide +kernel
theorem dX9_carries_34 : decode cX9_carries 34 = .ok (.goto (-25), 3) := by decide +kernel
theorem dX9_carries_37 : decode cX9_carries 37 = .ok (.aload_n 0, 1) := by decide +kernel
theorem dX9_carries_38 : decode cX9_carries 38 = .ok (.getfield 23, 3) := by decide +kernel
theorem dX9_carries_41 : decode cX9_carries 41 = .ok (.iload_n 2, 1) := by decide +kernel
theorem dX9_carries_42 : decode cX9_carries 42 = .ok (.dup2, 1) := by decide +kernel
theorem dX9_carries_43 : decode cX9_carries 43 = .ok (.iaload, 1) := by decide +kernel
theorem dX9_carries_44 : decode cX9_carries 44 = .ok (.iconst 1, 1) := by decide +kernel
theorem dX9_carries_45 : decode cX9_carries 45 = .ok (.iadd, 1) := by decide +kernel
theorem dX9_carries_46 : decode cX9_carries 46 = .ok (.iastore, 1) := by decide +kernel
theorem dX9_carries_47 : decode cX9_carries 47 = .ok (.aload_n 0, 1) := by decide +kernel
theorem dX9_carries_48 : decode cX9_carries 48 = .ok (.iload_n 1, 1) := by decide +kernel
theorem dX9_carries_49 : decode cX9_carries 49 = .ok (.aload_n 0, 1) := by decide +kernel
theorem dX9_carries_50 : decode cX9_carries 50 = .ok (.getfield 76, 3) := by decide +kernel
theorem dX9_carries_53 : decode cX9_carries 53 = .ok (.if_icmp .le 7, 3) := by decide +kernel
theorem dX9_carries_56 : decode cX9_carries 56 = .ok (.iload_n 1, 1) := by decide +kernel
theorem dX9_carries_57 : decode cX9_carries 57 = .ok (.goto 7, 3) := by decide +kernel
theorem dX9_carries_60 : decode cX9_carries 60 = .ok (.aload_n 0, 1) := by decide +kernel
theorem dX9_carries_61 : decode cX9_carries 61 = .ok (.getfield 76, 3) := by decide +kernel
theorem dX9_carries_64 : decode cX9_carries 64 = .ok (.putfield 76, 3) := by decide +kernel
theorem dX9_carries_67 : decode cX9_carries 67 = .ok (.return_, 1) := by decide +kernel
theorem dX9_writes_0 : decode cX9_writes 0 = .ok (.aload_n 0, 1) := by decide +kernel
theorem dX9_writes_1 : decode cX9_writes 1 = .ok (.getfield 70, 3) := by decide +kernel
theorem dX9_writes_4 : decode cX9_writes 4 = .ok (.lload 5, 2) := by decide +kernel
theorem dX9_writes_6 : decode cX9_writes 6 = .ok (.ldiv, 1) := by decide +kernel
theorem dX9_writes_7 : decode cX9_writes 7 = .ok (.lstore 7, 2) := by decide +kernel
theorem dX9_writes_9 : decode cX9_writes 9 = .ok (.aload_n 0, 1) := by decide +kernel
theorem dX9_writes_10 : decode cX9_writes 10 = .ok (.dup, 1) := by decide +kernel
theorem dX9_writes_11 : decode cX9_writes 11 = .ok (.getfield 64, 3) := by decide +kernel
theorem dX9_writes_14 : decode cX9_writes 14 = .ok (.lload 7, 2) := by decide +kernel
theorem dX9_writes_16 : decode cX9_writes 16 = .ok (.lload_n 1, 1) := by decide +kernel
theorem dX9_writes_17 : decode cX9_writes 17 = .ok (.lmul, 1) := by decide +kernel
theorem dX9_writes_18 : decode cX9_writes 18 = .ok (.ladd, 1) := by decide +kernel
theorem dX9_writes_19 : decode cX9_writes 19 = .ok (.putfield 64, 3) := by decide +kernel
theorem dX9_writes_22 : decode cX9_writes 22 = .ok (.aload_n 0, 1) := by decide +kernel
theorem dX9_writes_23 : decode cX9_writes 23 = .ok (.lload_n 3, 1) := by decide +kernel
theorem dX9_writes_24 : decode cX9_writes 24 = .ok (.lload 5, 2) := by decide +kernel
theorem dX9_writes_26 : decode cX9_writes 26 = .ok (.lcmp, 1) := by decide +kernel
theorem dX9_writes_27 : decode cX9_writes 27 = .ok (.ifCond .ge 12, 3) := by decide +kernel
theorem dX9_writes_30 : decode cX9_writes 30 = .ok (.lload 7, 2) := by decide +kernel
theorem dX9_writes_32 : decode cX9_writes 32 = .ok (.lload_n 3, 1) := by decide +kernel
theorem dX9_writes_33 : decode cX9_writes 33 = .ok (.lload_n 1, 1) := by decide +kernel
theorem dX9_writes_34 : decode cX9_writes 34 = .ok (.lsub, 1) := by decide +kernel
theorem dX9_writes_35 : decode cX9_writes 35 = .ok (.lmul, 1) := by decide +kernel
theorem dX9_writes_36 : decode cX9_writes 36 = .ok (.goto 12, 3) := by decide +kernel
theorem dX9_writes_39 : decode cX9_writes 39 = .ok (.aload_n 0, 1) := by decide +kernel
theorem dX9_writes_40 : decode cX9_writes 40 = .ok (.getfield 70, 3) := by decide +kernel
theorem dX9_writes_43 : decode cX9_writes 43 = .ok (.lload 7, 2) := by decide +kernel
theorem dX9_writes_45 : decode cX9_writes 45 = .ok (.lload_n 1, 1) := by decide +kernel
theorem dX9_writes_46 : decode cX9_writes 46 = .ok (.lmul, 1) := by decide +kernel
theorem dX9_writes_47 : decode cX9_writes 47 = .ok (.lsub, 1) := by decide +kernel
theorem dX9_writes_48 : decode cX9_writes 48 = .ok (.putfield 70, 3) := by decide +kernel
theorem dX9_writes_51 : decode cX9_writes 51 = .ok (.aload_n 0, 1) := by decide +kernel
theorem dX9_writes_52 : decode cX9_writes 52 = .ok (.getfield 64, 3) := by decide +kernel
theorem dX9_writes_55 : decode cX9_writes 55 = .ok (.ldc2_w 68, 3) := by decide +kernel
theorem dX9_writes_58 : decode cX9_writes 58 = .ok (.lcmp, 1) := by decide +kernel
theorem dX9_writes_59 : decode cX9_writes 59 = .ok (.ifCond .lt 19, 3) := by decide +kernel
theorem dX9_writes_62 : decode cX9_writes 62 = .ok (.aload_n 0, 1) := by decide +kernel
theorem dX9_writes_63 : decode cX9_writes 63 = .ok (.dup, 1) := by decide +kernel
theorem dX9_writes_64 : decode cX9_writes 64 = .ok (.getfield 64, 3) := by decide +kernel
theorem dX9_writes_67 : decode cX9_writes 67 = .ok (.ldc2_w 68, 3) := by decide +kernel
theorem dX9_writes_70 : decode cX9_writes 70 = .ok (.lsub, 1) := by decide +kernel
theorem dX9_writes_71 : decode cX9_writes 71 = .ok (.putfield 64, 3) := by decide +kernel
theorem dX9_writes_74 : decode cX9_writes 74 = .ok (.aload_n 0, 1) := by decide +kernel
theorem dX9_writes_75 : decode cX9_writes 75 = .ok (.invokevirtual 79, 3) := by decide +kernel
theorem dX9_writes_78 : decode cX9_writes 78 = .ok (.aload_n 0, 1) := by decide +kernel
theorem dX9_writes_79 : decode cX9_writes 79 = .ok (.getfield 70, 3) := by decide +kernel
theorem dX9_writes_82 : decode cX9_writes 82 = .ok (.ldc2_w 82, 3) := by decide +kernel
theorem dX9_writes_85 : decode cX9_writes 85 = .ok (.lcmp, 1) := by decide +kernel
theorem dX9_writes_86 : decode cX9_writes 86 = .ok (.ifCond .gt 62, 3) := by decide +kernel
theorem dX9_writes_89 : decode cX9_writes 89 = .ok (.aload_n 0, 1) := by decide +kernel
theorem dX9_writes_90 : decode cX9_writes 90 = .ok (.getfield 23, 3) := by decide +kernel
theorem dX9_writes_93 : decode cX9_writes 93 = .ok (.aload_n 0, 1) := by decide +kernel
theorem dX9_writes_94 : decode cX9_writes 94 = .ok (.getfield 73, 3) := by decide +kernel
theorem dX9_writes_97 : decode cX9_writes 97 = .ok (.aload_n 0, 1) := by decide +kernel
theorem dX9_writes_98 : decode cX9_writes 98 = .ok (.getfield 64, 3) := by decide +kernel
theorem dX9_writes_101 : decode cX9_writes 101 = .ok (.ldc2_w 82, 3) := by decide +kernel
theorem dX9_writes_104 : decode cX9_writes 104 = .ok (.ldiv, 1) := by decide +kernel
theorem dX9_writes_105 : decode cX9_writes 105 = .ok (.l2i, 1) := by decide +kernel
theorem dX9_writes_106 : decode cX9_writes 106 = .ok (.iastore, 1) := by decide +kernel
theorem dX9_writes_107 : decode cX9_writes 107 = .ok (.aload_n 0, 1) := by decide +kernel
theorem dX9_writes_108 : decode cX9_writes 108 = .ok (.dup, 1) := by decide +kernel
theorem dX9_writes_109 : decode cX9_writes 109 = .ok (.getfield 73, 3) := by decide +kernel
theorem dX9_writes_112 : decode cX9_writes 112 = .ok (.iconst 1, 1) := by decide +kernel
theorem dX9_writes_113 : decode cX9_writes 113 = .ok (.iadd, 1) := by decide +kernel
theorem dX9_writes_114 : decode cX9_writes 114 = .ok (.putfield 73, 3) := by decide +kernel
theorem dX9_writes_117 : decode cX9_writes 117 = .ok (.aload_n 0, 1) := by decide +kernel
theorem dX9_writes_118 : decode cX9_writes 118 = .ok (.aload_n 0, 1) := by decide +kernel
theorem dX9_writes_119 : decode cX9_writes 119 = .ok (.getfield 64, 3) := by decide +kernel
theorem dX9_writes_122 : decode cX9_writes 122 = .ok (.ldc2_w 82, 3) := by decide +kernel
theorem dX9_writes_125 : decode cX9_writes 125 = .ok (.lrem, 1) := by decide +kernel
theorem dX9_writes_126 : decode cX9_writes 126 = .ok (.ldc2_w 84, 3) := by decide +kernel
theorem dX9_writes_129 : decode cX9_writes 129 = .ok (.lmul, 1) := by decide +kernel
theorem dX9_writes_130 : decode cX9_writes 130 = .ok (.putfield 64, 3) := by decide +kernel
theorem dX9_writes_133 : decode cX9_writes 133 = .ok (.aload_n 0, 1) := by decide +kernel
theorem dX9_writes_134 : decode cX9_writes 134 = .ok (.dup, 1) := by decide +kernel
theorem dX9_writes_135 : decode cX9_writes 135 = .ok (.getfield 70, 3) := by decide +kernel
theorem dX9_writes_138 : decode cX9_writes 138 = .ok (.ldc2_w 84, 3) := by decide +kernel
theorem dX9_writes_141 : decode cX9_writes 141 = .ok (.lmul, 1) := by decide +kernel
theorem dX9_writes_142 : decode cX9_writes 142 = .ok (.putfield 70, 3) := by decide +kernel
theorem dX9_writes_145 : decode cX9_writes 145 = .ok (.goto (-67), 3) := by decide +kernel
theorem dX9_writes_148 : decode cX9_writes 148 = .ok (.return_, 1) := by decide +kernel
theorem dX9_finishes_0 : decode cX9_finishes 0 = .ok (.ldc2_w 68, 3) := by decide +kernel
theorem dX9_finishes_3 : decode cX9_finishes 3 = .ok (.lstore_n 1, 1) := by decide +kernel
theorem dX9_finishes_4 : decode cX9_finishes 4 = .ok (.iconst 4, 1) := by decide +kernel
theorem dX9_finishes_5 : decode cX9_finishes 5 = .ok (.istore_n 3, 1) := by decide +kernel
theorem dX9_finishes_6 : decode cX9_finishes 6 = .ok (.aload_n 0, 1) := by decide +kernel
theorem dX9_finishes_7 : decode cX9_finishes 7 = .ok (.getfield 64, 3) := by decide +kernel
theorem dX9_finishes_10 : decode cX9_finishes 10 = .ok (.lload_n 1, 1) := by decide +kernel
theorem dX9_finishes_11 : decode cX9_finishes 11 = .ok (.ladd, 1) := by decide +kernel
theorem dX9_finishes_12 : decode cX9_finishes 12 = .ok (.lconst 1, 1) := by decide +kernel
theorem dX9_finishes_13 : decode cX9_finishes 13 = .ok (.lsub, 1) := by decide +kernel
theorem dX9_finishes_14 : decode cX9_finishes 14 = .ok (.lload_n 1, 1) := by decide +kernel
theorem dX9_finishes_15 : decode cX9_finishes 15 = .ok (.ldiv, 1) := by decide +kernel
theorem dX9_finishes_16 : decode cX9_finishes 16 = .ok (.lload_n 1, 1) := by decide +kernel
theorem dX9_finishes_17 : decode cX9_finishes 17 = .ok (.lmul, 1) := by decide +kernel
theorem dX9_finishes_18 : decode cX9_finishes 18 = .ok (.lstore 4, 2) := by decide +kernel
theorem dX9_finishes_20 : decode cX9_finishes 20 = .ok (.lload 4, 2) := by decide +kernel
theorem dX9_finishes_22 : decode cX9_finishes 22 = .ok (.aload_n 0, 1) := by decide +kernel
theorem dX9_finishes_23 : decode cX9_finishes 23 = .ok (.getfield 64, 3) := by decide +kernel
theorem dX9_finishes_26 : decode cX9_finishes 26 = .ok (.aload_n 0, 1) := by decide +kernel
theorem dX9_finishes_27 : decode cX9_finishes 27 = .ok (.getfield 70, 3) := by decide +kernel
theorem dX9_finishes_30 : decode cX9_finishes 30 = .ok (.ladd, 1) := by decide +kernel
theorem dX9_finishes_31 : decode cX9_finishes 31 = .ok (.lcmp, 1) := by decide +kernel
theorem dX9_finishes_32 : decode cX9_finishes 32 = .ok (.ifCond .lt 29, 3) := by decide +kernel
theorem dX9_finishes_35 : decode cX9_finishes 35 = .ok (.lload_n 1, 1) := by decide +kernel
theorem dX9_finishes_36 : decode cX9_finishes 36 = .ok (.ldc2_w 84, 3) := by decide +kernel
theorem dX9_finishes_39 : decode cX9_finishes 39 = .ok (.ldiv, 1) := by decide +kernel
theorem dX9_finishes_40 : decode cX9_finishes 40 = .ok (.lstore_n 1, 1) := by decide +kernel
theorem dX9_finishes_41 : decode cX9_finishes 41 = .ok (.iinc 3 (-1), 3) := by decide +kernel
theorem dX9_finishes_44 : decode cX9_finishes 44 = .ok (.aload_n 0, 1) := by decide +kernel
theorem dX9_finishes_45 : decode cX9_finishes 45 = .ok (.getfield 64, 3) := by decide +kernel
theorem dX9_finishes_48 : decode cX9_finishes 48 = .ok (.lload_n 1, 1) := by decide +kernel
theorem dX9_finishes_49 : decode cX9_finishes 49 = .ok (.ladd, 1) := by decide +kernel
theorem dX9_finishes_50 : decode cX9_finishes 50 = .ok (.lconst 1, 1) := by decide +kernel
theorem dX9_finishes_51 : decode cX9_finishes 51 = .ok (.lsub, 1) := by decide +kernel
theorem dX9_finishes_52 : decode cX9_finishes 52 = .ok (.lload_n 1, 1) := by decide +kernel
theorem dX9_finishes_53 : decode cX9_finishes 53 = .ok (.ldiv, 1) := by decide +kernel
theorem dX9_finishes_54 : decode cX9_finishes 54 = .ok (.lload_n 1, 1) := by decide +kernel
theorem dX9_finishes_55 : decode cX9_finishes 55 = .ok (.lmul, 1) := by decide +kernel
theorem dX9_finishes_56 : decode cX9_finishes 56 = .ok (.lstore 4, 2) := by decide +kernel
theorem dX9_finishes_58 : decode cX9_finishes 58 = .ok (.goto (-38), 3) := by decide +kernel
theorem dX9_finishes_61 : decode cX9_finishes 61 = .ok (.lload 4, 2) := by decide +kernel
theorem dX9_finishes_63 : decode cX9_finishes 63 = .ok (.ldc2_w 68, 3) := by decide +kernel
theorem dX9_finishes_66 : decode cX9_finishes 66 = .ok (.lcmp, 1) := by decide +kernel
theorem dX9_finishes_67 : decode cX9_finishes 67 = .ok (.ifCond .ne 10, 3) := by decide +kernel
theorem dX9_finishes_70 : decode cX9_finishes 70 = .ok (.aload_n 0, 1) := by decide +kernel
theorem dX9_finishes_71 : decode cX9_finishes 71 = .ok (.invokevirtual 79, 3) := by decide +kernel
theorem dX9_finishes_74 : decode cX9_finishes 74 = .ok (.lconst 0, 1) := by decide +kernel
theorem dX9_finishes_75 : decode cX9_finishes 75 = .ok (.lstore 4, 2) := by decide +kernel
theorem dX9_finishes_77 : decode cX9_finishes 77 = .ok (.iconst 0, 1) := by decide +kernel
theorem dX9_finishes_78 : decode cX9_finishes 78 = .ok (.istore 6, 2) := by decide +kernel
theorem dX9_finishes_80 : decode cX9_finishes 80 = .ok (.iload 6, 2) := by decide +kernel
theorem dX9_finishes_82 : decode cX9_finishes 82 = .ok (.iconst 4, 1) := by decide +kernel
theorem dX9_finishes_83 : decode cX9_finishes 83 = .ok (.iload_n 3, 1) := by decide +kernel
theorem dX9_finishes_84 : decode cX9_finishes 84 = .ok (.isub, 1) := by decide +kernel
theorem dX9_finishes_85 : decode cX9_finishes 85 = .ok (.if_icmp .ge 44, 3) := by decide +kernel
theorem dX9_finishes_88 : decode cX9_finishes 88 = .ok (.aload_n 0, 1) := by decide +kernel
theorem dX9_finishes_89 : decode cX9_finishes 89 = .ok (.getfield 23, 3) := by decide +kernel
theorem dX9_finishes_92 : decode cX9_finishes 92 = .ok (.aload_n 0, 1) := by decide +kernel
theorem dX9_finishes_93 : decode cX9_finishes 93 = .ok (.getfield 73, 3) := by decide +kernel
theorem dX9_finishes_96 : decode cX9_finishes 96 = .ok (.lload 4, 2) := by decide +kernel
theorem dX9_finishes_98 : decode cX9_finishes 98 = .ok (.bipush 24, 2) := by decide +kernel
theorem dX9_finishes_100 : decode cX9_finishes 100 = .ok (.bipush 8, 2) := by decide +kernel
theorem dX9_finishes_102 : decode cX9_finishes 102 = .ok (.iload 6, 2) := by decide +kernel
theorem dX9_finishes_104 : decode cX9_finishes 104 = .ok (.imul, 1) := by decide +kernel
theorem dX9_finishes_105 : decode cX9_finishes 105 = .ok (.isub, 1) := by decide +kernel
theorem dX9_finishes_106 : decode cX9_finishes 106 = .ok (.lshr, 1) := by decide +kernel
theorem dX9_finishes_107 : decode cX9_finishes 107 = .ok (.ldc2_w 86, 3) := by decide +kernel
theorem dX9_finishes_110 : decode cX9_finishes 110 = .ok (.land, 1) := by decide +kernel
theorem dX9_finishes_111 : decode cX9_finishes 111 = .ok (.l2i, 1) := by decide +kernel
theorem dX9_finishes_112 : decode cX9_finishes 112 = .ok (.iastore, 1) := by decide +kernel
theorem dX9_finishes_113 : decode cX9_finishes 113 = .ok (.aload_n 0, 1) := by decide +kernel
theorem dX9_finishes_114 : decode cX9_finishes 114 = .ok (.dup, 1) := by decide +kernel
theorem dX9_finishes_115 : decode cX9_finishes 115 = .ok (.getfield 73, 3) := by decide +kernel
theorem dX9_finishes_118 : decode cX9_finishes 118 = .ok (.iconst 1, 1) := by decide +kernel
theorem dX9_finishes_119 : decode cX9_finishes 119 = .ok (.iadd, 1) := by decide +kernel
theorem dX9_finishes_120 : decode cX9_finishes 120 = .ok (.putfield 73, 3) := by decide +kernel
theorem dX9_finishes_123 : decode cX9_finishes 123 = .ok (.iinc 6 1, 3) := by decide +kernel
theorem dX9_finishes_126 : decode cX9_finishes 126 = .ok (.goto (-46), 3) := by decide +kernel
theorem dX9_finishes_129 : decode cX9_finishes 129 = .ok (.aload_n 0, 1) := by decide +kernel
theorem dX9_finishes_130 : decode cX9_finishes 130 = .ok (.getfield 73, 3) := by decide +kernel
theorem dX9_finishes_133 : decode cX9_finishes 133 = .ok (.ifCond .le 30, 3) := by decide +kernel
theorem dX9_finishes_136 : decode cX9_finishes 136 = .ok (.aload_n 0, 1) := by decide +kernel
theorem dX9_finishes_137 : decode cX9_finishes 137 = .ok (.getfield 23, 3) := by decide +kernel
theorem dX9_finishes_140 : decode cX9_finishes 140 = .ok (.aload_n 0, 1) := by decide +kernel
theorem dX9_finishes_141 : decode cX9_finishes 141 = .ok (.getfield 73, 3) := by decide +kernel
theorem dX9_finishes_144 : decode cX9_finishes 144 = .ok (.iconst 1, 1) := by decide +kernel
theorem dX9_finishes_145 : decode cX9_finishes 145 = .ok (.isub, 1) := by decide +kernel
theorem dX9_finishes_146 : decode cX9_finishes 146 = .ok (.iaload, 1) := by decide +kernel
theorem dX9_finishes_147 : decode cX9_finishes 147 = .ok (.ifCond .ne 16, 3) := by decide +kernel
theorem dX9_finishes_150 : decode cX9_finishes 150 = .ok (.aload_n 0, 1) := by decide +kernel
theorem dX9_finishes_151 : decode cX9_finishes 151 = .ok (.dup, 1) := by decide +kernel
theorem dX9_finishes_152 : decode cX9_finishes 152 = .ok (.getfield 73, 3) := by decide +kernel
theorem dX9_finishes_155 : decode cX9_finishes 155 = .ok (.iconst 1, 1) := by decide +kernel
theorem dX9_finishes_156 : decode cX9_finishes 156 = .ok (.isub, 1) := by decide +kernel
theorem dX9_finishes_157 : decode cX9_finishes 157 = .ok (.putfield 73, 3) := by decide +kernel
theorem dX9_finishes_160 : decode cX9_finishes 160 = .ok (.goto (-31), 3) := by decide +kernel
theorem dX9_finishes_163 : decode cX9_finishes 163 = .ok (.return_, 1) := by decide +kernel
theorem dX9_log_0 : decode cX9_log 0 = .ok (.iconst 0, 1) := by decide +kernel
theorem dX9_log_1 : decode cX9_log 1 = .ok (.istore_n 1, 1) := by decide +kernel
theorem dX9_log_2 : decode cX9_log 2 = .ok (.iload_n 0, 1) := by decide +kernel
theorem dX9_log_3 : decode cX9_log 3 = .ok (.iload_n 1, 1) := by decide +kernel
theorem dX9_log_4 : decode cX9_log 4 = .ok (.iconst 1, 1) := by decide +kernel
theorem dX9_log_5 : decode cX9_log 5 = .ok (.iadd, 1) := by decide +kernel
theorem dX9_log_6 : decode cX9_log 6 = .ok (.ishr, 1) := by decide +kernel
theorem dX9_log_7 : decode cX9_log 7 = .ok (.ifCond .le 9, 3) := by decide +kernel
theorem dX9_log_10 : decode cX9_log 10 = .ok (.iinc 1 1, 3) := by decide +kernel
theorem dX9_log_13 : decode cX9_log 13 = .ok (.goto (-11), 3) := by decide +kernel
theorem dX9_log_16 : decode cX9_log 16 = .ok (.iload_n 0, 1) := by decide +kernel
theorem dX9_log_17 : decode cX9_log 17 = .ok (.i2l, 1) := by decide +kernel
theorem dX9_log_18 : decode cX9_log 18 = .ok (.bipush 30, 2) := by decide +kernel
theorem dX9_log_20 : decode cX9_log 20 = .ok (.iload_n 1, 1) := by decide +kernel
theorem dX9_log_21 : decode cX9_log 21 = .ok (.isub, 1) := by decide +kernel
theorem dX9_log_22 : decode cX9_log 22 = .ok (.lshl, 1) := by decide +kernel
theorem dX9_log_23 : decode cX9_log 23 = .ok (.lstore_n 2, 1) := by decide +kernel
theorem dX9_log_24 : decode cX9_log 24 = .ok (.ldc 88, 2) := by decide +kernel
theorem dX9_log_26 : decode cX9_log 26 = .ok (.iload_n 1, 1) := by decide +kernel
theorem dX9_log_27 : decode cX9_log 27 = .ok (.imul, 1) := by decide +kernel
theorem dX9_log_28 : decode cX9_log 28 = .ok (.istore 4, 2) := by decide +kernel
theorem dX9_log_30 : decode cX9_log 30 = .ok (.bipush 15, 2) := by decide +kernel
theorem dX9_log_32 : decode cX9_log 32 = .ok (.istore 5, 2) := by decide +kernel
theorem dX9_log_34 : decode cX9_log 34 = .ok (.iload 5, 2) := by decide +kernel
theorem dX9_log_36 : decode cX9_log 36 = .ok (.ifCond .lt 39, 3) := by decide +kernel
theorem dX9_log_39 : decode cX9_log 39 = .ok (.lload_n 2, 1) := by decide +kernel
theorem dX9_log_40 : decode cX9_log 40 = .ok (.lload_n 2, 1) := by decide +kernel
theorem dX9_log_41 : decode cX9_log 41 = .ok (.lmul, 1) := by decide +kernel
theorem dX9_log_42 : decode cX9_log 42 = .ok (.bipush 30, 2) := by decide +kernel
theorem dX9_log_44 : decode cX9_log 44 = .ok (.lshr, 1) := by decide +kernel
theorem dX9_log_45 : decode cX9_log 45 = .ok (.lstore_n 2, 1) := by decide +kernel
theorem dX9_log_46 : decode cX9_log 46 = .ok (.lload_n 2, 1) := by decide +kernel
theorem dX9_log_47 : decode cX9_log 47 = .ok (.ldc2_w 89, 3) := by decide +kernel
theorem dX9_log_50 : decode cX9_log 50 = .ok (.lcmp, 1) := by decide +kernel
theorem dX9_log_51 : decode cX9_log 51 = .ok (.ifCond .lt 18, 3) := by decide +kernel
theorem dX9_log_54 : decode cX9_log 54 = .ok (.lload_n 2, 1) := by decide +kernel
theorem dX9_log_55 : decode cX9_log 55 = .ok (.ldc2_w 91, 3) := by decide +kernel
theorem dX9_log_58 : decode cX9_log 58 = .ok (.ldiv, 1) := by decide +kernel
theorem dX9_log_59 : decode cX9_log 59 = .ok (.lstore_n 2, 1) := by decide +kernel
theorem dX9_log_60 : decode cX9_log 60 = .ok (.iload 4, 2) := by decide +kernel
theorem dX9_log_62 : decode cX9_log 62 = .ok (.iconst 1, 1) := by decide +kernel
theorem dX9_log_63 : decode cX9_log 63 = .ok (.iload 5, 2) := by decide +kernel
theorem dX9_log_65 : decode cX9_log 65 = .ok (.ishl, 1) := by decide +kernel
theorem dX9_log_66 : decode cX9_log 66 = .ok (.iadd, 1) := by decide +kernel
theorem dX9_log_67 : decode cX9_log 67 = .ok (.istore 4, 2) := by decide +kernel
theorem dX9_log_69 : decode cX9_log 69 = .ok (.iinc 5 (-1), 3) := by decide +kernel
theorem dX9_log_72 : decode cX9_log 72 = .ok (.goto (-38), 3) := by decide +kernel
theorem dX9_log_75 : decode cX9_log 75 = .ok (.iload 4, 2) := by decide +kernel
theorem dX9_log_77 : decode cX9_log 77 = .ok (.ireturn, 1) := by decide +kernel
theorem dX9_interval_0 : decode cX9_interval 0 = .ok (.aload_n 0, 1) := by decide +kernel
theorem dX9_interval_1 : decode cX9_interval 1 = .ok (.dup, 1) := by decide +kernel
theorem dX9_interval_2 : decode cX9_interval 2 = .ok (.getfield 93, 3) := by decide +kernel
theorem dX9_interval_5 : decode cX9_interval 5 = .ok (.iload_n 3, 1) := by decide +kernel
theorem dX9_interval_6 : decode cX9_interval 6 = .ok (.invokestatic 96, 3) := by decide +kernel
theorem dX9_interval_9 : decode cX9_interval 9 = .ok (.iload_n 2, 1) := by decide +kernel
theorem dX9_interval_10 : decode cX9_interval 10 = .ok (.iload_n 1, 1) := by decide +kernel
theorem dX9_interval_11 : decode cX9_interval 11 = .ok (.isub, 1) := by decide +kernel
theorem dX9_interval_12 : decode cX9_interval 12 = .ok (.invokestatic 96, 3) := by decide +kernel
theorem dX9_interval_15 : decode cX9_interval 15 = .ok (.isub, 1) := by decide +kernel
theorem dX9_interval_16 : decode cX9_interval 16 = .ok (.iadd, 1) := by decide +kernel
theorem dX9_interval_17 : decode cX9_interval 17 = .ok (.putfield 93, 3) := by decide +kernel
theorem dX9_interval_20 : decode cX9_interval 20 = .ok (.aload_n 0, 1) := by decide +kernel
theorem dX9_interval_21 : decode cX9_interval 21 = .ok (.getfield 99, 3) := by decide +kernel
theorem dX9_interval_24 : decode cX9_interval 24 = .ok (.ifCond .eq 13, 3) := by decide +kernel
theorem dX9_interval_27 : decode cX9_interval 27 = .ok (.aload_n 0, 1) := by decide +kernel
theorem dX9_interval_28 : decode cX9_interval 28 = .ok (.iload_n 1, 1) := by decide +kernel
theorem dX9_interval_29 : decode cX9_interval 29 = .ok (.i2l, 1) := by decide +kernel
theorem dX9_interval_30 : decode cX9_interval 30 = .ok (.iload_n 2, 1) := by decide +kernel
theorem dX9_interval_31 : decode cX9_interval 31 = .ok (.i2l, 1) := by decide +kernel
theorem dX9_interval_32 : decode cX9_interval 32 = .ok (.iload_n 3, 1) := by decide +kernel
theorem dX9_interval_33 : decode cX9_interval 33 = .ok (.i2l, 1) := by decide +kernel
theorem dX9_interval_34 : decode cX9_interval 34 = .ok (.invokevirtual 103, 3) := by decide +kernel
theorem dX9_interval_37 : decode cX9_interval 37 = .ok (.return_, 1) := by decide +kernel
theorem dX9_below_0 : decode cX9_below 0 = .ok (.iconst 0, 1) := by decide +kernel
theorem dX9_below_1 : decode cX9_below 1 = .ok (.istore_n 3, 1) := by decide +kernel
theorem dX9_below_2 : decode cX9_below 2 = .ok (.iconst 0, 1) := by decide +kernel
theorem dX9_below_3 : decode cX9_below 3 = .ok (.istore 4, 2) := by decide +kernel
theorem dX9_below_5 : decode cX9_below 5 = .ok (.iload 4, 2) := by decide +kernel
theorem dX9_below_7 : decode cX9_below 7 = .ok (.iload_n 2, 1) := by decide +kernel
theorem dX9_below_8 : decode cX9_below 8 = .ok (.if_icmp .ge 33, 3) := by decide +kernel
theorem dX9_below_11 : decode cX9_below 11 = .ok (.iload_n 3, 1) := by decide +kernel
theorem dX9_below_12 : decode cX9_below 12 = .ok (.aload_n 0, 1) := by decide +kernel
theorem dX9_below_13 : decode cX9_below 13 = .ok (.getfield 26, 3) := by decide +kernel
theorem dX9_below_16 : decode cX9_below 16 = .ok (.iload 4, 2) := by decide +kernel
theorem dX9_below_18 : decode cX9_below 18 = .ok (.baload, 1) := by decide +kernel
theorem dX9_below_19 : decode cX9_below 19 = .ok (.ifCond .eq 7, 3) := by decide +kernel
theorem dX9_below_22 : decode cX9_below 22 = .ok (.iconst 0, 1) := by decide +kernel
theorem dX9_below_23 : decode cX9_below 23 = .ok (.goto 10, 3) := by decide +kernel
theorem dX9_below_26 : decode cX9_below 26 = .ok (.aload_n 0, 1) := by decide +kernel
theorem dX9_below_27 : decode cX9_below 27 = .ok (.iload_n 1, 1) := by decide +kernel
theorem dX9_below_28 : decode cX9_below 28 = .ok (.iload 4, 2) := by decide +kernel
theorem dX9_below_30 : decode cX9_below 30 = .ok (.invokevirtual 49, 3) := by decide +kernel
theorem dX9_below_33 : decode cX9_below 33 = .ok (.iadd, 1) := by decide +kernel
theorem dX9_below_34 : decode cX9_below 34 = .ok (.istore_n 3, 1) := by decide +kernel
theorem dX9_below_35 : decode cX9_below 35 = .ok (.iinc 4 1, 3) := by decide +kernel
theorem dX9_below_38 : decode cX9_below 38 = .ok (.goto (-33), 3) := by decide +kernel
theorem dX9_below_41 : decode cX9_below 41 = .ok (.iload_n 3, 1) := by decide +kernel
theorem dX9_below_42 : decode cX9_below 42 = .ok (.ireturn, 1) := by decide +kernel
theorem dX9_known_0 : decode cX9_known 0 = .ok (.iconst 0, 1) := by decide +kernel
theorem dX9_known_1 : decode cX9_known 1 = .ok (.istore_n 2, 1) := by decide +kernel
theorem dX9_known_2 : decode cX9_known 2 = .ok (.iconst 0, 1) := by decide +kernel
theorem dX9_known_3 : decode cX9_known 3 = .ok (.istore_n 3, 1) := by decide +kernel
theorem dX9_known_4 : decode cX9_known 4 = .ok (.iload_n 3, 1) := by decide +kernel
theorem dX9_known_5 : decode cX9_known 5 = .ok (.bipush 96, 2) := by decide +kernel
theorem dX9_known_7 : decode cX9_known 7 = .ok (.if_icmp .ge 26, 3) := by decide +kernel
theorem dX9_known_10 : decode cX9_known 10 = .ok (.iload_n 2, 1) := by decide +kernel
theorem dX9_known_11 : decode cX9_known 11 = .ok (.aload_n 0, 1) := by decide +kernel
theorem dX9_known_12 : decode cX9_known 12 = .ok (.iload_n 1, 1) := by decide +kernel
theorem dX9_known_13 : decode cX9_known 13 = .ok (.iload_n 3, 1) := by decide +kernel
theorem dX9_known_14 : decode cX9_known 14 = .ok (.invokevirtual 49, 3) := by decide +kernel
theorem dX9_known_17 : decode cX9_known 17 = .ok (.ifCond .le 7, 3) := by decide +kernel
theorem dX9_known_20 : decode cX9_known 20 = .ok (.iconst 1, 1) := by decide +kernel
theorem dX9_known_21 : decode cX9_known 21 = .ok (.goto 4, 3) := by decide +kernel
theorem dX9_known_24 : decode cX9_known 24 = .ok (.iconst 0, 1) := by decide +kernel
theorem dX9_known_25 : decode cX9_known 25 = .ok (.iadd, 1) := by decide +kernel
theorem dX9_known_26 : decode cX9_known 26 = .ok (.istore_n 2, 1) := by decide +kernel
theorem dX9_known_27 : decode cX9_known 27 = .ok (.iinc 3 1, 3) := by decide +kernel
theorem dX9_known_30 : decode cX9_known 30 = .ok (.goto (-26), 3) := by decide +kernel
theorem dX9_known_33 : decode cX9_known 33 = .ok (.iload_n 2, 1) := by decide +kernel
theorem dX9_known_34 : decode cX9_known 34 = .ok (.ireturn, 1) := by decide +kernel
theorem dX9_excludes_0 : decode cX9_excludes 0 = .ok (.iconst 0, 1) := by decide +kernel
theorem dX9_excludes_1 : decode cX9_excludes 1 = .ok (.istore_n 2, 1) := by decide +kernel
theorem dX9_excludes_2 : decode cX9_excludes 2 = .ok (.iload_n 2, 1) := by decide +kernel
theorem dX9_excludes_3 : decode cX9_excludes 3 = .ok (.bipush 96, 2) := by decide +kernel
theorem dX9_excludes_5 : decode cX9_excludes 5 = .ok (.if_icmp .ge 48, 3) := by decide +kernel
theorem dX9_excludes_8 : decode cX9_excludes 8 = .ok (.aload_n 0, 1) := by decide +kernel
theorem dX9_excludes_9 : decode cX9_excludes 9 = .ok (.getfield 26, 3) := by decide +kernel
theorem dX9_excludes_12 : decode cX9_excludes 12 = .ok (.iload_n 2, 1) := by decide +kernel
theorem dX9_excludes_13 : decode cX9_excludes 13 = .ok (.aload_n 0, 1) := by decide +kernel
theorem dX9_excludes_14 : decode cX9_excludes 14 = .ok (.getfield 26, 3) := by decide +kernel
theorem dX9_excludes_17 : decode cX9_excludes 17 = .ok (.iload_n 2, 1) := by decide +kernel
theorem dX9_excludes_18 : decode cX9_excludes 18 = .ok (.baload, 1) := by decide +kernel
theorem dX9_excludes_19 : decode cX9_excludes 19 = .ok (.ifCond .ne 22, 3) := by decide +kernel
theorem dX9_excludes_22 : decode cX9_excludes 22 = .ok (.aload_n 0, 1) := by decide +kernel
theorem dX9_excludes_23 : decode cX9_excludes 23 = .ok (.getfield 7, 3) := by decide +kernel
theorem dX9_excludes_26 : decode cX9_excludes 26 = .ok (.iconst 1, 1) := by decide +kernel
theorem dX9_excludes_27 : decode cX9_excludes 27 = .ok (.iaload, 1) := by decide +kernel
theorem dX9_excludes_28 : decode cX9_excludes 28 = .ok (.iconst 1, 1) := by decide +kernel
theorem dX9_excludes_29 : decode cX9_excludes 29 = .ok (.if_icmp .ne 16, 3) := by decide +kernel
theorem dX9_excludes_32 : decode cX9_excludes 32 = .ok (.aload_n 0, 1) := by decide +kernel
theorem dX9_excludes_33 : decode cX9_excludes 33 = .ok (.iload_n 1, 1) := by decide +kernel
theorem dX9_excludes_34 : decode cX9_excludes 34 = .ok (.iload_n 2, 1) := by decide +kernel
theorem dX9_excludes_35 : decode cX9_excludes 35 = .ok (.invokevirtual 49, 3) := by decide +kernel
theorem dX9_excludes_38 : decode cX9_excludes 38 = .ok (.ifCond .le 7, 3) := by decide +kernel
theorem dX9_excludes_41 : decode cX9_excludes 41 = .ok (.iconst 1, 1) := by decide +kernel
theorem dX9_excludes_42 : decode cX9_excludes 42 = .ok (.goto 4, 3) := by decide +kernel
theorem dX9_excludes_45 : decode cX9_excludes 45 = .ok (.iconst 0, 1) := by decide +kernel
theorem dX9_excludes_46 : decode cX9_excludes 46 = .ok (.bastore, 1) := by decide +kernel
theorem dX9_excludes_47 : decode cX9_excludes 47 = .ok (.iinc 2 1, 3) := by decide +kernel
theorem dX9_excludes_50 : decode cX9_excludes 50 = .ok (.goto (-48), 3) := by decide +kernel
theorem dX9_excludes_53 : decode cX9_excludes 53 = .ok (.return_, 1) := by decide +kernel
theorem dX9_clears_0 : decode cX9_clears 0 = .ok (.aload_n 0, 1) := by decide +kernel
theorem dX9_clears_1 : decode cX9_clears 1 = .ok (.iconst 0, 1) := by decide +kernel
theorem dX9_clears_2 : decode cX9_clears 2 = .ok (.putfield 93, 3) := by decide +kernel
theorem dX9_clears_5 : decode cX9_clears 5 = .ok (.aload_n 0, 1) := by decide +kernel
theorem dX9_clears_6 : decode cX9_clears 6 = .ok (.iconst 0, 1) := by decide +kernel
theorem dX9_clears_7 : decode cX9_clears 7 = .ok (.putfield 107, 3) := by decide +kernel
theorem dX9_clears_10 : decode cX9_clears 10 = .ok (.aload_n 0, 1) := by decide +kernel
theorem dX9_clears_11 : decode cX9_clears 11 = .ok (.iconst (-1), 1) := by decide +kernel
theorem dX9_clears_12 : decode cX9_clears 12 = .ok (.putfield 110, 3) := by decide +kernel
theorem dX9_clears_15 : decode cX9_clears 15 = .ok (.iconst 0, 1) := by decide +kernel
theorem dX9_clears_16 : decode cX9_clears 16 = .ok (.istore_n 1, 1) := by decide +kernel
theorem dX9_clears_17 : decode cX9_clears 17 = .ok (.iload_n 1, 1) := by decide +kernel
theorem dX9_clears_18 : decode cX9_clears 18 = .ok (.bipush 96, 2) := by decide +kernel
theorem dX9_clears_20 : decode cX9_clears 20 = .ok (.if_icmp .ge 16, 3) := by decide +kernel
theorem dX9_clears_23 : decode cX9_clears 23 = .ok (.aload_n 0, 1) := by decide +kernel
theorem dX9_clears_24 : decode cX9_clears 24 = .ok (.getfield 26, 3) := by decide +kernel
theorem dX9_clears_27 : decode cX9_clears 27 = .ok (.iload_n 1, 1) := by decide +kernel
theorem dX9_clears_28 : decode cX9_clears 28 = .ok (.iconst 0, 1) := by decide +kernel
theorem dX9_clears_29 : decode cX9_clears 29 = .ok (.bastore, 1) := by decide +kernel
theorem dX9_clears_30 : decode cX9_clears 30 = .ok (.iinc 1 1, 3) := by decide +kernel
theorem dX9_clears_33 : decode cX9_clears 33 = .ok (.goto (-16), 3) := by decide +kernel
theorem dX9_clears_36 : decode cX9_clears 36 = .ok (.return_, 1) := by decide +kernel
theorem dX9_codes_0 : decode cX9_codes 0 = .ok (.aload_n 0, 1) := by decide +kernel
theorem dX9_codes_1 : decode cX9_codes 1 = .ok (.invokevirtual 113, 3) := by decide +kernel
theorem dX9_codes_4 : decode cX9_codes 4 = .ok (.iload_n 2, 1) := by decide +kernel
theorem dX9_codes_5 : decode cX9_codes 5 = .ok (.aload_n 0, 1) := by decide +kernel
theorem dX9_codes_6 : decode cX9_codes 6 = .ok (.getfield 7, 3) := by decide +kernel
theorem dX9_codes_9 : decode cX9_codes 9 = .ok (.iconst 0, 1) := by decide +kernel
theorem dX9_codes_10 : decode cX9_codes 10 = .ok (.iaload, 1) := by decide +kernel
theorem dX9_codes_11 : decode cX9_codes 11 = .ok (.if_icmp .ge 7, 3) := by decide +kernel
theorem dX9_codes_14 : decode cX9_codes 14 = .ok (.iload_n 2, 1) := by decide +kernel
theorem dX9_codes_15 : decode cX9_codes 15 = .ok (.goto 9, 3) := by decide +kernel
theorem dX9_codes_18 : decode cX9_codes 18 = .ok (.aload_n 0, 1) := by decide +kernel
theorem dX9_codes_19 : decode cX9_codes 19 = .ok (.getfield 7, 3) := by decide +kernel
theorem dX9_codes_22 : decode cX9_codes 22 = .ok (.iconst 0, 1) := by decide +kernel
theorem dX9_codes_23 : decode cX9_codes 23 = .ok (.iaload, 1) := by decide +kernel
theorem dX9_codes_24 : decode cX9_codes 24 = .ok (.istore 4, 2) := by decide +kernel
theorem dX9_codes_26 : decode cX9_codes 26 = .ok (.iload 4, 2) := by decide +kernel
theorem dX9_codes_28 : decode cX9_codes 28 = .ok (.ifCond .lt 130, 3) := by decide +kernel
theorem dX9_codes_31 : decode cX9_codes 31 = .ok (.aload_n 0, 1) := by decide +kernel
theorem dX9_codes_32 : decode cX9_codes 32 = .ok (.aload_n 1, 1) := by decide +kernel
theorem dX9_codes_33 : decode cX9_codes 33 = .ok (.iload_n 2, 1) := by decide +kernel
theorem dX9_codes_34 : decode cX9_codes 34 = .ok (.iload 4, 2) := by decide +kernel
theorem dX9_codes_36 : decode cX9_codes 36 = .ok (.invokevirtual 57, 3) := by decide +kernel
theorem dX9_codes_39 : decode cX9_codes 39 = .ok (.istore 5, 2) := by decide +kernel
theorem dX9_codes_41 : decode cX9_codes 41 = .ok (.iload 5, 2) := by decide +kernel
theorem dX9_codes_43 : decode cX9_codes 43 = .ok (.ifCond .lt 109, 3) := by decide +kernel
theorem dX9_codes_46 : decode cX9_codes 46 = .ok (.aload_n 0, 1) := by decide +kernel
theorem dX9_codes_47 : decode cX9_codes 47 = .ok (.iload 5, 2) := by decide +kernel
theorem dX9_codes_49 : decode cX9_codes 49 = .ok (.bipush 96, 2) := by decide +kernel
theorem dX9_codes_51 : decode cX9_codes 51 = .ok (.invokevirtual 116, 3) := by decide +kernel
theorem dX9_codes_54 : decode cX9_codes 54 = .ok (.istore 6, 2) := by decide +kernel
theorem dX9_codes_56 : decode cX9_codes 56 = .ok (.aload_n 0, 1) := by decide +kernel
theorem dX9_codes_57 : decode cX9_codes 57 = .ok (.iload 5, 2) := by decide +kernel
theorem dX9_codes_59 : decode cX9_codes 59 = .ok (.invokevirtual 119, 3) := by decide +kernel
theorem dX9_codes_62 : decode cX9_codes 62 = .ok (.istore 7, 2) := by decide +kernel
theorem dX9_codes_64 : decode cX9_codes 64 = .ok (.aload_n 0, 1) := by decide +kernel
theorem dX9_codes_65 : decode cX9_codes 65 = .ok (.getfield 26, 3) := by decide +kernel
theorem dX9_codes_68 : decode cX9_codes 68 = .ok (.iload_n 3, 1) := by decide +kernel
theorem dX9_codes_69 : decode cX9_codes 69 = .ok (.baload, 1) := by decide +kernel
theorem dX9_codes_70 : decode cX9_codes 70 = .ok (.ifCond .ne 50, 3) := by decide +kernel
theorem dX9_codes_73 : decode cX9_codes 73 = .ok (.aload_n 0, 1) := by decide +kernel
theorem dX9_codes_74 : decode cX9_codes 74 = .ok (.iload 5, 2) := by decide +kernel
theorem dX9_codes_76 : decode cX9_codes 76 = .ok (.iload_n 3, 1) := by decide +kernel
theorem dX9_codes_77 : decode cX9_codes 77 = .ok (.invokevirtual 49, 3) := by decide +kernel
theorem dX9_codes_80 : decode cX9_codes 80 = .ok (.ifCond .le 40, 3) := by decide +kernel
theorem dX9_codes_83 : decode cX9_codes 83 = .ok (.aload_n 0, 1) := by decide +kernel
theorem dX9_codes_84 : decode cX9_codes 84 = .ok (.iload 5, 2) := by decide +kernel
theorem dX9_codes_86 : decode cX9_codes 86 = .ok (.iload_n 3, 1) := by decide +kernel
theorem dX9_codes_87 : decode cX9_codes 87 = .ok (.invokevirtual 116, 3) := by decide +kernel
theorem dX9_codes_90 : decode cX9_codes 90 = .ok (.istore 8, 2) := by decide +kernel
theorem dX9_codes_92 : decode cX9_codes 92 = .ok (.aload_n 0, 1) := by decide +kernel
theorem dX9_codes_93 : decode cX9_codes 93 = .ok (.iload 8, 2) := by decide +kernel
theorem dX9_codes_95 : decode cX9_codes 95 = .ok (.iload 8, 2) := by decide +kernel
theorem dX9_codes_97 : decode cX9_codes 97 = .ok (.aload_n 0, 1) := by decide +kernel
theorem dX9_codes_98 : decode cX9_codes 98 = .ok (.iload 5, 2) := by decide +kernel
theorem dX9_codes_100 : decode cX9_codes 100 = .ok (.iload_n 3, 1) := by decide +kernel
theorem dX9_codes_101 : decode cX9_codes 101 = .ok (.invokevirtual 49, 3) := by decide +kernel
theorem dX9_codes_104 : decode cX9_codes 104 = .ok (.iadd, 1) := by decide +kernel
theorem dX9_codes_105 : decode cX9_codes 105 = .ok (.iload 6, 2) := by decide +kernel
theorem dX9_codes_107 : decode cX9_codes 107 = .ok (.iload 7, 2) := by decide +kernel
theorem dX9_codes_109 : decode cX9_codes 109 = .ok (.iadd, 1) := by decide +kernel
theorem dX9_codes_110 : decode cX9_codes 110 = .ok (.invokevirtual 122, 3) := by decide +kernel
theorem dX9_codes_113 : decode cX9_codes 113 = .ok (.aload_n 0, 1) := by decide +kernel
theorem dX9_codes_114 : decode cX9_codes 114 = .ok (.iload 4, 2) := by decide +kernel
theorem dX9_codes_116 : decode cX9_codes 116 = .ok (.putfield 110, 3) := by decide +kernel
theorem dX9_codes_119 : decode cX9_codes 119 = .ok (.return_, 1) := by decide +kernel
theorem dX9_codes_120 : decode cX9_codes 120 = .ok (.aload_n 0, 1) := by decide +kernel
theorem dX9_codes_121 : decode cX9_codes 121 = .ok (.iload 6, 2) := by decide +kernel
theorem dX9_codes_123 : decode cX9_codes 123 = .ok (.iload 6, 2) := by decide +kernel
theorem dX9_codes_125 : decode cX9_codes 125 = .ok (.iload 7, 2) := by decide +kernel
theorem dX9_codes_127 : decode cX9_codes 127 = .ok (.iadd, 1) := by decide +kernel
theorem dX9_codes_128 : decode cX9_codes 128 = .ok (.iload 6, 2) := by decide +kernel
theorem dX9_codes_130 : decode cX9_codes 130 = .ok (.iload 7, 2) := by decide +kernel
theorem dX9_codes_132 : decode cX9_codes 132 = .ok (.iadd, 1) := by decide +kernel
theorem dX9_codes_133 : decode cX9_codes 133 = .ok (.invokevirtual 122, 3) := by decide +kernel
theorem dX9_codes_136 : decode cX9_codes 136 = .ok (.aload_n 0, 1) := by decide +kernel
theorem dX9_codes_137 : decode cX9_codes 137 = .ok (.dup, 1) := by decide +kernel
theorem dX9_codes_138 : decode cX9_codes 138 = .ok (.getfield 107, 3) := by decide +kernel
theorem dX9_codes_141 : decode cX9_codes 141 = .ok (.iconst 1, 1) := by decide +kernel
theorem dX9_codes_142 : decode cX9_codes 142 = .ok (.iadd, 1) := by decide +kernel
theorem dX9_codes_143 : decode cX9_codes 143 = .ok (.putfield 107, 3) := by decide +kernel
theorem dX9_codes_146 : decode cX9_codes 146 = .ok (.aload_n 0, 1) := by decide +kernel
theorem dX9_codes_147 : decode cX9_codes 147 = .ok (.iload 5, 2) := by decide +kernel
theorem dX9_codes_149 : decode cX9_codes 149 = .ok (.invokevirtual 126, 3) := by decide +kernel
theorem dX9_codes_152 : decode cX9_codes 152 = .ok (.iinc 4 (-1), 3) := by decide +kernel
theorem dX9_codes_155 : decode cX9_codes 155 = .ok (.goto (-129), 3) := by decide +kernel
theorem dX9_codes_158 : decode cX9_codes 158 = .ok (.iconst 0, 1) := by decide +kernel
theorem dX9_codes_159 : decode cX9_codes 159 = .ok (.istore 4, 2) := by decide +kernel
theorem dX9_codes_161 : decode cX9_codes 161 = .ok (.iconst 0, 1) := by decide +kernel
theorem dX9_codes_162 : decode cX9_codes 162 = .ok (.istore 5, 2) := by decide +kernel
theorem dX9_codes_164 : decode cX9_codes 164 = .ok (.iconst 0, 1) := by decide +kernel
theorem dX9_codes_165 : decode cX9_codes 165 = .ok (.istore 6, 2) := by decide +kernel
theorem dX9_codes_167 : decode cX9_codes 167 = .ok (.iload 6, 2) := by decide +kernel
theorem dX9_codes_169 : decode cX9_codes 169 = .ok (.bipush 96, 2) := by decide +kernel
theorem dX9_codes_171 : decode cX9_codes 171 = .ok (.if_icmp .ge 55, 3) := by decide +kernel
theorem dX9_codes_174 : decode cX9_codes 174 = .ok (.iload 4, 2) := by decide +kernel
theorem dX9_codes_176 : decode cX9_codes 176 = .ok (.aload_n 0, 1) := by decide +kernel
theorem dX9_codes_177 : decode cX9_codes 177 = .ok (.getfield 26, 3) := by decide +kernel
theorem dX9_codes_180 : decode cX9_codes 180 = .ok (.iload 6, 2) := by decide +kernel
theorem dX9_codes_182 : decode cX9_codes 182 = .ok (.baload, 1) := by decide +kernel
theorem dX9_codes_183 : decode cX9_codes 183 = .ok (.ifCond .ne 13, 3) := by decide +kernel
theorem dX9_codes_186 : decode cX9_codes 186 = .ok (.iload 6, 2) := by decide +kernel
theorem dX9_codes_188 : decode cX9_codes 188 = .ok (.iload_n 3, 1) := by decide +kernel
theorem dX9_codes_189 : decode cX9_codes 189 = .ok (.if_icmp .ge 7, 3) := by decide +kernel
theorem dX9_codes_192 : decode cX9_codes 192 = .ok (.iconst 1, 1) := by decide +kernel
theorem dX9_codes_193 : decode cX9_codes 193 = .ok (.goto 4, 3) := by decide +kernel
theorem dX9_codes_196 : decode cX9_codes 196 = .ok (.iconst 0, 1) := by decide +kernel
theorem dX9_codes_197 : decode cX9_codes 197 = .ok (.iadd, 1) := by decide +kernel
theorem dX9_codes_198 : decode cX9_codes 198 = .ok (.istore 4, 2) := by decide +kernel
theorem dX9_codes_200 : decode cX9_codes 200 = .ok (.iload 5, 2) := by decide +kernel
theorem dX9_codes_202 : decode cX9_codes 202 = .ok (.aload_n 0, 1) := by decide +kernel
theorem dX9_codes_203 : decode cX9_codes 203 = .ok (.getfield 26, 3) := by decide +kernel
theorem dX9_codes_206 : decode cX9_codes 206 = .ok (.iload 6, 2) := by decide +kernel
theorem dX9_codes_208 : decode cX9_codes 208 = .ok (.baload, 1) := by decide +kernel
theorem dX9_codes_209 : decode cX9_codes 209 = .ok (.ifCond .eq 7, 3) := by decide +kernel
theorem dX9_codes_212 : decode cX9_codes 212 = .ok (.iconst 0, 1) := by decide +kernel
theorem dX9_codes_213 : decode cX9_codes 213 = .ok (.goto 4, 3) := by decide +kernel
theorem dX9_codes_216 : decode cX9_codes 216 = .ok (.iconst 1, 1) := by decide +kernel
theorem dX9_codes_217 : decode cX9_codes 217 = .ok (.iadd, 1) := by decide +kernel
theorem dX9_codes_218 : decode cX9_codes 218 = .ok (.istore 5, 2) := by decide +kernel
theorem dX9_codes_220 : decode cX9_codes 220 = .ok (.iinc 6 1, 3) := by decide +kernel
theorem dX9_codes_223 : decode cX9_codes 223 = .ok (.goto (-56), 3) := by decide +kernel
theorem dX9_codes_226 : decode cX9_codes 226 = .ok (.aload_n 0, 1) := by decide +kernel
theorem dX9_codes_227 : decode cX9_codes 227 = .ok (.iload 4, 2) := by decide +kernel
theorem dX9_codes_229 : decode cX9_codes 229 = .ok (.iload 4, 2) := by decide +kernel
theorem dX9_codes_231 : decode cX9_codes 231 = .ok (.iconst 1, 1) := by decide +kernel
theorem dX9_codes_232 : decode cX9_codes 232 = .ok (.iadd, 1) := by decide +kernel
theorem dX9_codes_233 : decode cX9_codes 233 = .ok (.iload 5, 2) := by decide +kernel
theorem dX9_codes_235 : decode cX9_codes 235 = .ok (.invokevirtual 122, 3) := by decide +kernel
theorem dX9_codes_238 : decode cX9_codes 238 = .ok (.return_, 1) := by decide +kernel
theorem dX9_empties_0 : decode cX9_empties 0 = .ok (.aload_n 0, 1) := by decide +kernel
theorem dX9_empties_1 : decode cX9_empties 1 = .ok (.getfield 7, 3) := by decide +kernel
theorem dX9_empties_4 : decode cX9_empties 4 = .ok (.iconst 4, 1) := by decide +kernel
theorem dX9_empties_5 : decode cX9_empties 5 = .ok (.iconst 0, 1) := by decide +kernel
theorem dX9_empties_6 : decode cX9_empties 6 = .ok (.iastore, 1) := by decide +kernel
theorem dX9_empties_7 : decode cX9_empties 7 = .ok (.bipush 10, 2) := by decide +kernel
theorem dX9_empties_9 : decode cX9_empties 9 = .ok (.istore_n 1, 1) := by decide +kernel
theorem dX9_empties_10 : decode cX9_empties 10 = .ok (.iload_n 1, 1) := by decide +kernel
theorem dX9_empties_11 : decode cX9_empties 11 = .ok (.sipush 24260, 3) := by decide +kernel
theorem dX9_empties_14 : decode cX9_empties 14 = .ok (.if_icmp .ge 16, 3) := by decide +kernel
theorem dX9_empties_17 : decode cX9_empties 17 = .ok (.aload_n 0, 1) := by decide +kernel
theorem dX9_empties_18 : decode cX9_empties 18 = .ok (.getfield 7, 3) := by decide +kernel
theorem dX9_empties_21 : decode cX9_empties 21 = .ok (.iload_n 1, 1) := by decide +kernel
theorem dX9_empties_22 : decode cX9_empties 22 = .ok (.iconst 0, 1) := by decide +kernel
theorem dX9_empties_23 : decode cX9_empties 23 = .ok (.iastore, 1) := by decide +kernel
theorem dX9_empties_24 : decode cX9_empties 24 = .ok (.iinc 1 1, 3) := by decide +kernel
theorem dX9_empties_27 : decode cX9_empties 27 = .ok (.goto (-17), 3) := by decide +kernel
theorem dX9_empties_30 : decode cX9_empties 30 = .ok (.return_, 1) := by decide +kernel
theorem dX9_setOrder_0 : decode cX9_setOrder 0 = .ok (.iload_n 1, 1) := by decide +kernel
theorem dX9_setOrder_1 : decode cX9_setOrder 1 = .ok (.iconst 0, 1) := by decide +kernel
theorem dX9_setOrder_2 : decode cX9_setOrder 2 = .ok (.iconst 3, 1) := by decide +kernel
theorem dX9_setOrder_3 : decode cX9_setOrder 3 = .ok (.invokestatic 130, 3) := by decide +kernel
theorem dX9_setOrder_6 : decode cX9_setOrder 6 = .ok (.ifCond .ne 5, 3) := by decide +kernel
theorem dX9_setOrder_9 : decode cX9_setOrder 9 = .ok (.iconst (-1), 1) := by decide +kernel
theorem dX9_setOrder_10 : decode cX9_setOrder 10 = .ok (.ireturn, 1) := by decide +kernel
theorem dX9_setOrder_11 : decode cX9_setOrder 11 = .ok (.aload_n 0, 1) := by decide +kernel
theorem dX9_setOrder_12 : decode cX9_setOrder 12 = .ok (.iconst 0, 1) := by decide +kernel
theorem dX9_setOrder_13 : decode cX9_setOrder 13 = .ok (.iload_n 1, 1) := by decide +kernel
theorem dX9_setOrder_14 : decode cX9_setOrder 14 = .ok (.invokevirtual 134, 3) := by decide +kernel
theorem dX9_setOrder_17 : decode cX9_setOrder 17 = .ok (.istore_n 2, 1) := by decide +kernel
theorem dX9_setOrder_18 : decode cX9_setOrder 18 = .ok (.aload_n 0, 1) := by decide +kernel
theorem dX9_setOrder_19 : decode cX9_setOrder 19 = .ok (.invokevirtual 137, 3) := by decide +kernel
theorem dX9_setOrder_22 : decode cX9_setOrder 22 = .ok (.iload_n 2, 1) := by decide +kernel
theorem dX9_setOrder_23 : decode cX9_setOrder 23 = .ok (.ireturn, 1) := by decide +kernel
theorem dX9_setExclusion_0 : decode cX9_setExclusion 0 = .ok (.aload_n 0, 1) := by decide +kernel
theorem dX9_setExclusion_1 : decode cX9_setExclusion 1 = .ok (.iconst 1, 1) := by decide +kernel
theorem dX9_setExclusion_2 : decode cX9_setExclusion 2 = .ok (.iload_n 1, 1) := by decide +kernel
theorem dX9_setExclusion_3 : decode cX9_setExclusion 3 = .ok (.ifCond .eq 7, 3) := by decide +kernel
theorem dX9_setExclusion_6 : decode cX9_setExclusion 6 = .ok (.iconst 1, 1) := by decide +kernel
theorem dX9_setExclusion_7 : decode cX9_setExclusion 7 = .ok (.goto 4, 3) := by decide +kernel
theorem dX9_setExclusion_10 : decode cX9_setExclusion 10 = .ok (.iconst 0, 1) := by decide +kernel
theorem dX9_setExclusion_11 : decode cX9_setExclusion 11 = .ok (.invokevirtual 134, 3) := by decide +kernel
theorem dX9_setExclusion_14 : decode cX9_setExclusion 14 = .ok (.ireturn, 1) := by decide +kernel
theorem dX9_setStep_0 : decode cX9_setStep 0 = .ok (.iload_n 1, 1) := by decide +kernel
theorem dX9_setStep_1 : decode cX9_setStep 1 = .ok (.iconst 1, 1) := by decide +kernel
theorem dX9_setStep_2 : decode cX9_setStep 2 = .ok (.bipush 10, 2) := by decide +kernel
theorem dX9_setStep_4 : decode cX9_setStep 4 = .ok (.invokestatic 130, 3) := by decide +kernel
theorem dX9_setStep_7 : decode cX9_setStep 7 = .ok (.ifCond .eq 12, 3) := by decide +kernel
theorem dX9_setStep_10 : decode cX9_setStep 10 = .ok (.aload_n 0, 1) := by decide +kernel
theorem dX9_setStep_11 : decode cX9_setStep 11 = .ok (.iconst 2, 1) := by decide +kernel
theorem dX9_setStep_12 : decode cX9_setStep 12 = .ok (.iload_n 1, 1) := by decide +kernel
theorem dX9_setStep_13 : decode cX9_setStep 13 = .ok (.invokevirtual 134, 3) := by decide +kernel
theorem dX9_setStep_16 : decode cX9_setStep 16 = .ok (.goto 4, 3) := by decide +kernel
theorem dX9_setStep_19 : decode cX9_setStep 19 = .ok (.iconst (-1), 1) := by decide +kernel
theorem dX9_setStep_20 : decode cX9_setStep 20 = .ok (.ireturn, 1) := by decide +kernel
theorem dX9_setLimit_0 : decode cX9_setLimit 0 = .ok (.iload_n 1, 1) := by decide +kernel
theorem dX9_setLimit_1 : decode cX9_setLimit 1 = .ok (.bipush 20, 2) := by decide +kernel
theorem dX9_setLimit_3 : decode cX9_setLimit 3 = .ok (.sipush 1000, 3) := by decide +kernel
theorem dX9_setLimit_6 : decode cX9_setLimit 6 = .ok (.invokestatic 130, 3) := by decide +kernel
theorem dX9_setLimit_9 : decode cX9_setLimit 9 = .ok (.ifCond .eq 12, 3) := by decide +kernel
theorem dX9_setLimit_12 : decode cX9_setLimit 12 = .ok (.aload_n 0, 1) := by decide +kernel
theorem dX9_setLimit_13 : decode cX9_setLimit 13 = .ok (.iconst 3, 1) := by decide +kernel
theorem dX9_setLimit_14 : decode cX9_setLimit 14 = .ok (.iload_n 1, 1) := by decide +kernel
theorem dX9_setLimit_15 : decode cX9_setLimit 15 = .ok (.invokevirtual 134, 3) := by decide +kernel
theorem dX9_setLimit_18 : decode cX9_setLimit 18 = .ok (.goto 4, 3) := by decide +kernel
theorem dX9_setLimit_21 : decode cX9_setLimit 21 = .ok (.iconst (-1), 1) := by decide +kernel
theorem dX9_setLimit_22 : decode cX9_setLimit 22 = .ok (.ireturn, 1) := by decide +kernel
theorem dX9_forget_0 : decode cX9_forget 0 = .ok (.aload_n 0, 1) := by decide +kernel
theorem dX9_forget_1 : decode cX9_forget 1 = .ok (.aload_n 0, 1) := by decide +kernel
theorem dX9_forget_2 : decode cX9_forget 2 = .ok (.getfield 7, 3) := by decide +kernel
theorem dX9_forget_5 : decode cX9_forget 5 = .ok (.invokevirtual 41, 3) := by decide +kernel
theorem dX9_forget_8 : decode cX9_forget 8 = .ok (.aload_n 0, 1) := by decide +kernel
theorem dX9_forget_9 : decode cX9_forget 9 = .ok (.getfield 7, 3) := by decide +kernel
theorem dX9_forget_12 : decode cX9_forget 12 = .ok (.iconst 4, 1) := by decide +kernel
theorem dX9_forget_13 : decode cX9_forget 13 = .ok (.iaload, 1) := by decide +kernel
theorem dX9_forget_14 : decode cX9_forget 14 = .ok (.istore_n 1, 1) := by decide +kernel
theorem dX9_forget_15 : decode cX9_forget 15 = .ok (.aload_n 0, 1) := by decide +kernel
theorem dX9_forget_16 : decode cX9_forget 16 = .ok (.invokevirtual 137, 3) := by decide +kernel
theorem dX9_forget_19 : decode cX9_forget 19 = .ok (.iload_n 1, 1) := by decide +kernel
theorem dX9_forget_20 : decode cX9_forget 20 = .ok (.ireturn, 1) := by decide +kernel
theorem dX9_symbolAt_0 : decode cX9_symbolAt 0 = .ok (.iload_n 3, 1) := by decide +kernel
theorem dX9_symbolAt_1 : decode cX9_symbolAt 1 = .ok (.iload_n 2, 1) := by decide +kernel
theorem dX9_symbolAt_2 : decode cX9_symbolAt 2 = .ok (.if_icmp .ge 12, 3) := by decide +kernel
theorem dX9_symbolAt_5 : decode cX9_symbolAt 5 = .ok (.aload_n 1, 1) := by decide +kernel
theorem dX9_symbolAt_6 : decode cX9_symbolAt 6 = .ok (.iload_n 3, 1) := by decide +kernel
theorem dX9_symbolAt_7 : decode cX9_symbolAt 7 = .ok (.iaload, 1) := by decide +kernel
theorem dX9_symbolAt_8 : decode cX9_symbolAt 8 = .ok (.bipush 32, 2) := by decide +kernel
theorem dX9_symbolAt_10 : decode cX9_symbolAt 10 = .ok (.isub, 1) := by decide +kernel
theorem dX9_symbolAt_11 : decode cX9_symbolAt 11 = .ok (.goto 5, 3) := by decide +kernel
theorem dX9_symbolAt_14 : decode cX9_symbolAt 14 = .ok (.bipush 95, 2) := by decide +kernel
theorem dX9_symbolAt_16 : decode cX9_symbolAt 16 = .ok (.ireturn, 1) := by decide +kernel
theorem dX9_learn_0 : decode cX9_learn 0 = .ok (.aload_n 0, 1) := by decide +kernel
theorem dX9_learn_1 : decode cX9_learn 1 = .ok (.aload_n 0, 1) := by decide +kernel
theorem dX9_learn_2 : decode cX9_learn 2 = .ok (.getfield 7, 3) := by decide +kernel
theorem dX9_learn_5 : decode cX9_learn 5 = .ok (.invokevirtual 41, 3) := by decide +kernel
theorem dX9_learn_8 : decode cX9_learn 8 = .ok (.iconst 0, 1) := by decide +kernel
theorem dX9_learn_9 : decode cX9_learn 9 = .ok (.istore_n 1, 1) := by decide +kernel
theorem dX9_learn_10 : decode cX9_learn 10 = .ok (.iload_n 1, 1) := by decide +kernel
theorem dX9_learn_11 : decode cX9_learn 11 = .ok (.aload_n 0, 1) := by decide +kernel
theorem dX9_learn_12 : decode cX9_learn 12 = .ok (.getfield 140, 3) := by decide +kernel
theorem dX9_learn_15 : decode cX9_learn 15 = .ok (.if_icmp .gt 31, 3) := by decide +kernel
theorem dX9_learn_18 : decode cX9_learn 18 = .ok (.aload_n 0, 1) := by decide +kernel
theorem dX9_learn_19 : decode cX9_learn 19 = .ok (.aload_n 0, 1) := by decide +kernel
theorem dX9_learn_20 : decode cX9_learn 20 = .ok (.getfield 20, 3) := by decide +kernel
theorem dX9_learn_23 : decode cX9_learn 23 = .ok (.iload_n 1, 1) := by decide +kernel
theorem dX9_learn_24 : decode cX9_learn 24 = .ok (.aload_n 0, 1) := by decide +kernel
theorem dX9_learn_25 : decode cX9_learn 25 = .ok (.aload_n 0, 1) := by decide +kernel
theorem dX9_learn_26 : decode cX9_learn 26 = .ok (.getfield 20, 3) := by decide +kernel
theorem dX9_learn_29 : decode cX9_learn 29 = .ok (.aload_n 0, 1) := by decide +kernel
theorem dX9_learn_30 : decode cX9_learn 30 = .ok (.getfield 140, 3) := by decide +kernel
theorem dX9_learn_33 : decode cX9_learn 33 = .ok (.iload_n 1, 1) := by decide +kernel
theorem dX9_learn_34 : decode cX9_learn 34 = .ok (.invokevirtual 143, 3) := by decide +kernel
theorem dX9_learn_37 : decode cX9_learn 37 = .ok (.invokevirtual 146, 3) := by decide +kernel
theorem dX9_learn_40 : decode cX9_learn 40 = .ok (.iinc 1 1, 3) := by decide +kernel
theorem dX9_learn_43 : decode cX9_learn 43 = .ok (.goto (-33), 3) := by decide +kernel
theorem dX9_learn_46 : decode cX9_learn 46 = .ok (.aload_n 0, 1) := by decide +kernel
theorem dX9_learn_47 : decode cX9_learn 47 = .ok (.getfield 7, 3) := by decide +kernel
theorem dX9_learn_50 : decode cX9_learn 50 = .ok (.iconst 4, 1) := by decide +kernel
theorem dX9_learn_51 : decode cX9_learn 51 = .ok (.iaload, 1) := by decide +kernel
theorem dX9_learn_52 : decode cX9_learn 52 = .ok (.ireturn, 1) := by decide +kernel
theorem dX9_contexts_0 : decode cX9_contexts 0 = .ok (.aload_n 0, 1) := by decide +kernel
theorem dX9_contexts_1 : decode cX9_contexts 1 = .ok (.getfield 7, 3) := by decide +kernel
theorem dX9_contexts_4 : decode cX9_contexts 4 = .ok (.iconst 4, 1) := by decide +kernel
theorem dX9_contexts_5 : decode cX9_contexts 5 = .ok (.iaload, 1) := by decide +kernel
theorem dX9_contexts_6 : decode cX9_contexts 6 = .ok (.ireturn, 1) := by decide +kernel
theorem dX9_count_0 : decode cX9_count 0 = .ok (.iload_n 1, 1) := by decide +kernel
theorem dX9_count_1 : decode cX9_count 1 = .ok (.iconst 0, 1) := by decide +kernel
theorem dX9_count_2 : decode cX9_count 2 = .ok (.iconst 3, 1) := by decide +kernel
theorem dX9_count_3 : decode cX9_count 3 = .ok (.invokestatic 130, 3) := by decide +kernel
theorem dX9_count_6 : decode cX9_count 6 = .ok (.ifCond .eq 13, 3) := by decide +kernel
theorem dX9_count_9 : decode cX9_count 9 = .ok (.iload_n 2, 1) := by decide +kernel
theorem dX9_count_10 : decode cX9_count 10 = .ok (.iconst 0, 1) := by decide +kernel
theorem dX9_count_11 : decode cX9_count 11 = .ok (.bipush 95, 2) := by decide +kernel
theorem dX9_count_13 : decode cX9_count 13 = .ok (.invokestatic 130, 3) := by decide +kernel
theorem dX9_count_16 : decode cX9_count 16 = .ok (.ifCond .ne 5, 3) := by decide +kernel
theorem dX9_count_19 : decode cX9_count 19 = .ok (.iconst (-1), 1) := by decide +kernel
theorem dX9_count_20 : decode cX9_count 20 = .ok (.ireturn, 1) := by decide +kernel
theorem dX9_count_21 : decode cX9_count 21 = .ok (.iload_n 1, 1) := by decide +kernel
theorem dX9_count_22 : decode cX9_count 22 = .ok (.aload_n 0, 1) := by decide +kernel
theorem dX9_count_23 : decode cX9_count 23 = .ok (.getfield 140, 3) := by decide +kernel
theorem dX9_count_26 : decode cX9_count 26 = .ok (.if_icmp .le 7, 3) := by decide +kernel
theorem dX9_count_29 : decode cX9_count 29 = .ok (.iconst (-1), 1) := by decide +kernel
theorem dX9_count_30 : decode cX9_count 30 = .ok (.goto 16, 3) := by decide +kernel
theorem dX9_count_33 : decode cX9_count 33 = .ok (.aload_n 0, 1) := by decide +kernel
theorem dX9_count_34 : decode cX9_count 34 = .ok (.aload_n 0, 1) := by decide +kernel
theorem dX9_count_35 : decode cX9_count 35 = .ok (.getfield 20, 3) := by decide +kernel
theorem dX9_count_38 : decode cX9_count 38 = .ok (.aload_n 0, 1) := by decide +kernel
theorem dX9_count_39 : decode cX9_count 39 = .ok (.getfield 140, 3) := by decide +kernel
theorem dX9_count_42 : decode cX9_count 42 = .ok (.iload_n 1, 1) := by decide +kernel
theorem dX9_count_43 : decode cX9_count 43 = .ok (.invokevirtual 57, 3) := by decide +kernel
theorem dX9_count_46 : decode cX9_count 46 = .ok (.istore_n 3, 1) := by decide +kernel
theorem dX9_count_47 : decode cX9_count 47 = .ok (.iload_n 3, 1) := by decide +kernel
theorem dX9_count_48 : decode cX9_count 48 = .ok (.ifCond .ge 8, 3) := by decide +kernel
theorem dX9_count_51 : decode cX9_count 51 = .ok (.bipush (-9), 2) := by decide +kernel
theorem dX9_count_53 : decode cX9_count 53 = .ok (.goto 9, 3) := by decide +kernel
theorem dX9_count_56 : decode cX9_count 56 = .ok (.aload_n 0, 1) := by decide +kernel
theorem dX9_count_57 : decode cX9_count 57 = .ok (.iload_n 3, 1) := by decide +kernel
theorem dX9_count_58 : decode cX9_count 58 = .ok (.iload_n 2, 1) := by decide +kernel
theorem dX9_count_59 : decode cX9_count 59 = .ok (.invokevirtual 49, 3) := by decide +kernel
theorem dX9_count_62 : decode cX9_count 62 = .ok (.ireturn, 1) := by decide +kernel
theorem dX9_weight_0 : decode cX9_weight 0 = .ok (.iload_n 1, 1) := by decide +kernel
theorem dX9_weight_1 : decode cX9_weight 1 = .ok (.iconst 0, 1) := by decide +kernel
theorem dX9_weight_2 : decode cX9_weight 2 = .ok (.iconst 3, 1) := by decide +kernel
theorem dX9_weight_3 : decode cX9_weight 3 = .ok (.invokestatic 130, 3) := by decide +kernel
theorem dX9_weight_6 : decode cX9_weight 6 = .ok (.ifCond .ne 5, 3) := by decide +kernel
theorem dX9_weight_9 : decode cX9_weight 9 = .ok (.iconst (-1), 1) := by decide +kernel
theorem dX9_weight_10 : decode cX9_weight 10 = .ok (.ireturn, 1) := by decide +kernel
theorem dX9_weight_11 : decode cX9_weight 11 = .ok (.iload_n 1, 1) := by decide +kernel
theorem dX9_weight_12 : decode cX9_weight 12 = .ok (.aload_n 0, 1) := by decide +kernel
theorem dX9_weight_13 : decode cX9_weight 13 = .ok (.getfield 140, 3) := by decide +kernel
theorem dX9_weight_16 : decode cX9_weight 16 = .ok (.if_icmp .le 7, 3) := by decide +kernel
theorem dX9_weight_19 : decode cX9_weight 19 = .ok (.iconst (-1), 1) := by decide +kernel
theorem dX9_weight_20 : decode cX9_weight 20 = .ok (.goto 16, 3) := by decide +kernel
theorem dX9_weight_23 : decode cX9_weight 23 = .ok (.aload_n 0, 1) := by decide +kernel
theorem dX9_weight_24 : decode cX9_weight 24 = .ok (.aload_n 0, 1) := by decide +kernel
theorem dX9_weight_25 : decode cX9_weight 25 = .ok (.getfield 20, 3) := by decide +kernel
theorem dX9_weight_28 : decode cX9_weight 28 = .ok (.aload_n 0, 1) := by decide +kernel
theorem dX9_weight_29 : decode cX9_weight 29 = .ok (.getfield 140, 3) := by decide +kernel
theorem dX9_weight_32 : decode cX9_weight 32 = .ok (.iload_n 1, 1) := by decide +kernel
theorem dX9_weight_33 : decode cX9_weight 33 = .ok (.invokevirtual 57, 3) := by decide +kernel
theorem dX9_weight_36 : decode cX9_weight 36 = .ok (.istore_n 2, 1) := by decide +kernel
theorem dX9_weight_37 : decode cX9_weight 37 = .ok (.iload_n 2, 1) := by decide +kernel
theorem dX9_weight_38 : decode cX9_weight 38 = .ok (.ifCond .ge 8, 3) := by decide +kernel
theorem dX9_weight_41 : decode cX9_weight 41 = .ok (.bipush (-9), 2) := by decide +kernel
theorem dX9_weight_43 : decode cX9_weight 43 = .ok (.goto 8, 3) := by decide +kernel
theorem dX9_weight_46 : decode cX9_weight 46 = .ok (.aload_n 0, 1) := by decide +kernel
theorem dX9_weight_47 : decode cX9_weight 47 = .ok (.iload_n 2, 1) := by decide +kernel
theorem dX9_weight_48 : decode cX9_weight 48 = .ok (.invokevirtual 53, 3) := by decide +kernel
theorem dX9_weight_51 : decode cX9_weight 51 = .ok (.ireturn, 1) := by decide +kernel
theorem dX9_priceOf_0 : decode cX9_priceOf 0 = .ok (.aload_n 0, 1) := by decide +kernel
theorem dX9_priceOf_1 : decode cX9_priceOf 1 = .ok (.iconst 0, 1) := by decide +kernel
theorem dX9_priceOf_2 : decode cX9_priceOf 2 = .ok (.putfield 99, 3) := by decide +kernel
theorem dX9_priceOf_5 : decode cX9_priceOf 5 = .ok (.aload_n 0, 1) := by decide +kernel
theorem dX9_priceOf_6 : decode cX9_priceOf 6 = .ok (.aload_n 0, 1) := by decide +kernel
theorem dX9_priceOf_7 : decode cX9_priceOf 7 = .ok (.getfield 20, 3) := by decide +kernel
theorem dX9_priceOf_10 : decode cX9_priceOf 10 = .ok (.aload_n 0, 1) := by decide +kernel
theorem dX9_priceOf_11 : decode cX9_priceOf 11 = .ok (.getfield 140, 3) := by decide +kernel
theorem dX9_priceOf_14 : decode cX9_priceOf 14 = .ok (.iload_n 1, 1) := by decide +kernel
theorem dX9_priceOf_15 : decode cX9_priceOf 15 = .ok (.invokevirtual 150, 3) := by decide +kernel
theorem dX9_priceOf_18 : decode cX9_priceOf 18 = .ok (.aload_n 0, 1) := by decide +kernel
theorem dX9_priceOf_19 : decode cX9_priceOf 19 = .ok (.getfield 93, 3) := by decide +kernel
theorem dX9_priceOf_22 : decode cX9_priceOf 22 = .ok (.ireturn, 1) := by decide +kernel
theorem dX9_price_0 : decode cX9_price 0 = .ok (.iload_n 1, 1) := by decide +kernel
theorem dX9_price_1 : decode cX9_price 1 = .ok (.iconst 0, 1) := by decide +kernel
theorem dX9_price_2 : decode cX9_price 2 = .ok (.bipush 95, 2) := by decide +kernel
theorem dX9_price_4 : decode cX9_price 4 = .ok (.invokestatic 130, 3) := by decide +kernel
theorem dX9_price_7 : decode cX9_price 7 = .ok (.ifCond .eq 11, 3) := by decide +kernel
theorem dX9_price_10 : decode cX9_price 10 = .ok (.aload_n 0, 1) := by decide +kernel
theorem dX9_price_11 : decode cX9_price 11 = .ok (.iload_n 1, 1) := by decide +kernel
theorem dX9_price_12 : decode cX9_price 12 = .ok (.invokevirtual 153, 3) := by decide +kernel
theorem dX9_price_15 : decode cX9_price 15 = .ok (.goto 4, 3) := by decide +kernel
theorem dX9_price_18 : decode cX9_price 18 = .ok (.iconst (-1), 1) := by decide +kernel
theorem dX9_price_19 : decode cX9_price 19 = .ok (.ireturn, 1) := by decide +kernel
theorem dX9_guess_0 : decode cX9_guess 0 = .ok (.iconst 0, 1) := by decide +kernel
theorem dX9_guess_1 : decode cX9_guess 1 = .ok (.istore_n 1, 1) := by decide +kernel
theorem dX9_guess_2 : decode cX9_guess 2 = .ok (.aload_n 0, 1) := by decide +kernel
theorem dX9_guess_3 : decode cX9_guess 3 = .ok (.iconst 0, 1) := by decide +kernel
theorem dX9_guess_4 : decode cX9_guess 4 = .ok (.invokevirtual 153, 3) := by decide +kernel
theorem dX9_guess_7 : decode cX9_guess 7 = .ok (.istore_n 2, 1) := by decide +kernel
theorem dX9_guess_8 : decode cX9_guess 8 = .ok (.iconst 1, 1) := by decide +kernel
theorem dX9_guess_9 : decode cX9_guess 9 = .ok (.istore_n 3, 1) := by decide +kernel
theorem dX9_guess_10 : decode cX9_guess 10 = .ok (.iload_n 3, 1) := by decide +kernel
theorem dX9_guess_11 : decode cX9_guess 11 = .ok (.bipush 96, 2) := by decide +kernel
theorem dX9_guess_13 : decode cX9_guess 13 = .ok (.if_icmp .ge 41, 3) := by decide +kernel
theorem dX9_guess_16 : decode cX9_guess 16 = .ok (.aload_n 0, 1) := by decide +kernel
theorem dX9_guess_17 : decode cX9_guess 17 = .ok (.iload_n 3, 1) := by decide +kernel
theorem dX9_guess_18 : decode cX9_guess 18 = .ok (.invokevirtual 153, 3) := by decide +kernel
theorem dX9_guess_21 : decode cX9_guess 21 = .ok (.istore 4, 2) := by decide +kernel
theorem dX9_guess_23 : decode cX9_guess 23 = .ok (.iload 4, 2) := by decide +kernel
theorem dX9_guess_25 : decode cX9_guess 25 = .ok (.iload_n 2, 1) := by decide +kernel
theorem dX9_guess_26 : decode cX9_guess 26 = .ok (.if_icmp .ge 7, 3) := by decide +kernel
theorem dX9_guess_29 : decode cX9_guess 29 = .ok (.iload_n 3, 1) := by decide +kernel
theorem dX9_guess_30 : decode cX9_guess 30 = .ok (.goto 4, 3) := by decide +kernel
theorem dX9_guess_33 : decode cX9_guess 33 = .ok (.iload_n 1, 1) := by decide +kernel
theorem dX9_guess_34 : decode cX9_guess 34 = .ok (.istore_n 1, 1) := by decide +kernel
theorem dX9_guess_35 : decode cX9_guess 35 = .ok (.iload 4, 2) := by decide +kernel
theorem dX9_guess_37 : decode cX9_guess 37 = .ok (.iload_n 2, 1) := by decide +kernel
theorem dX9_guess_38 : decode cX9_guess 38 = .ok (.if_icmp .ge 8, 3) := by decide +kernel
theorem dX9_guess_41 : decode cX9_guess 41 = .ok (.iload 4, 2) := by decide +kernel
theorem dX9_guess_43 : decode cX9_guess 43 = .ok (.goto 4, 3) := by decide +kernel
theorem dX9_guess_46 : decode cX9_guess 46 = .ok (.iload_n 2, 1) := by decide +kernel
theorem dX9_guess_47 : decode cX9_guess 47 = .ok (.istore_n 2, 1) := by decide +kernel
theorem dX9_guess_48 : decode cX9_guess 48 = .ok (.iinc 3 1, 3) := by decide +kernel
theorem dX9_guess_51 : decode cX9_guess 51 = .ok (.goto (-41), 3) := by decide +kernel
theorem dX9_guess_54 : decode cX9_guess 54 = .ok (.iload_n 1, 1) := by decide +kernel
theorem dX9_guess_55 : decode cX9_guess 55 = .ok (.ireturn, 1) := by decide +kernel
theorem dX9_type_0 : decode cX9_type 0 = .ok (.iload_n 1, 1) := by decide +kernel
theorem dX9_type_1 : decode cX9_type 1 = .ok (.bipush 32, 2) := by decide +kernel
theorem dX9_type_3 : decode cX9_type 3 = .ok (.bipush 126, 2) := by decide +kernel
theorem dX9_type_5 : decode cX9_type 5 = .ok (.invokestatic 130, 3) := by decide +kernel
theorem dX9_type_8 : decode cX9_type 8 = .ok (.ifCond .ne 5, 3) := by decide +kernel
theorem dX9_type_11 : decode cX9_type 11 = .ok (.iconst (-1), 1) := by decide +kernel
theorem dX9_type_12 : decode cX9_type 12 = .ok (.ireturn, 1) := by decide +kernel
theorem dX9_type_13 : decode cX9_type 13 = .ok (.aload_n 0, 1) := by decide +kernel
theorem dX9_type_14 : decode cX9_type 14 = .ok (.getfield 140, 3) := by decide +kernel
theorem dX9_type_17 : decode cX9_type 17 = .ok (.sipush 200, 3) := by decide +kernel
theorem dX9_type_20 : decode cX9_type 20 = .ok (.if_icmp .ne 6, 3) := by decide +kernel
theorem dX9_type_23 : decode cX9_type 23 = .ok (.bipush (-3), 2) := by decide +kernel
theorem dX9_type_25 : decode cX9_type 25 = .ok (.ireturn, 1) := by decide +kernel
theorem dX9_type_26 : decode cX9_type 26 = .ok (.aload_n 0, 1) := by decide +kernel
theorem dX9_type_27 : decode cX9_type 27 = .ok (.getfield 20, 3) := by decide +kernel
theorem dX9_type_30 : decode cX9_type 30 = .ok (.aload_n 0, 1) := by decide +kernel
theorem dX9_type_31 : decode cX9_type 31 = .ok (.getfield 140, 3) := by decide +kernel
theorem dX9_type_34 : decode cX9_type 34 = .ok (.iload_n 1, 1) := by decide +kernel
theorem dX9_type_35 : decode cX9_type 35 = .ok (.iastore, 1) := by decide +kernel
theorem dX9_type_36 : decode cX9_type 36 = .ok (.aload_n 0, 1) := by decide +kernel
theorem dX9_type_37 : decode cX9_type 37 = .ok (.dup, 1) := by decide +kernel
theorem dX9_type_38 : decode cX9_type 38 = .ok (.getfield 140, 3) := by decide +kernel
theorem dX9_type_41 : decode cX9_type 41 = .ok (.iconst 1, 1) := by decide +kernel
theorem dX9_type_42 : decode cX9_type 42 = .ok (.iadd, 1) := by decide +kernel
theorem dX9_type_43 : decode cX9_type 43 = .ok (.putfield 140, 3) := by decide +kernel
theorem dX9_type_46 : decode cX9_type 46 = .ok (.aload_n 0, 1) := by decide +kernel
theorem dX9_type_47 : decode cX9_type 47 = .ok (.getfield 140, 3) := by decide +kernel
theorem dX9_type_50 : decode cX9_type 50 = .ok (.ireturn, 1) := by decide +kernel
theorem dX9_remove_0 : decode cX9_remove 0 = .ok (.iload_n 1, 1) := by decide +kernel
theorem dX9_remove_1 : decode cX9_remove 1 = .ok (.ifCond .ge 5, 3) := by decide +kernel
theorem dX9_remove_4 : decode cX9_remove 4 = .ok (.iconst (-1), 1) := by decide +kernel
theorem dX9_remove_5 : decode cX9_remove 5 = .ok (.ireturn, 1) := by decide +kernel
theorem dX9_remove_6 : decode cX9_remove 6 = .ok (.aload_n 0, 1) := by decide +kernel
theorem dX9_remove_7 : decode cX9_remove 7 = .ok (.iload_n 1, 1) := by decide +kernel
theorem dX9_remove_8 : decode cX9_remove 8 = .ok (.aload_n 0, 1) := by decide +kernel
theorem dX9_remove_9 : decode cX9_remove 9 = .ok (.getfield 140, 3) := by decide +kernel
theorem dX9_remove_12 : decode cX9_remove 12 = .ok (.if_icmp .le 7, 3) := by decide +kernel
theorem dX9_remove_15 : decode cX9_remove 15 = .ok (.iconst 0, 1) := by decide +kernel
theorem dX9_remove_16 : decode cX9_remove 16 = .ok (.goto 9, 3) := by decide +kernel
theorem dX9_remove_19 : decode cX9_remove 19 = .ok (.aload_n 0, 1) := by decide +kernel
theorem dX9_remove_20 : decode cX9_remove 20 = .ok (.getfield 140, 3) := by decide +kernel
theorem dX9_remove_23 : decode cX9_remove 23 = .ok (.iload_n 1, 1) := by decide +kernel
theorem dX9_remove_24 : decode cX9_remove 24 = .ok (.isub, 1) := by decide +kernel
theorem dX9_remove_25 : decode cX9_remove 25 = .ok (.putfield 140, 3) := by decide +kernel
theorem dX9_remove_28 : decode cX9_remove 28 = .ok (.aload_n 0, 1) := by decide +kernel
theorem dX9_remove_29 : decode cX9_remove 29 = .ok (.getfield 140, 3) := by decide +kernel
theorem dX9_remove_32 : decode cX9_remove 32 = .ok (.ireturn, 1) := by decide +kernel
theorem dX9_checkOf_0 : decode cX9_checkOf 0 = .ok (.iconst 1, 1) := by decide +kernel
theorem dX9_checkOf_1 : decode cX9_checkOf 1 = .ok (.istore_n 2, 1) := by decide +kernel
theorem dX9_checkOf_2 : decode cX9_checkOf 2 = .ok (.iconst 0, 1) := by decide +kernel
theorem dX9_checkOf_3 : decode cX9_checkOf 3 = .ok (.istore_n 3, 1) := by decide +kernel
theorem dX9_checkOf_4 : decode cX9_checkOf 4 = .ok (.iload_n 3, 1) := by decide +kernel
theorem dX9_checkOf_5 : decode cX9_checkOf 5 = .ok (.iload_n 1, 1) := by decide +kernel
theorem dX9_checkOf_6 : decode cX9_checkOf 6 = .ok (.if_icmp .ge 21, 3) := by decide +kernel
theorem dX9_checkOf_9 : decode cX9_checkOf 9 = .ok (.bipush 31, 2) := by decide +kernel
theorem dX9_checkOf_11 : decode cX9_checkOf 11 = .ok (.iload_n 2, 1) := by decide +kernel
theorem dX9_checkOf_12 : decode cX9_checkOf 12 = .ok (.imul, 1) := by decide +kernel
theorem dX9_checkOf_13 : decode cX9_checkOf 13 = .ok (.aload_n 0, 1) := by decide +kernel
theorem dX9_checkOf_14 : decode cX9_checkOf 14 = .ok (.iload_n 3, 1) := by decide +kernel
theorem dX9_checkOf_15 : decode cX9_checkOf 15 = .ok (.iaload, 1) := by decide +kernel
theorem dX9_checkOf_16 : decode cX9_checkOf 16 = .ok (.iadd, 1) := by decide +kernel
theorem dX9_checkOf_17 : decode cX9_checkOf 17 = .ok (.ldc 156, 2) := by decide +kernel
theorem dX9_checkOf_19 : decode cX9_checkOf 19 = .ok (.irem, 1) := by decide +kernel
theorem dX9_checkOf_20 : decode cX9_checkOf 20 = .ok (.istore_n 2, 1) := by decide +kernel
theorem dX9_checkOf_21 : decode cX9_checkOf 21 = .ok (.iinc 3 1, 3) := by decide +kernel
theorem dX9_checkOf_24 : decode cX9_checkOf 24 = .ok (.goto (-20), 3) := by decide +kernel
theorem dX9_checkOf_27 : decode cX9_checkOf 27 = .ok (.iload_n 2, 1) := by decide +kernel
theorem dX9_checkOf_28 : decode cX9_checkOf 28 = .ok (.ireturn, 1) := by decide +kernel
theorem dX9_codesAll_0 : decode cX9_codesAll 0 = .ok (.aload_n 0, 1) := by decide +kernel
theorem dX9_codesAll_1 : decode cX9_codesAll 1 = .ok (.invokevirtual 157, 3) := by decide +kernel
theorem dX9_codesAll_4 : decode cX9_codesAll 4 = .ok (.aload_n 0, 1) := by decide +kernel
theorem dX9_codesAll_5 : decode cX9_codesAll 5 = .ok (.iconst 0, 1) := by decide +kernel
theorem dX9_codesAll_6 : decode cX9_codesAll 6 = .ok (.putfield 160, 3) := by decide +kernel
theorem dX9_codesAll_9 : decode cX9_codesAll 9 = .ok (.iconst 0, 1) := by decide +kernel
theorem dX9_codesAll_10 : decode cX9_codesAll 10 = .ok (.istore_n 3, 1) := by decide +kernel
theorem dX9_codesAll_11 : decode cX9_codesAll 11 = .ok (.iload_n 3, 1) := by decide +kernel
theorem dX9_codesAll_12 : decode cX9_codesAll 12 = .ok (.iload_n 2, 1) := by decide +kernel
theorem dX9_codesAll_13 : decode cX9_codesAll 13 = .ok (.if_icmp .gt 104, 3) := by decide +kernel
theorem dX9_codesAll_16 : decode cX9_codesAll 16 = .ok (.aload_n 0, 1) := by decide +kernel
theorem dX9_codesAll_17 : decode cX9_codesAll 17 = .ok (.aload_n 1, 1) := by decide +kernel
theorem dX9_codesAll_18 : decode cX9_codesAll 18 = .ok (.iload_n 2, 1) := by decide +kernel
theorem dX9_codesAll_19 : decode cX9_codesAll 19 = .ok (.iload_n 3, 1) := by decide +kernel
theorem dX9_codesAll_20 : decode cX9_codesAll 20 = .ok (.invokevirtual 143, 3) := by decide +kernel
theorem dX9_codesAll_23 : decode cX9_codesAll 23 = .ok (.istore 4, 2) := by decide +kernel
theorem dX9_codesAll_25 : decode cX9_codesAll 25 = .ok (.aload_n 0, 1) := by decide +kernel
theorem dX9_codesAll_26 : decode cX9_codesAll 26 = .ok (.iconst 1, 1) := by decide +kernel
theorem dX9_codesAll_27 : decode cX9_codesAll 27 = .ok (.putfield 99, 3) := by decide +kernel
theorem dX9_codesAll_30 : decode cX9_codesAll 30 = .ok (.aload_n 0, 1) := by decide +kernel
theorem dX9_codesAll_31 : decode cX9_codesAll 31 = .ok (.aload_n 1, 1) := by decide +kernel
theorem dX9_codesAll_32 : decode cX9_codesAll 32 = .ok (.iload_n 3, 1) := by decide +kernel
theorem dX9_codesAll_33 : decode cX9_codesAll 33 = .ok (.iload 4, 2) := by decide +kernel
theorem dX9_codesAll_35 : decode cX9_codesAll 35 = .ok (.invokevirtual 150, 3) := by decide +kernel
theorem dX9_codesAll_38 : decode cX9_codesAll 38 = .ok (.aload_n 0, 1) := by decide +kernel
theorem dX9_codesAll_39 : decode cX9_codesAll 39 = .ok (.getfield 30, 3) := by decide +kernel
theorem dX9_codesAll_42 : decode cX9_codesAll 42 = .ok (.iconst 4, 1) := by decide +kernel
theorem dX9_codesAll_43 : decode cX9_codesAll 43 = .ok (.iload_n 3, 1) := by decide +kernel
theorem dX9_codesAll_44 : decode cX9_codesAll 44 = .ok (.imul, 1) := by decide +kernel
theorem dX9_codesAll_45 : decode cX9_codesAll 45 = .ok (.aload_n 0, 1) := by decide +kernel
theorem dX9_codesAll_46 : decode cX9_codesAll 46 = .ok (.getfield 93, 3) := by decide +kernel
theorem dX9_codesAll_49 : decode cX9_codesAll 49 = .ok (.iastore, 1) := by decide +kernel
theorem dX9_codesAll_50 : decode cX9_codesAll 50 = .ok (.aload_n 0, 1) := by decide +kernel
theorem dX9_codesAll_51 : decode cX9_codesAll 51 = .ok (.getfield 30, 3) := by decide +kernel
theorem dX9_codesAll_54 : decode cX9_codesAll 54 = .ok (.iconst 4, 1) := by decide +kernel
theorem dX9_codesAll_55 : decode cX9_codesAll 55 = .ok (.iload_n 3, 1) := by decide +kernel
theorem dX9_codesAll_56 : decode cX9_codesAll 56 = .ok (.imul, 1) := by decide +kernel
theorem dX9_codesAll_57 : decode cX9_codesAll 57 = .ok (.iconst 1, 1) := by decide +kernel
theorem dX9_codesAll_58 : decode cX9_codesAll 58 = .ok (.iadd, 1) := by decide +kernel
theorem dX9_codesAll_59 : decode cX9_codesAll 59 = .ok (.aload_n 0, 1) := by decide +kernel
theorem dX9_codesAll_60 : decode cX9_codesAll 60 = .ok (.getfield 107, 3) := by decide +kernel
theorem dX9_codesAll_63 : decode cX9_codesAll 63 = .ok (.iastore, 1) := by decide +kernel
theorem dX9_codesAll_64 : decode cX9_codesAll 64 = .ok (.aload_n 0, 1) := by decide +kernel
theorem dX9_codesAll_65 : decode cX9_codesAll 65 = .ok (.getfield 30, 3) := by decide +kernel
theorem dX9_codesAll_68 : decode cX9_codesAll 68 = .ok (.iconst 4, 1) := by decide +kernel
theorem dX9_codesAll_69 : decode cX9_codesAll 69 = .ok (.iload_n 3, 1) := by decide +kernel
theorem dX9_codesAll_70 : decode cX9_codesAll 70 = .ok (.imul, 1) := by decide +kernel
theorem dX9_codesAll_71 : decode cX9_codesAll 71 = .ok (.iconst 2, 1) := by decide +kernel
theorem dX9_codesAll_72 : decode cX9_codesAll 72 = .ok (.iadd, 1) := by decide +kernel
theorem dX9_codesAll_73 : decode cX9_codesAll 73 = .ok (.aload_n 0, 1) := by decide +kernel
theorem dX9_codesAll_74 : decode cX9_codesAll 74 = .ok (.getfield 110, 3) := by decide +kernel
theorem dX9_codesAll_77 : decode cX9_codesAll 77 = .ok (.iastore, 1) := by decide +kernel
theorem dX9_codesAll_78 : decode cX9_codesAll 78 = .ok (.aload_n 0, 1) := by decide +kernel
theorem dX9_codesAll_79 : decode cX9_codesAll 79 = .ok (.getfield 30, 3) := by decide +kernel
theorem dX9_codesAll_82 : decode cX9_codesAll 82 = .ok (.iconst 4, 1) := by decide +kernel
theorem dX9_codesAll_83 : decode cX9_codesAll 83 = .ok (.iload_n 3, 1) := by decide +kernel
theorem dX9_codesAll_84 : decode cX9_codesAll 84 = .ok (.imul, 1) := by decide +kernel
theorem dX9_codesAll_85 : decode cX9_codesAll 85 = .ok (.iconst 3, 1) := by decide +kernel
theorem dX9_codesAll_86 : decode cX9_codesAll 86 = .ok (.iadd, 1) := by decide +kernel
theorem dX9_codesAll_87 : decode cX9_codesAll 87 = .ok (.iload 4, 2) := by decide +kernel
theorem dX9_codesAll_89 : decode cX9_codesAll 89 = .ok (.iastore, 1) := by decide +kernel
theorem dX9_codesAll_90 : decode cX9_codesAll 90 = .ok (.aload_n 0, 1) := by decide +kernel
theorem dX9_codesAll_91 : decode cX9_codesAll 91 = .ok (.dup, 1) := by decide +kernel
theorem dX9_codesAll_92 : decode cX9_codesAll 92 = .ok (.getfield 160, 3) := by decide +kernel
theorem dX9_codesAll_95 : decode cX9_codesAll 95 = .ok (.aload_n 0, 1) := by decide +kernel
theorem dX9_codesAll_96 : decode cX9_codesAll 96 = .ok (.getfield 93, 3) := by decide +kernel
theorem dX9_codesAll_99 : decode cX9_codesAll 99 = .ok (.iadd, 1) := by decide +kernel
theorem dX9_codesAll_100 : decode cX9_codesAll 100 = .ok (.putfield 160, 3) := by decide +kernel
theorem dX9_codesAll_103 : decode cX9_codesAll 103 = .ok (.aload_n 0, 1) := by decide +kernel
theorem dX9_codesAll_104 : decode cX9_codesAll 104 = .ok (.aload_n 1, 1) := by decide +kernel
theorem dX9_codesAll_105 : decode cX9_codesAll 105 = .ok (.iload_n 3, 1) := by decide +kernel
theorem dX9_codesAll_106 : decode cX9_codesAll 106 = .ok (.iload 4, 2) := by decide +kernel
theorem dX9_codesAll_108 : decode cX9_codesAll 108 = .ok (.invokevirtual 146, 3) := by decide +kernel
theorem dX9_codesAll_111 : decode cX9_codesAll 111 = .ok (.iinc 3 1, 3) := by decide +kernel
theorem dX9_codesAll_114 : decode cX9_codesAll 114 = .ok (.goto (-103), 3) := by decide +kernel
theorem dX9_codesAll_117 : decode cX9_codesAll 117 = .ok (.aload_n 1, 1) := by decide +kernel
theorem dX9_codesAll_118 : decode cX9_codesAll 118 = .ok (.iload_n 2, 1) := by decide +kernel
theorem dX9_codesAll_119 : decode cX9_codesAll 119 = .ok (.invokestatic 163, 3) := by decide +kernel
theorem dX9_codesAll_122 : decode cX9_codesAll 122 = .ok (.istore_n 3, 1) := by decide +kernel
theorem dX9_codesAll_123 : decode cX9_codesAll 123 = .ok (.aload_n 0, 1) := by decide +kernel
theorem dX9_codesAll_124 : decode cX9_codesAll 124 = .ok (.iload_n 3, 1) := by decide +kernel
theorem dX9_codesAll_125 : decode cX9_codesAll 125 = .ok (.i2l, 1) := by decide +kernel
theorem dX9_codesAll_126 : decode cX9_codesAll 126 = .ok (.iload_n 3, 1) := by decide +kernel
theorem dX9_codesAll_127 : decode cX9_codesAll 127 = .ok (.iconst 1, 1) := by decide +kernel
theorem dX9_codesAll_128 : decode cX9_codesAll 128 = .ok (.iadd, 1) := by decide +kernel
theorem dX9_codesAll_129 : decode cX9_codesAll 129 = .ok (.i2l, 1) := by decide +kernel
theorem dX9_codesAll_130 : decode cX9_codesAll 130 = .ok (.ldc2_w 167, 3) := by decide +kernel
theorem dX9_codesAll_133 : decode cX9_codesAll 133 = .ok (.invokevirtual 103, 3) := by decide +kernel
theorem dX9_codesAll_136 : decode cX9_codesAll 136 = .ok (.aload_n 0, 1) := by decide +kernel
theorem dX9_codesAll_137 : decode cX9_codesAll 137 = .ok (.invokevirtual 169, 3) := by decide +kernel
theorem dX9_codesAll_140 : decode cX9_codesAll 140 = .ok (.return_, 1) := by decide +kernel
theorem dX9_encode_0 : decode cX9_encode 0 = .ok (.aload_n 0, 1) := by decide +kernel
theorem dX9_encode_1 : decode cX9_encode 1 = .ok (.getfield 7, 3) := by decide +kernel
theorem dX9_encode_4 : decode cX9_encode 4 = .ok (.aload_n 0, 1) := by decide +kernel
theorem dX9_encode_5 : decode cX9_encode 5 = .ok (.getfield 13, 3) := by decide +kernel
theorem dX9_encode_8 : decode cX9_encode 8 = .ok (.invokestatic 172, 3) := by decide +kernel
theorem dX9_encode_11 : decode cX9_encode 11 = .ok (.aload_n 0, 1) := by decide +kernel
theorem dX9_encode_12 : decode cX9_encode 12 = .ok (.aload_n 0, 1) := by decide +kernel
theorem dX9_encode_13 : decode cX9_encode 13 = .ok (.getfield 20, 3) := by decide +kernel
theorem dX9_encode_16 : decode cX9_encode 16 = .ok (.aload_n 0, 1) := by decide +kernel
theorem dX9_encode_17 : decode cX9_encode 17 = .ok (.getfield 140, 3) := by decide +kernel
theorem dX9_encode_20 : decode cX9_encode 20 = .ok (.invokevirtual 176, 3) := by decide +kernel
theorem dX9_encode_23 : decode cX9_encode 23 = .ok (.aload_n 0, 1) := by decide +kernel
theorem dX9_encode_24 : decode cX9_encode 24 = .ok (.getfield 73, 3) := by decide +kernel
theorem dX9_encode_27 : decode cX9_encode 27 = .ok (.sipush 400, 3) := by decide +kernel
theorem dX9_encode_30 : decode cX9_encode 30 = .ok (.if_icmp .le 17, 3) := by decide +kernel
theorem dX9_encode_33 : decode cX9_encode 33 = .ok (.aload_n 0, 1) := by decide +kernel
theorem dX9_encode_34 : decode cX9_encode 34 = .ok (.getfield 13, 3) := by decide +kernel
theorem dX9_encode_37 : decode cX9_encode 37 = .ok (.aload_n 0, 1) := by decide +kernel
theorem dX9_encode_38 : decode cX9_encode 38 = .ok (.getfield 7, 3) := by decide +kernel
theorem dX9_encode_41 : decode cX9_encode 41 = .ok (.invokestatic 172, 3) := by decide +kernel
theorem dX9_encode_44 : decode cX9_encode 44 = .ok (.bipush (-3), 2) := by decide +kernel
theorem dX9_encode_46 : decode cX9_encode 46 = .ok (.ireturn, 1) := by decide +kernel
theorem dX9_encode_47 : decode cX9_encode 47 = .ok (.aload_n 0, 1) := by decide +kernel
theorem dX9_encode_48 : decode cX9_encode 48 = .ok (.aload_n 0, 1) := by decide +kernel
theorem dX9_encode_49 : decode cX9_encode 49 = .ok (.getfield 13, 3) := by decide +kernel
theorem dX9_encode_52 : decode cX9_encode 52 = .ok (.invokevirtual 41, 3) := by decide +kernel
theorem dX9_encode_55 : decode cX9_encode 55 = .ok (.iconst 0, 1) := by decide +kernel
theorem dX9_encode_56 : decode cX9_encode 56 = .ok (.istore_n 1, 1) := by decide +kernel
theorem dX9_encode_57 : decode cX9_encode 57 = .ok (.iload_n 1, 1) := by decide +kernel
