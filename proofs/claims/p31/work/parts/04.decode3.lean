theorem dX8_flip_19 : decode cX8_flip 19 = .ok (.bipush 7, 2) := by decide +kernel
theorem dX8_flip_21 : decode cX8_flip 21 = .ok (.if_icmp .le 5, 3) := by decide +kernel
theorem dX8_flip_24 : decode cX8_flip 24 = .ok (.iconst (-1), 1) := by decide +kernel
theorem dX8_flip_25 : decode cX8_flip 25 = .ok (.ireturn, 1) := by decide +kernel
theorem dX8_flip_26 : decode cX8_flip 26 = .ok (.aload_n 0, 1) := by decide +kernel
theorem dX8_flip_27 : decode cX8_flip 27 = .ok (.invokevirtual 82, 3) := by decide +kernel
theorem dX8_flip_30 : decode cX8_flip 30 = .ok (.aload_n 0, 1) := by decide +kernel
theorem dX8_flip_31 : decode cX8_flip 31 = .ok (.getfield 12, 3) := by decide +kernel
theorem dX8_flip_34 : decode cX8_flip 34 = .ok (.getfield 161, 3) := by decide +kernel
theorem dX8_flip_37 : decode cX8_flip 37 = .ok (.iload_n 1, 1) := by decide +kernel
theorem dX8_flip_38 : decode cX8_flip 38 = .ok (.aload_n 0, 1) := by decide +kernel
theorem dX8_flip_39 : decode cX8_flip 39 = .ok (.getfield 12, 3) := by decide +kernel
theorem dX8_flip_42 : decode cX8_flip 42 = .ok (.getfield 161, 3) := by decide +kernel
theorem dX8_flip_45 : decode cX8_flip 45 = .ok (.iload_n 1, 1) := by decide +kernel
theorem dX8_flip_46 : decode cX8_flip 46 = .ok (.invokevirtual 105, 3) := by decide +kernel
theorem dX8_flip_49 : decode cX8_flip 49 = .ok (.iconst 1, 1) := by decide +kernel
theorem dX8_flip_50 : decode cX8_flip 50 = .ok (.iload_n 2, 1) := by decide +kernel
theorem dX8_flip_51 : decode cX8_flip 51 = .ok (.ishl, 1) := by decide +kernel
theorem dX8_flip_52 : decode cX8_flip 52 = .ok (.ixor, 1) := by decide +kernel
theorem dX8_flip_53 : decode cX8_flip 53 = .ok (.invokevirtual 183, 3) := by decide +kernel
theorem dX8_flip_56 : decode cX8_flip 56 = .ok (.aload_n 0, 1) := by decide +kernel
theorem dX8_flip_57 : decode cX8_flip 57 = .ok (.getfield 12, 3) := by decide +kernel
theorem dX8_flip_60 : decode cX8_flip 60 = .ok (.getfield 161, 3) := by decide +kernel
theorem dX8_flip_63 : decode cX8_flip 63 = .ok (.iload_n 1, 1) := by decide +kernel
theorem dX8_flip_64 : decode cX8_flip 64 = .ok (.invokevirtual 105, 3) := by decide +kernel
theorem dX8_flip_67 : decode cX8_flip 67 = .ok (.ireturn, 1) := by decide +kernel
theorem dX8_cut_0 : decode cX8_cut 0 = .ok (.iload_n 1, 1) := by decide +kernel
theorem dX8_cut_1 : decode cX8_cut 1 = .ok (.iconst 1, 1) := by decide +kernel
theorem dX8_cut_2 : decode cX8_cut 2 = .ok (.if_icmp .lt 10, 3) := by decide +kernel
theorem dX8_cut_5 : decode cX8_cut 5 = .ok (.iload_n 1, 1) := by decide +kernel
theorem dX8_cut_6 : decode cX8_cut 6 = .ok (.sipush 400, 3) := by decide +kernel
theorem dX8_cut_9 : decode cX8_cut 9 = .ok (.if_icmp .le 5, 3) := by decide +kernel
theorem dX8_cut_12 : decode cX8_cut 12 = .ok (.iconst (-1), 1) := by decide +kernel
theorem dX8_cut_13 : decode cX8_cut 13 = .ok (.ireturn, 1) := by decide +kernel
theorem dX8_cut_14 : decode cX8_cut 14 = .ok (.iload_n 1, 1) := by decide +kernel
theorem dX8_cut_15 : decode cX8_cut 15 = .ok (.aload_n 0, 1) := by decide +kernel
theorem dX8_cut_16 : decode cX8_cut 16 = .ok (.getfield 12, 3) := by decide +kernel
theorem dX8_cut_19 : decode cX8_cut 19 = .ok (.getfield 161, 3) := by decide +kernel
theorem dX8_cut_22 : decode cX8_cut 22 = .ok (.getfield 102, 3) := by decide +kernel
theorem dX8_cut_25 : decode cX8_cut 25 = .ok (.if_icmp .le 6, 3) := by decide +kernel
theorem dX8_cut_28 : decode cX8_cut 28 = .ok (.bipush (-2), 2) := by decide +kernel
theorem dX8_cut_30 : decode cX8_cut 30 = .ok (.ireturn, 1) := by decide +kernel
theorem dX8_cut_31 : decode cX8_cut 31 = .ok (.aload_n 0, 1) := by decide +kernel
theorem dX8_cut_32 : decode cX8_cut 32 = .ok (.invokevirtual 82, 3) := by decide +kernel
theorem dX8_cut_35 : decode cX8_cut 35 = .ok (.aload_n 0, 1) := by decide +kernel
theorem dX8_cut_36 : decode cX8_cut 36 = .ok (.getfield 12, 3) := by decide +kernel
theorem dX8_cut_39 : decode cX8_cut 39 = .ok (.getfield 161, 3) := by decide +kernel
theorem dX8_cut_42 : decode cX8_cut 42 = .ok (.iload_n 1, 1) := by decide +kernel
theorem dX8_cut_43 : decode cX8_cut 43 = .ok (.invokevirtual 138, 3) := by decide +kernel
theorem dX8_cut_46 : decode cX8_cut 46 = .ok (.aload_n 0, 1) := by decide +kernel
theorem dX8_cut_47 : decode cX8_cut 47 = .ok (.getfield 12, 3) := by decide +kernel
theorem dX8_cut_50 : decode cX8_cut 50 = .ok (.getfield 161, 3) := by decide +kernel
theorem dX8_cut_53 : decode cX8_cut 53 = .ok (.getfield 102, 3) := by decide +kernel
theorem dX8_cut_56 : decode cX8_cut 56 = .ok (.ireturn, 1) := by decide +kernel
theorem dX8_append_0 : decode cX8_append 0 = .ok (.iload_n 1, 1) := by decide +kernel
theorem dX8_append_1 : decode cX8_append 1 = .ok (.ifCond .lt 10, 3) := by decide +kernel
theorem dX8_append_4 : decode cX8_append 4 = .ok (.iload_n 1, 1) := by decide +kernel
theorem dX8_append_5 : decode cX8_append 5 = .ok (.sipush 255, 3) := by decide +kernel
theorem dX8_append_8 : decode cX8_append 8 = .ok (.if_icmp .le 5, 3) := by decide +kernel
theorem dX8_append_11 : decode cX8_append 11 = .ok (.iconst (-1), 1) := by decide +kernel
theorem dX8_append_12 : decode cX8_append 12 = .ok (.ireturn, 1) := by decide +kernel
theorem dX8_append_13 : decode cX8_append 13 = .ok (.aload_n 0, 1) := by decide +kernel
theorem dX8_append_14 : decode cX8_append 14 = .ok (.getfield 12, 3) := by decide +kernel
theorem dX8_append_17 : decode cX8_append 17 = .ok (.getfield 161, 3) := by decide +kernel
theorem dX8_append_20 : decode cX8_append 20 = .ok (.getfield 102, 3) := by decide +kernel
theorem dX8_append_23 : decode cX8_append 23 = .ok (.sipush 400, 3) := by decide +kernel
theorem dX8_append_26 : decode cX8_append 26 = .ok (.if_icmp .lt 6, 3) := by decide +kernel
theorem dX8_append_29 : decode cX8_append 29 = .ok (.bipush (-3), 2) := by decide +kernel
theorem dX8_append_31 : decode cX8_append 31 = .ok (.ireturn, 1) := by decide +kernel
theorem dX8_append_32 : decode cX8_append 32 = .ok (.aload_n 0, 1) := by decide +kernel
theorem dX8_append_33 : decode cX8_append 33 = .ok (.invokevirtual 82, 3) := by decide +kernel
theorem dX8_append_36 : decode cX8_append 36 = .ok (.aload_n 0, 1) := by decide +kernel
theorem dX8_append_37 : decode cX8_append 37 = .ok (.getfield 12, 3) := by decide +kernel
theorem dX8_append_40 : decode cX8_append 40 = .ok (.getfield 161, 3) := by decide +kernel
theorem dX8_append_43 : decode cX8_append 43 = .ok (.iload_n 1, 1) := by decide +kernel
theorem dX8_append_44 : decode cX8_append 44 = .ok (.invokevirtual 135, 3) := by decide +kernel
theorem dX8_append_47 : decode cX8_append 47 = .ok (.aload_n 0, 1) := by decide +kernel
theorem dX8_append_48 : decode cX8_append 48 = .ok (.getfield 12, 3) := by decide +kernel
theorem dX8_append_51 : decode cX8_append 51 = .ok (.getfield 161, 3) := by decide +kernel
theorem dX8_append_54 : decode cX8_append 54 = .ok (.getfield 102, 3) := by decide +kernel
theorem dX8_append_57 : decode cX8_append 57 = .ok (.ireturn, 1) := by decide +kernel
theorem dX8_coded_0 : decode cX8_coded 0 = .ok (.aload_n 0, 1) := by decide +kernel
theorem dX8_coded_1 : decode cX8_coded 1 = .ok (.getfield 12, 3) := by decide +kernel
theorem dX8_coded_4 : decode cX8_coded 4 = .ok (.getfield 152, 3) := by decide +kernel
theorem dX8_coded_7 : decode cX8_coded 7 = .ok (.getfield 187, 3) := by decide +kernel
theorem dX8_coded_10 : decode cX8_coded 10 = .ok (.getfield 102, 3) := by decide +kernel
theorem dX8_coded_13 : decode cX8_coded 13 = .ok (.ireturn, 1) := by decide +kernel
theorem dX8_account_0 : decode cX8_account 0 = .ok (.aload_n 0, 1) := by decide +kernel
theorem dX8_account_1 : decode cX8_account 1 = .ok (.getfield 12, 3) := by decide +kernel
theorem dX8_account_4 : decode cX8_account 4 = .ok (.getfield 152, 3) := by decide +kernel
theorem dX8_account_7 : decode cX8_account 7 = .ok (.getfield 187, 3) := by decide +kernel
theorem dX8_account_10 : decode cX8_account 10 = .ok (.iload_n 1, 1) := by decide +kernel
theorem dX8_account_11 : decode cX8_account 11 = .ok (.invokevirtual 166, 3) := by decide +kernel
theorem dX8_account_14 : decode cX8_account 14 = .ok (.ifCond .ne 5, 3) := by decide +kernel
theorem dX8_account_17 : decode cX8_account 17 = .ok (.iconst (-1), 1) := by decide +kernel
theorem dX8_account_18 : decode cX8_account 18 = .ok (.ireturn, 1) := by decide +kernel
theorem dX8_account_19 : decode cX8_account 19 = .ok (.iload_n 2, 1) := by decide +kernel
theorem dX8_account_20 : decode cX8_account 20 = .ok (.tableswitch 92 0 3 #[32, 47, 62, 77], 32) := by decide +kernel
theorem dX8_account_52 : decode cX8_account 52 = .ok (.aload_n 0, 1) := by decide +kernel
theorem dX8_account_53 : decode cX8_account 53 = .ok (.getfield 12, 3) := by decide +kernel
theorem dX8_account_56 : decode cX8_account 56 = .ok (.getfield 152, 3) := by decide +kernel
theorem dX8_account_59 : decode cX8_account 59 = .ok (.getfield 190, 3) := by decide +kernel
theorem dX8_account_62 : decode cX8_account 62 = .ok (.iload_n 1, 1) := by decide +kernel
theorem dX8_account_63 : decode cX8_account 63 = .ok (.invokevirtual 105, 3) := by decide +kernel
theorem dX8_account_66 : decode cX8_account 66 = .ok (.ireturn, 1) := by decide +kernel
theorem dX8_account_67 : decode cX8_account 67 = .ok (.aload_n 0, 1) := by decide +kernel
theorem dX8_account_68 : decode cX8_account 68 = .ok (.getfield 12, 3) := by decide +kernel
theorem dX8_account_71 : decode cX8_account 71 = .ok (.getfield 152, 3) := by decide +kernel
theorem dX8_account_74 : decode cX8_account 74 = .ok (.getfield 193, 3) := by decide +kernel
theorem dX8_account_77 : decode cX8_account 77 = .ok (.iload_n 1, 1) := by decide +kernel
theorem dX8_account_78 : decode cX8_account 78 = .ok (.invokevirtual 105, 3) := by decide +kernel
theorem dX8_account_81 : decode cX8_account 81 = .ok (.ireturn, 1) := by decide +kernel
theorem dX8_account_82 : decode cX8_account 82 = .ok (.aload_n 0, 1) := by decide +kernel
theorem dX8_account_83 : decode cX8_account 83 = .ok (.getfield 12, 3) := by decide +kernel
theorem dX8_account_86 : decode cX8_account 86 = .ok (.getfield 152, 3) := by decide +kernel
theorem dX8_account_89 : decode cX8_account 89 = .ok (.getfield 196, 3) := by decide +kernel
theorem dX8_account_92 : decode cX8_account 92 = .ok (.iload_n 1, 1) := by decide +kernel
theorem dX8_account_93 : decode cX8_account 93 = .ok (.invokevirtual 105, 3) := by decide +kernel
theorem dX8_account_96 : decode cX8_account 96 = .ok (.ireturn, 1) := by decide +kernel
theorem dX8_account_97 : decode cX8_account 97 = .ok (.aload_n 0, 1) := by decide +kernel
theorem dX8_account_98 : decode cX8_account 98 = .ok (.getfield 12, 3) := by decide +kernel
theorem dX8_account_101 : decode cX8_account 101 = .ok (.getfield 152, 3) := by decide +kernel
theorem dX8_account_104 : decode cX8_account 104 = .ok (.getfield 187, 3) := by decide +kernel
theorem dX8_account_107 : decode cX8_account 107 = .ok (.iload_n 1, 1) := by decide +kernel
theorem dX8_account_108 : decode cX8_account 108 = .ok (.invokevirtual 105, 3) := by decide +kernel
theorem dX8_account_111 : decode cX8_account 111 = .ok (.ireturn, 1) := by decide +kernel
theorem dX8_account_112 : decode cX8_account 112 = .ok (.iconst (-1), 1) := by decide +kernel
theorem dX8_account_113 : decode cX8_account 113 = .ok (.ireturn, 1) := by decide +kernel
theorem dX8_cost_0 : decode cX8_cost 0 = .ok (.iconst 0, 1) := by decide +kernel
theorem dX8_cost_1 : decode cX8_cost 1 = .ok (.istore_n 1, 1) := by decide +kernel
theorem dX8_cost_2 : decode cX8_cost 2 = .ok (.iconst 0, 1) := by decide +kernel
theorem dX8_cost_3 : decode cX8_cost 3 = .ok (.istore_n 2, 1) := by decide +kernel
theorem dX8_cost_4 : decode cX8_cost 4 = .ok (.iload_n 2, 1) := by decide +kernel
theorem dX8_cost_5 : decode cX8_cost 5 = .ok (.aload_n 0, 1) := by decide +kernel
theorem dX8_cost_6 : decode cX8_cost 6 = .ok (.getfield 12, 3) := by decide +kernel
theorem dX8_cost_9 : decode cX8_cost 9 = .ok (.getfield 152, 3) := by decide +kernel
theorem dX8_cost_12 : decode cX8_cost 12 = .ok (.getfield 190, 3) := by decide +kernel
theorem dX8_cost_15 : decode cX8_cost 15 = .ok (.getfield 102, 3) := by decide +kernel
theorem dX8_cost_18 : decode cX8_cost 18 = .ok (.if_icmp .ge 26, 3) := by decide +kernel
theorem dX8_cost_21 : decode cX8_cost 21 = .ok (.iload_n 1, 1) := by decide +kernel
theorem dX8_cost_22 : decode cX8_cost 22 = .ok (.aload_n 0, 1) := by decide +kernel
theorem dX8_cost_23 : decode cX8_cost 23 = .ok (.getfield 12, 3) := by decide +kernel
theorem dX8_cost_26 : decode cX8_cost 26 = .ok (.getfield 152, 3) := by decide +kernel
theorem dX8_cost_29 : decode cX8_cost 29 = .ok (.getfield 190, 3) := by decide +kernel
theorem dX8_cost_32 : decode cX8_cost 32 = .ok (.iload_n 2, 1) := by decide +kernel
theorem dX8_cost_33 : decode cX8_cost 33 = .ok (.invokevirtual 105, 3) := by decide +kernel
theorem dX8_cost_36 : decode cX8_cost 36 = .ok (.iadd, 1) := by decide +kernel
theorem dX8_cost_37 : decode cX8_cost 37 = .ok (.istore_n 1, 1) := by decide +kernel
theorem dX8_cost_38 : decode cX8_cost 38 = .ok (.iinc 2 1, 3) := by decide +kernel
theorem dX8_cost_41 : decode cX8_cost 41 = .ok (.goto (-37), 3) := by decide +kernel
theorem dX8_cost_44 : decode cX8_cost 44 = .ok (.iload_n 1, 1) := by decide +kernel
theorem dX8_cost_45 : decode cX8_cost 45 = .ok (.ireturn, 1) := by decide +kernel
theorem dX8_lg_0 : decode cX8_lg 0 = .ok (.iload_n 2, 1) := by decide +kernel
theorem dX8_lg_1 : decode cX8_lg 1 = .ok (.iconst 1, 1) := by decide +kernel
theorem dX8_lg_2 : decode cX8_lg 2 = .ok (.if_icmp .lt 19, 3) := by decide +kernel
theorem dX8_lg_5 : decode cX8_lg 5 = .ok (.iload_n 2, 1) := by decide +kernel
theorem dX8_lg_6 : decode cX8_lg 6 = .ok (.ldc 199, 2) := by decide +kernel
theorem dX8_lg_8 : decode cX8_lg 8 = .ok (.if_icmp .gt 13, 3) := by decide +kernel
theorem dX8_lg_11 : decode cX8_lg 11 = .ok (.iload_n 1, 1) := by decide +kernel
theorem dX8_lg_12 : decode cX8_lg 12 = .ok (.iconst 1, 1) := by decide +kernel
theorem dX8_lg_13 : decode cX8_lg 13 = .ok (.if_icmp .lt 8, 3) := by decide +kernel
theorem dX8_lg_16 : decode cX8_lg 16 = .ok (.iload_n 1, 1) := by decide +kernel
theorem dX8_lg_17 : decode cX8_lg 17 = .ok (.iload_n 2, 1) := by decide +kernel
theorem dX8_lg_18 : decode cX8_lg 18 = .ok (.if_icmp .le 5, 3) := by decide +kernel
theorem dX8_lg_21 : decode cX8_lg 21 = .ok (.iconst (-1), 1) := by decide +kernel
theorem dX8_lg_22 : decode cX8_lg 22 = .ok (.ireturn, 1) := by decide +kernel
theorem dX8_lg_23 : decode cX8_lg 23 = .ok (.iload_n 1, 1) := by decide +kernel
theorem dX8_lg_24 : decode cX8_lg 24 = .ok (.iload_n 2, 1) := by decide +kernel
theorem dX8_lg_25 : decode cX8_lg 25 = .ok (.invokestatic 200, 3) := by decide +kernel
theorem dX8_lg_28 : decode cX8_lg 28 = .ok (.ireturn, 1) := by decide +kernel
theorem dX8_undo_0 : decode cX8_undo 0 = .ok (.aload_n 0, 1) := by decide +kernel
theorem dX8_undo_1 : decode cX8_undo 1 = .ok (.getfield 23, 3) := by decide +kernel
theorem dX8_undo_4 : decode cX8_undo 4 = .ok (.iconst 1, 1) := by decide +kernel
theorem dX8_undo_5 : decode cX8_undo 5 = .ok (.if_icmp .lt 15, 3) := by decide +kernel
theorem dX8_undo_8 : decode cX8_undo 8 = .ok (.aload_n 0, 1) := by decide +kernel
theorem dX8_undo_9 : decode cX8_undo 9 = .ok (.getfield 23, 3) := by decide +kernel
theorem dX8_undo_12 : decode cX8_undo 12 = .ok (.aload_n 0, 1) := by decide +kernel
theorem dX8_undo_13 : decode cX8_undo 13 = .ok (.getfield 19, 3) := by decide +kernel
theorem dX8_undo_16 : decode cX8_undo 16 = .ok (.arraylength, 1) := by decide +kernel
theorem dX8_undo_17 : decode cX8_undo 17 = .ok (.if_icmp .le 6, 3) := by decide +kernel
theorem dX8_undo_20 : decode cX8_undo 20 = .ok (.bipush (-9), 2) := by decide +kernel
theorem dX8_undo_22 : decode cX8_undo 22 = .ok (.ireturn, 1) := by decide +kernel
theorem dX8_undo_23 : decode cX8_undo 23 = .ok (.aload_n 0, 1) := by decide +kernel
theorem dX8_undo_24 : decode cX8_undo 24 = .ok (.getfield 19, 3) := by decide +kernel
theorem dX8_undo_27 : decode cX8_undo 27 = .ok (.aload_n 0, 1) := by decide +kernel
theorem dX8_undo_28 : decode cX8_undo 28 = .ok (.getfield 23, 3) := by decide +kernel
theorem dX8_undo_31 : decode cX8_undo 31 = .ok (.iconst 1, 1) := by decide +kernel
theorem dX8_undo_32 : decode cX8_undo 32 = .ok (.isub, 1) := by decide +kernel
theorem dX8_undo_33 : decode cX8_undo 33 = .ok (.aaload, 1) := by decide +kernel
theorem dX8_undo_34 : decode cX8_undo 34 = .ok (.astore_n 1, 1) := by decide +kernel
theorem dX8_undo_35 : decode cX8_undo 35 = .ok (.aload_n 1, 1) := by decide +kernel
theorem dX8_undo_36 : decode cX8_undo 36 = .ok (.ifnonnull 6, 3) := by decide +kernel
theorem dX8_undo_39 : decode cX8_undo 39 = .ok (.bipush (-9), 2) := by decide +kernel
theorem dX8_undo_41 : decode cX8_undo 41 = .ok (.ireturn, 1) := by decide +kernel
theorem dX8_undo_42 : decode cX8_undo 42 = .ok (.aload_n 0, 1) := by decide +kernel
theorem dX8_undo_43 : decode cX8_undo 43 = .ok (.getfield 12, 3) := by decide +kernel
theorem dX8_undo_46 : decode cX8_undo 46 = .ok (.aload_n 1, 1) := by decide +kernel
theorem dX8_undo_47 : decode cX8_undo 47 = .ok (.invokevirtual 203, 3) := by decide +kernel
theorem dX8_undo_50 : decode cX8_undo 50 = .ok (.aload_n 0, 1) := by decide +kernel
theorem dX8_undo_51 : decode cX8_undo 51 = .ok (.dup, 1) := by decide +kernel
theorem dX8_undo_52 : decode cX8_undo 52 = .ok (.getfield 23, 3) := by decide +kernel
theorem dX8_undo_55 : decode cX8_undo 55 = .ok (.iconst 1, 1) := by decide +kernel
theorem dX8_undo_56 : decode cX8_undo 56 = .ok (.isub, 1) := by decide +kernel
theorem dX8_undo_57 : decode cX8_undo 57 = .ok (.putfield 23, 3) := by decide +kernel
theorem dX8_undo_60 : decode cX8_undo 60 = .ok (.aload_n 0, 1) := by decide +kernel
theorem dX8_undo_61 : decode cX8_undo 61 = .ok (.getfield 23, 3) := by decide +kernel
theorem dX8_undo_64 : decode cX8_undo 64 = .ok (.ireturn, 1) := by decide +kernel
theorem dX8_fingerprint_0 : decode cX8_fingerprint 0 = .ok (.ldc2_w 206, 3) := by decide +kernel
theorem dX8_fingerprint_3 : decode cX8_fingerprint 3 = .ok (.lstore_n 1, 1) := by decide +kernel
theorem dX8_fingerprint_4 : decode cX8_fingerprint 4 = .ok (.ldc2_w 208, 3) := by decide +kernel
theorem dX8_fingerprint_7 : decode cX8_fingerprint 7 = .ok (.lload_n 1, 1) := by decide +kernel
theorem dX8_fingerprint_8 : decode cX8_fingerprint 8 = .ok (.lmul, 1) := by decide +kernel
theorem dX8_fingerprint_9 : decode cX8_fingerprint 9 = .ok (.aload_n 0, 1) := by decide +kernel
theorem dX8_fingerprint_10 : decode cX8_fingerprint 10 = .ok (.getfield 12, 3) := by decide +kernel
theorem dX8_fingerprint_13 : decode cX8_fingerprint 13 = .ok (.getfield 73, 3) := by decide +kernel
theorem dX8_fingerprint_16 : decode cX8_fingerprint 16 = .ok (.i2l, 1) := by decide +kernel
theorem dX8_fingerprint_17 : decode cX8_fingerprint 17 = .ok (.ladd, 1) := by decide +kernel
theorem dX8_fingerprint_18 : decode cX8_fingerprint 18 = .ok (.lstore_n 1, 1) := by decide +kernel
theorem dX8_fingerprint_19 : decode cX8_fingerprint 19 = .ok (.ldc2_w 208, 3) := by decide +kernel
theorem dX8_fingerprint_22 : decode cX8_fingerprint 22 = .ok (.lload_n 1, 1) := by decide +kernel
theorem dX8_fingerprint_23 : decode cX8_fingerprint 23 = .ok (.lmul, 1) := by decide +kernel
theorem dX8_fingerprint_24 : decode cX8_fingerprint 24 = .ok (.aload_n 0, 1) := by decide +kernel
theorem dX8_fingerprint_25 : decode cX8_fingerprint 25 = .ok (.getfield 12, 3) := by decide +kernel
theorem dX8_fingerprint_28 : decode cX8_fingerprint 28 = .ok (.getfield 94, 3) := by decide +kernel
theorem dX8_fingerprint_31 : decode cX8_fingerprint 31 = .ok (.ifCond .eq 7, 3) := by decide +kernel
theorem dX8_fingerprint_34 : decode cX8_fingerprint 34 = .ok (.iconst 1, 1) := by decide +kernel
theorem dX8_fingerprint_35 : decode cX8_fingerprint 35 = .ok (.goto 4, 3) := by decide +kernel
theorem dX8_fingerprint_38 : decode cX8_fingerprint 38 = .ok (.iconst 0, 1) := by decide +kernel
theorem dX8_fingerprint_39 : decode cX8_fingerprint 39 = .ok (.i2l, 1) := by decide +kernel
theorem dX8_fingerprint_40 : decode cX8_fingerprint 40 = .ok (.ladd, 1) := by decide +kernel
theorem dX8_fingerprint_41 : decode cX8_fingerprint 41 = .ok (.lstore_n 1, 1) := by decide +kernel
theorem dX8_fingerprint_42 : decode cX8_fingerprint 42 = .ok (.ldc2_w 208, 3) := by decide +kernel
theorem dX8_fingerprint_45 : decode cX8_fingerprint 45 = .ok (.lload_n 1, 1) := by decide +kernel
theorem dX8_fingerprint_46 : decode cX8_fingerprint 46 = .ok (.lmul, 1) := by decide +kernel
theorem dX8_fingerprint_47 : decode cX8_fingerprint 47 = .ok (.aload_n 0, 1) := by decide +kernel
theorem dX8_fingerprint_48 : decode cX8_fingerprint 48 = .ok (.getfield 12, 3) := by decide +kernel
theorem dX8_fingerprint_51 : decode cX8_fingerprint 51 = .ok (.getfield 76, 3) := by decide +kernel
theorem dX8_fingerprint_54 : decode cX8_fingerprint 54 = .ok (.i2l, 1) := by decide +kernel
theorem dX8_fingerprint_55 : decode cX8_fingerprint 55 = .ok (.ladd, 1) := by decide +kernel
theorem dX8_fingerprint_56 : decode cX8_fingerprint 56 = .ok (.lstore_n 1, 1) := by decide +kernel
theorem dX8_fingerprint_57 : decode cX8_fingerprint 57 = .ok (.ldc2_w 208, 3) := by decide +kernel
theorem dX8_fingerprint_60 : decode cX8_fingerprint 60 = .ok (.lload_n 1, 1) := by decide +kernel
theorem dX8_fingerprint_61 : decode cX8_fingerprint 61 = .ok (.lmul, 1) := by decide +kernel
theorem dX8_fingerprint_62 : decode cX8_fingerprint 62 = .ok (.aload_n 0, 1) := by decide +kernel
theorem dX8_fingerprint_63 : decode cX8_fingerprint 63 = .ok (.getfield 12, 3) := by decide +kernel
theorem dX8_fingerprint_66 : decode cX8_fingerprint 66 = .ok (.getfield 79, 3) := by decide +kernel
theorem dX8_fingerprint_69 : decode cX8_fingerprint 69 = .ok (.i2l, 1) := by decide +kernel
theorem dX8_fingerprint_70 : decode cX8_fingerprint 70 = .ok (.ladd, 1) := by decide +kernel
theorem dX8_fingerprint_71 : decode cX8_fingerprint 71 = .ok (.lstore_n 1, 1) := by decide +kernel
theorem dX8_fingerprint_72 : decode cX8_fingerprint 72 = .ok (.ldc2_w 208, 3) := by decide +kernel
theorem dX8_fingerprint_75 : decode cX8_fingerprint 75 = .ok (.lload_n 1, 1) := by decide +kernel
theorem dX8_fingerprint_76 : decode cX8_fingerprint 76 = .ok (.lmul, 1) := by decide +kernel
theorem dX8_fingerprint_77 : decode cX8_fingerprint 77 = .ok (.aload_n 0, 1) := by decide +kernel
theorem dX8_fingerprint_78 : decode cX8_fingerprint 78 = .ok (.invokevirtual 98, 3) := by decide +kernel
theorem dX8_fingerprint_81 : decode cX8_fingerprint 81 = .ok (.i2l, 1) := by decide +kernel
theorem dX8_fingerprint_82 : decode cX8_fingerprint 82 = .ok (.ladd, 1) := by decide +kernel
theorem dX8_fingerprint_83 : decode cX8_fingerprint 83 = .ok (.lstore_n 1, 1) := by decide +kernel
theorem dX8_fingerprint_84 : decode cX8_fingerprint 84 = .ok (.ldc2_w 208, 3) := by decide +kernel
theorem dX8_fingerprint_87 : decode cX8_fingerprint 87 = .ok (.lload_n 1, 1) := by decide +kernel
theorem dX8_fingerprint_88 : decode cX8_fingerprint 88 = .ok (.lmul, 1) := by decide +kernel
theorem dX8_fingerprint_89 : decode cX8_fingerprint 89 = .ok (.aload_n 0, 1) := by decide +kernel
theorem dX8_fingerprint_90 : decode cX8_fingerprint 90 = .ok (.invokevirtual 210, 3) := by decide +kernel
theorem dX8_fingerprint_93 : decode cX8_fingerprint 93 = .ok (.i2l, 1) := by decide +kernel
theorem dX8_fingerprint_94 : decode cX8_fingerprint 94 = .ok (.ladd, 1) := by decide +kernel
theorem dX8_fingerprint_95 : decode cX8_fingerprint 95 = .ok (.lstore_n 1, 1) := by decide +kernel
theorem dX8_fingerprint_96 : decode cX8_fingerprint 96 = .ok (.iconst 0, 1) := by decide +kernel
theorem dX8_fingerprint_97 : decode cX8_fingerprint 97 = .ok (.istore_n 3, 1) := by decide +kernel
theorem dX8_fingerprint_98 : decode cX8_fingerprint 98 = .ok (.iload_n 3, 1) := by decide +kernel
theorem dX8_fingerprint_99 : decode cX8_fingerprint 99 = .ok (.aload_n 0, 1) := by decide +kernel
theorem dX8_fingerprint_100 : decode cX8_fingerprint 100 = .ok (.getfield 12, 3) := by decide +kernel
theorem dX8_fingerprint_103 : decode cX8_fingerprint 103 = .ok (.getfield 161, 3) := by decide +kernel
theorem dX8_fingerprint_106 : decode cX8_fingerprint 106 = .ok (.getfield 102, 3) := by decide +kernel
theorem dX8_fingerprint_109 : decode cX8_fingerprint 109 = .ok (.if_icmp .ge 28, 3) := by decide +kernel
theorem dX8_fingerprint_112 : decode cX8_fingerprint 112 = .ok (.ldc2_w 208, 3) := by decide +kernel
theorem dX8_fingerprint_115 : decode cX8_fingerprint 115 = .ok (.lload_n 1, 1) := by decide +kernel
theorem dX8_fingerprint_116 : decode cX8_fingerprint 116 = .ok (.lmul, 1) := by decide +kernel
theorem dX8_fingerprint_117 : decode cX8_fingerprint 117 = .ok (.aload_n 0, 1) := by decide +kernel
theorem dX8_fingerprint_118 : decode cX8_fingerprint 118 = .ok (.getfield 12, 3) := by decide +kernel
theorem dX8_fingerprint_121 : decode cX8_fingerprint 121 = .ok (.getfield 161, 3) := by decide +kernel
theorem dX8_fingerprint_124 : decode cX8_fingerprint 124 = .ok (.iload_n 3, 1) := by decide +kernel
theorem dX8_fingerprint_125 : decode cX8_fingerprint 125 = .ok (.invokevirtual 105, 3) := by decide +kernel
theorem dX8_fingerprint_128 : decode cX8_fingerprint 128 = .ok (.i2l, 1) := by decide +kernel
theorem dX8_fingerprint_129 : decode cX8_fingerprint 129 = .ok (.ladd, 1) := by decide +kernel
theorem dX8_fingerprint_130 : decode cX8_fingerprint 130 = .ok (.lstore_n 1, 1) := by decide +kernel
theorem dX8_fingerprint_131 : decode cX8_fingerprint 131 = .ok (.iinc 3 1, 3) := by decide +kernel
theorem dX8_fingerprint_134 : decode cX8_fingerprint 134 = .ok (.goto (-36), 3) := by decide +kernel
theorem dX8_fingerprint_137 : decode cX8_fingerprint 137 = .ok (.ldc2_w 208, 3) := by decide +kernel
theorem dX8_fingerprint_140 : decode cX8_fingerprint 140 = .ok (.lload_n 1, 1) := by decide +kernel
theorem dX8_fingerprint_141 : decode cX8_fingerprint 141 = .ok (.lmul, 1) := by decide +kernel
theorem dX8_fingerprint_142 : decode cX8_fingerprint 142 = .ok (.aload_n 0, 1) := by decide +kernel
theorem dX8_fingerprint_143 : decode cX8_fingerprint 143 = .ok (.invokevirtual 213, 3) := by decide +kernel
theorem dX8_fingerprint_146 : decode cX8_fingerprint 146 = .ok (.i2l, 1) := by decide +kernel
theorem dX8_fingerprint_147 : decode cX8_fingerprint 147 = .ok (.ladd, 1) := by decide +kernel
theorem dX8_fingerprint_148 : decode cX8_fingerprint 148 = .ok (.lstore_n 1, 1) := by decide +kernel
theorem dX8_fingerprint_149 : decode cX8_fingerprint 149 = .ok (.ldc2_w 208, 3) := by decide +kernel
theorem dX8_fingerprint_152 : decode cX8_fingerprint 152 = .ok (.lload_n 1, 1) := by decide +kernel
theorem dX8_fingerprint_153 : decode cX8_fingerprint 153 = .ok (.lmul, 1) := by decide +kernel
theorem dX8_fingerprint_154 : decode cX8_fingerprint 154 = .ok (.aload_n 0, 1) := by decide +kernel
theorem dX8_fingerprint_155 : decode cX8_fingerprint 155 = .ok (.invokevirtual 216, 3) := by decide +kernel
theorem dX8_fingerprint_158 : decode cX8_fingerprint 158 = .ok (.i2l, 1) := by decide +kernel
theorem dX8_fingerprint_159 : decode cX8_fingerprint 159 = .ok (.ladd, 1) := by decide +kernel
theorem dX8_fingerprint_160 : decode cX8_fingerprint 160 = .ok (.lstore_n 1, 1) := by decide +kernel
theorem dX8_fingerprint_161 : decode cX8_fingerprint 161 = .ok (.ldc2_w 208, 3) := by decide +kernel
theorem dX8_fingerprint_164 : decode cX8_fingerprint 164 = .ok (.lload_n 1, 1) := by decide +kernel
theorem dX8_fingerprint_165 : decode cX8_fingerprint 165 = .ok (.lmul, 1) := by decide +kernel
theorem dX8_fingerprint_166 : decode cX8_fingerprint 166 = .ok (.aload_n 0, 1) := by decide +kernel
theorem dX8_fingerprint_167 : decode cX8_fingerprint 167 = .ok (.getfield 12, 3) := by decide +kernel
theorem dX8_fingerprint_170 : decode cX8_fingerprint 170 = .ok (.getfield 176, 3) := by decide +kernel
theorem dX8_fingerprint_173 : decode cX8_fingerprint 173 = .ok (.getfield 102, 3) := by decide +kernel
theorem dX8_fingerprint_176 : decode cX8_fingerprint 176 = .ok (.i2l, 1) := by decide +kernel
theorem dX8_fingerprint_177 : decode cX8_fingerprint 177 = .ok (.ladd, 1) := by decide +kernel
theorem dX8_fingerprint_178 : decode cX8_fingerprint 178 = .ok (.lstore_n 1, 1) := by decide +kernel
theorem dX8_fingerprint_179 : decode cX8_fingerprint 179 = .ok (.iconst 0, 1) := by decide +kernel
theorem dX8_fingerprint_180 : decode cX8_fingerprint 180 = .ok (.istore_n 3, 1) := by decide +kernel
theorem dX8_fingerprint_181 : decode cX8_fingerprint 181 = .ok (.iload_n 3, 1) := by decide +kernel
theorem dX8_fingerprint_182 : decode cX8_fingerprint 182 = .ok (.aload_n 0, 1) := by decide +kernel
theorem dX8_fingerprint_183 : decode cX8_fingerprint 183 = .ok (.getfield 12, 3) := by decide +kernel
theorem dX8_fingerprint_186 : decode cX8_fingerprint 186 = .ok (.getfield 176, 3) := by decide +kernel
theorem dX8_fingerprint_189 : decode cX8_fingerprint 189 = .ok (.getfield 102, 3) := by decide +kernel
theorem dX8_fingerprint_192 : decode cX8_fingerprint 192 = .ok (.if_icmp .ge 32, 3) := by decide +kernel
theorem dX8_fingerprint_195 : decode cX8_fingerprint 195 = .ok (.ldc2_w 208, 3) := by decide +kernel
theorem dX8_fingerprint_198 : decode cX8_fingerprint 198 = .ok (.lload_n 1, 1) := by decide +kernel
theorem dX8_fingerprint_199 : decode cX8_fingerprint 199 = .ok (.lmul, 1) := by decide +kernel
theorem dX8_fingerprint_200 : decode cX8_fingerprint 200 = .ok (.aload_n 0, 1) := by decide +kernel
theorem dX8_fingerprint_201 : decode cX8_fingerprint 201 = .ok (.getfield 12, 3) := by decide +kernel
theorem dX8_fingerprint_204 : decode cX8_fingerprint 204 = .ok (.getfield 176, 3) := by decide +kernel
theorem dX8_fingerprint_207 : decode cX8_fingerprint 207 = .ok (.iload_n 3, 1) := by decide +kernel
theorem dX8_fingerprint_208 : decode cX8_fingerprint 208 = .ok (.invokevirtual 105, 3) := by decide +kernel
theorem dX8_fingerprint_211 : decode cX8_fingerprint 211 = .ok (.i2l, 1) := by decide +kernel
theorem dX8_fingerprint_212 : decode cX8_fingerprint 212 = .ok (.ladd, 1) := by decide +kernel
theorem dX8_fingerprint_213 : decode cX8_fingerprint 213 = .ok (.ldc2_w 219, 3) := by decide +kernel
theorem dX8_fingerprint_216 : decode cX8_fingerprint 216 = .ok (.ladd, 1) := by decide +kernel
theorem dX8_fingerprint_217 : decode cX8_fingerprint 217 = .ok (.lstore_n 1, 1) := by decide +kernel
theorem dX8_fingerprint_218 : decode cX8_fingerprint 218 = .ok (.iinc 3 1, 3) := by decide +kernel
theorem dX8_fingerprint_221 : decode cX8_fingerprint 221 = .ok (.goto (-40), 3) := by decide +kernel
theorem dX8_fingerprint_224 : decode cX8_fingerprint 224 = .ok (.lload_n 1, 1) := by decide +kernel
theorem dX8_fingerprint_225 : decode cX8_fingerprint 225 = .ok (.lreturn, 1) := by decide +kernel
theorem dX8_remember_0 : decode cX8_remember 0 = .ok (.aload_n 0, 1) := by decide +kernel
theorem dX8_remember_1 : decode cX8_remember 1 = .ok (.getfield 23, 3) := by decide +kernel
theorem dX8_remember_4 : decode cX8_remember 4 = .ok (.aload_n 0, 1) := by decide +kernel
theorem dX8_remember_5 : decode cX8_remember 5 = .ok (.getfield 19, 3) := by decide +kernel
theorem dX8_remember_8 : decode cX8_remember 8 = .ok (.arraylength, 1) := by decide +kernel
theorem dX8_remember_9 : decode cX8_remember 9 = .ok (.if_icmp .lt 7, 3) := by decide +kernel
theorem dX8_remember_12 : decode cX8_remember 12 = .ok (.aload_n 0, 1) := by decide +kernel
theorem dX8_remember_13 : decode cX8_remember 13 = .ok (.invokevirtual 221, 3) := by decide +kernel
theorem dX8_remember_16 : decode cX8_remember 16 = .ok (.aload_n 0, 1) := by decide +kernel
theorem dX8_remember_17 : decode cX8_remember 17 = .ok (.getfield 23, 3) := by decide +kernel
theorem dX8_remember_20 : decode cX8_remember 20 = .ok (.ifCond .lt 15, 3) := by decide +kernel
theorem dX8_remember_23 : decode cX8_remember 23 = .ok (.aload_n 0, 1) := by decide +kernel
theorem dX8_remember_24 : decode cX8_remember 24 = .ok (.getfield 23, 3) := by decide +kernel
theorem dX8_remember_27 : decode cX8_remember 27 = .ok (.aload_n 0, 1) := by decide +kernel
theorem dX8_remember_28 : decode cX8_remember 28 = .ok (.getfield 19, 3) := by decide +kernel
theorem dX8_remember_31 : decode cX8_remember 31 = .ok (.arraylength, 1) := by decide +kernel
theorem dX8_remember_32 : decode cX8_remember 32 = .ok (.if_icmp .lt 4, 3) := by decide +kernel
theorem dX8_remember_35 : decode cX8_remember 35 = .ok (.return_, 1) := by decide +kernel
theorem dX8_remember_36 : decode cX8_remember 36 = .ok (.aload_n 0, 1) := by decide +kernel
theorem dX8_remember_37 : decode cX8_remember 37 = .ok (.getfield 19, 3) := by decide +kernel
theorem dX8_remember_40 : decode cX8_remember 40 = .ok (.aload_n 0, 1) := by decide +kernel
theorem dX8_remember_41 : decode cX8_remember 41 = .ok (.getfield 23, 3) := by decide +kernel
theorem dX8_remember_44 : decode cX8_remember 44 = .ok (.aaload, 1) := by decide +kernel
theorem dX8_remember_45 : decode cX8_remember 45 = .ok (.astore_n 1, 1) := by decide +kernel
theorem dX8_remember_46 : decode cX8_remember 46 = .ok (.aload_n 1, 1) := by decide +kernel
theorem dX8_remember_47 : decode cX8_remember 47 = .ok (.ifnull 21, 3) := by decide +kernel
theorem dX8_remember_50 : decode cX8_remember 50 = .ok (.aload_n 1, 1) := by decide +kernel
theorem dX8_remember_51 : decode cX8_remember 51 = .ok (.aload_n 0, 1) := by decide +kernel
theorem dX8_remember_52 : decode cX8_remember 52 = .ok (.getfield 12, 3) := by decide +kernel
theorem dX8_remember_55 : decode cX8_remember 55 = .ok (.invokevirtual 203, 3) := by decide +kernel
theorem dX8_remember_58 : decode cX8_remember 58 = .ok (.aload_n 0, 1) := by decide +kernel
theorem dX8_remember_59 : decode cX8_remember 59 = .ok (.dup, 1) := by decide +kernel
theorem dX8_remember_60 : decode cX8_remember 60 = .ok (.getfield 23, 3) := by decide +kernel
theorem dX8_remember_63 : decode cX8_remember 63 = .ok (.iconst 1, 1) := by decide +kernel
theorem dX8_remember_64 : decode cX8_remember 64 = .ok (.iadd, 1) := by decide +kernel
theorem dX8_remember_65 : decode cX8_remember 65 = .ok (.putfield 23, 3) := by decide +kernel
theorem dX8_remember_68 : decode cX8_remember 68 = .ok (.return_, 1) := by decide +kernel
theorem dX8_rollPast_0 : decode cX8_rollPast 0 = .ok (.iconst 1, 1) := by decide +kernel
theorem dX8_rollPast_1 : decode cX8_rollPast 1 = .ok (.istore_n 1, 1) := by decide +kernel
theorem dX8_rollPast_2 : decode cX8_rollPast 2 = .ok (.iload_n 1, 1) := by decide +kernel
theorem dX8_rollPast_3 : decode cX8_rollPast 3 = .ok (.aload_n 0, 1) := by decide +kernel
theorem dX8_rollPast_4 : decode cX8_rollPast 4 = .ok (.getfield 19, 3) := by decide +kernel
theorem dX8_rollPast_7 : decode cX8_rollPast 7 = .ok (.arraylength, 1) := by decide +kernel
theorem dX8_rollPast_8 : decode cX8_rollPast 8 = .ok (.if_icmp .ge 39, 3) := by decide +kernel
theorem dX8_rollPast_11 : decode cX8_rollPast 11 = .ok (.aload_n 0, 1) := by decide +kernel
theorem dX8_rollPast_12 : decode cX8_rollPast 12 = .ok (.getfield 19, 3) := by decide +kernel
theorem dX8_rollPast_15 : decode cX8_rollPast 15 = .ok (.iload_n 1, 1) := by decide +kernel
theorem dX8_rollPast_16 : decode cX8_rollPast 16 = .ok (.iconst 1, 1) := by decide +kernel
theorem dX8_rollPast_17 : decode cX8_rollPast 17 = .ok (.isub, 1) := by decide +kernel
theorem dX8_rollPast_18 : decode cX8_rollPast 18 = .ok (.aaload, 1) := by decide +kernel
theorem dX8_rollPast_19 : decode cX8_rollPast 19 = .ok (.astore_n 2, 1) := by decide +kernel
theorem dX8_rollPast_20 : decode cX8_rollPast 20 = .ok (.aload_n 0, 1) := by decide +kernel
theorem dX8_rollPast_21 : decode cX8_rollPast 21 = .ok (.getfield 19, 3) := by decide +kernel
theorem dX8_rollPast_24 : decode cX8_rollPast 24 = .ok (.iload_n 1, 1) := by decide +kernel
theorem dX8_rollPast_25 : decode cX8_rollPast 25 = .ok (.iconst 1, 1) := by decide +kernel
theorem dX8_rollPast_26 : decode cX8_rollPast 26 = .ok (.isub, 1) := by decide +kernel
theorem dX8_rollPast_27 : decode cX8_rollPast 27 = .ok (.aload_n 0, 1) := by decide +kernel
theorem dX8_rollPast_28 : decode cX8_rollPast 28 = .ok (.getfield 19, 3) := by decide +kernel
theorem dX8_rollPast_31 : decode cX8_rollPast 31 = .ok (.iload_n 1, 1) := by decide +kernel
theorem dX8_rollPast_32 : decode cX8_rollPast 32 = .ok (.aaload, 1) := by decide +kernel
theorem dX8_rollPast_33 : decode cX8_rollPast 33 = .ok (.aastore, 1) := by decide +kernel
theorem dX8_rollPast_34 : decode cX8_rollPast 34 = .ok (.aload_n 0, 1) := by decide +kernel
theorem dX8_rollPast_35 : decode cX8_rollPast 35 = .ok (.getfield 19, 3) := by decide +kernel
theorem dX8_rollPast_38 : decode cX8_rollPast 38 = .ok (.iload_n 1, 1) := by decide +kernel
theorem dX8_rollPast_39 : decode cX8_rollPast 39 = .ok (.aload_n 2, 1) := by decide +kernel
theorem dX8_rollPast_40 : decode cX8_rollPast 40 = .ok (.aastore, 1) := by decide +kernel
theorem dX8_rollPast_41 : decode cX8_rollPast 41 = .ok (.iinc 1 1, 3) := by decide +kernel
theorem dX8_rollPast_44 : decode cX8_rollPast 44 = .ok (.goto (-42), 3) := by decide +kernel
theorem dX8_rollPast_47 : decode cX8_rollPast 47 = .ok (.aload_n 0, 1) := by decide +kernel
theorem dX8_rollPast_48 : decode cX8_rollPast 48 = .ok (.aload_n 0, 1) := by decide +kernel
theorem dX8_rollPast_49 : decode cX8_rollPast 49 = .ok (.getfield 19, 3) := by decide +kernel
theorem dX8_rollPast_52 : decode cX8_rollPast 52 = .ok (.arraylength, 1) := by decide +kernel
theorem dX8_rollPast_53 : decode cX8_rollPast 53 = .ok (.iconst 1, 1) := by decide +kernel
theorem dX8_rollPast_54 : decode cX8_rollPast 54 = .ok (.isub, 1) := by decide +kernel
theorem dX8_rollPast_55 : decode cX8_rollPast 55 = .ok (.putfield 23, 3) := by decide +kernel
theorem dX8_rollPast_58 : decode cX8_rollPast 58 = .ok (.return_, 1) := by decide +kernel
theorem dX8_lastContext_0 : decode cX8_lastContext 0 = .ok (.iload_n 1, 1) := by decide +kernel
theorem dX8_lastContext_1 : decode cX8_lastContext 1 = .ok (.aload_n 0, 1) := by decide +kernel
theorem dX8_lastContext_2 : decode cX8_lastContext 2 = .ok (.getfield 32, 3) := by decide +kernel
theorem dX8_lastContext_5 : decode cX8_lastContext 5 = .ok (.getfield 102, 3) := by decide +kernel
theorem dX8_lastContext_8 : decode cX8_lastContext 8 = .ok (.if_icmp .le 7, 3) := by decide +kernel
theorem dX8_lastContext_11 : decode cX8_lastContext 11 = .ok (.iconst (-1), 1) := by decide +kernel
theorem dX8_lastContext_12 : decode cX8_lastContext 12 = .ok (.goto 28, 3) := by decide +kernel
theorem dX8_lastContext_15 : decode cX8_lastContext 15 = .ok (.aload_n 0, 1) := by decide +kernel
theorem dX8_lastContext_16 : decode cX8_lastContext 16 = .ok (.getfield 12, 3) := by decide +kernel
theorem dX8_lastContext_19 : decode cX8_lastContext 19 = .ok (.getfield 85, 3) := by decide +kernel
theorem dX8_lastContext_22 : decode cX8_lastContext 22 = .ok (.aload_n 0, 1) := by decide +kernel
theorem dX8_lastContext_23 : decode cX8_lastContext 23 = .ok (.getfield 32, 3) := by decide +kernel
theorem dX8_lastContext_26 : decode cX8_lastContext 26 = .ok (.aload_n 0, 1) := by decide +kernel
theorem dX8_lastContext_27 : decode cX8_lastContext 27 = .ok (.getfield 32, 3) := by decide +kernel
theorem dX8_lastContext_30 : decode cX8_lastContext 30 = .ok (.getfield 102, 3) := by decide +kernel
theorem dX8_lastContext_33 : decode cX8_lastContext 33 = .ok (.iload_n 1, 1) := by decide +kernel
theorem dX8_lastContext_34 : decode cX8_lastContext 34 = .ok (.invokestatic 224, 3) := by decide +kernel
theorem dX8_lastContext_37 : decode cX8_lastContext 37 = .ok (.invokevirtual 228, 3) := by decide +kernel
theorem dX8_lastContext_40 : decode cX8_lastContext 40 = .ok (.ireturn, 1) := by decide +kernel
theorem dX8_codeOnTrial_0 : decode cX8_codeOnTrial 0 = .ok (.aload_n 0, 1) := by decide +kernel
theorem dX8_codeOnTrial_1 : decode cX8_codeOnTrial 1 = .ok (.getfield 16, 3) := by decide +kernel
theorem dX8_codeOnTrial_4 : decode cX8_codeOnTrial 4 = .ok (.aload_n 0, 1) := by decide +kernel
theorem dX8_codeOnTrial_5 : decode cX8_codeOnTrial 5 = .ok (.getfield 12, 3) := by decide +kernel
theorem dX8_codeOnTrial_8 : decode cX8_codeOnTrial 8 = .ok (.invokevirtual 231, 3) := by decide +kernel
theorem dX8_codeOnTrial_11 : decode cX8_codeOnTrial 11 = .ok (.aload_n 0, 1) := by decide +kernel
theorem dX8_codeOnTrial_12 : decode cX8_codeOnTrial 12 = .ok (.getfield 16, 3) := by decide +kernel
theorem dX8_codeOnTrial_15 : decode cX8_codeOnTrial 15 = .ok (.getfield 85, 3) := by decide +kernel
theorem dX8_codeOnTrial_18 : decode cX8_codeOnTrial 18 = .ok (.aload_n 0, 1) := by decide +kernel
theorem dX8_codeOnTrial_19 : decode cX8_codeOnTrial 19 = .ok (.getfield 12, 3) := by decide +kernel
theorem dX8_codeOnTrial_22 : decode cX8_codeOnTrial 22 = .ok (.getfield 85, 3) := by decide +kernel
theorem dX8_codeOnTrial_25 : decode cX8_codeOnTrial 25 = .ok (.invokevirtual 148, 3) := by decide +kernel
theorem dX8_codeOnTrial_28 : decode cX8_codeOnTrial 28 = .ok (.aload_n 0, 1) := by decide +kernel
theorem dX8_codeOnTrial_29 : decode cX8_codeOnTrial 29 = .ok (.getfield 16, 3) := by decide +kernel
theorem dX8_codeOnTrial_32 : decode cX8_codeOnTrial 32 = .ok (.getfield 152, 3) := by decide +kernel
theorem dX8_codeOnTrial_35 : decode cX8_codeOnTrial 35 = .ok (.invokevirtual 234, 3) := by decide +kernel
theorem dX8_codeOnTrial_38 : decode cX8_codeOnTrial 38 = .ok (.aload_n 0, 1) := by decide +kernel
theorem dX8_codeOnTrial_39 : decode cX8_codeOnTrial 39 = .ok (.getfield 53, 3) := by decide +kernel
theorem dX8_codeOnTrial_42 : decode cX8_codeOnTrial 42 = .ok (.invokevirtual 235, 3) := by decide +kernel
theorem dX8_codeOnTrial_45 : decode cX8_codeOnTrial 45 = .ok (.iconst 0, 1) := by decide +kernel
theorem dX8_codeOnTrial_46 : decode cX8_codeOnTrial 46 = .ok (.istore_n 2, 1) := by decide +kernel
theorem dX8_codeOnTrial_47 : decode cX8_codeOnTrial 47 = .ok (.iload_n 2, 1) := by decide +kernel
theorem dX8_codeOnTrial_48 : decode cX8_codeOnTrial 48 = .ok (.aload_n 1, 1) := by decide +kernel
theorem dX8_codeOnTrial_49 : decode cX8_codeOnTrial 49 = .ok (.getfield 102, 3) := by decide +kernel
theorem dX8_codeOnTrial_52 : decode cX8_codeOnTrial 52 = .ok (.if_icmp .ge 20, 3) := by decide +kernel
theorem dX8_codeOnTrial_55 : decode cX8_codeOnTrial 55 = .ok (.aload_n 0, 1) := by decide +kernel
theorem dX8_codeOnTrial_56 : decode cX8_codeOnTrial 56 = .ok (.aload_n 1, 1) := by decide +kernel
theorem dX8_codeOnTrial_57 : decode cX8_codeOnTrial 57 = .ok (.iload_n 2, 1) := by decide +kernel
theorem dX8_codeOnTrial_58 : decode cX8_codeOnTrial 58 = .ok (.aload_n 1, 1) := by decide +kernel
theorem dX8_codeOnTrial_59 : decode cX8_codeOnTrial 59 = .ok (.iload_n 2, 1) := by decide +kernel
theorem dX8_codeOnTrial_60 : decode cX8_codeOnTrial 60 = .ok (.invokevirtual 105, 3) := by decide +kernel
theorem dX8_codeOnTrial_63 : decode cX8_codeOnTrial 63 = .ok (.invokevirtual 238, 3) := by decide +kernel
theorem dX8_codeOnTrial_66 : decode cX8_codeOnTrial 66 = .ok (.iinc 2 1, 3) := by decide +kernel
theorem dX8_codeOnTrial_69 : decode cX8_codeOnTrial 69 = .ok (.goto (-22), 3) := by decide +kernel
theorem dX8_codeOnTrial_72 : decode cX8_codeOnTrial 72 = .ok (.aload_n 0, 1) := by decide +kernel
theorem dX8_codeOnTrial_73 : decode cX8_codeOnTrial 73 = .ok (.aload_n 1, 1) := by decide +kernel
theorem dX8_codeOnTrial_74 : decode cX8_codeOnTrial 74 = .ok (.aload_n 1, 1) := by decide +kernel
theorem dX8_codeOnTrial_75 : decode cX8_codeOnTrial 75 = .ok (.getfield 102, 3) := by decide +kernel
theorem dX8_codeOnTrial_78 : decode cX8_codeOnTrial 78 = .ok (.bipush 95, 2) := by decide +kernel
theorem dX8_codeOnTrial_80 : decode cX8_codeOnTrial 80 = .ok (.invokevirtual 238, 3) := by decide +kernel
theorem dX8_codeOnTrial_83 : decode cX8_codeOnTrial 83 = .ok (.aload_n 1, 1) := by decide +kernel
theorem dX8_codeOnTrial_84 : decode cX8_codeOnTrial 84 = .ok (.invokestatic 241, 3) := by decide +kernel
theorem dX8_codeOnTrial_87 : decode cX8_codeOnTrial 87 = .ok (.istore_n 2, 1) := by decide +kernel
theorem dX8_codeOnTrial_88 : decode cX8_codeOnTrial 88 = .ok (.aload_n 0, 1) := by decide +kernel
theorem dX8_codeOnTrial_89 : decode cX8_codeOnTrial 89 = .ok (.getfield 53, 3) := by decide +kernel
theorem dX8_codeOnTrial_92 : decode cX8_codeOnTrial 92 = .ok (.iload_n 2, 1) := by decide +kernel
theorem dX8_codeOnTrial_93 : decode cX8_codeOnTrial 93 = .ok (.iload_n 2, 1) := by decide +kernel
theorem dX8_codeOnTrial_94 : decode cX8_codeOnTrial 94 = .ok (.iconst 1, 1) := by decide +kernel
theorem dX8_codeOnTrial_95 : decode cX8_codeOnTrial 95 = .ok (.iadd, 1) := by decide +kernel
theorem dX8_codeOnTrial_96 : decode cX8_codeOnTrial 96 = .ok (.ldc 245, 2) := by decide +kernel
theorem dX8_codeOnTrial_98 : decode cX8_codeOnTrial 98 = .ok (.invokevirtual 246, 3) := by decide +kernel
theorem dX8_codeOnTrial_101 : decode cX8_codeOnTrial 101 = .ok (.aload_n 0, 1) := by decide +kernel
theorem dX8_codeOnTrial_102 : decode cX8_codeOnTrial 102 = .ok (.getfield 53, 3) := by decide +kernel
theorem dX8_codeOnTrial_105 : decode cX8_codeOnTrial 105 = .ok (.invokevirtual 250, 3) := by decide +kernel
theorem dX8_codeOnTrial_108 : decode cX8_codeOnTrial 108 = .ok (.aload_n 0, 1) := by decide +kernel
theorem dX8_codeOnTrial_109 : decode cX8_codeOnTrial 109 = .ok (.getfield 16, 3) := by decide +kernel
theorem dX8_codeOnTrial_112 : decode cX8_codeOnTrial 112 = .ok (.getfield 152, 3) := by decide +kernel
theorem dX8_codeOnTrial_115 : decode cX8_codeOnTrial 115 = .ok (.aload_n 0, 1) := by decide +kernel
theorem dX8_codeOnTrial_116 : decode cX8_codeOnTrial 116 = .ok (.getfield 53, 3) := by decide +kernel
theorem dX8_codeOnTrial_119 : decode cX8_codeOnTrial 119 = .ok (.getfield 253, 3) := by decide +kernel
theorem dX8_codeOnTrial_122 : decode cX8_codeOnTrial 122 = .ok (.putfield 170, 3) := by decide +kernel
theorem dX8_codeOnTrial_125 : decode cX8_codeOnTrial 125 = .ok (.return_, 1) := by decide +kernel
theorem dX8_codeSymbol_0 : decode cX8_codeSymbol 0 = .ok (.aload_n 0, 1) := by decide +kernel
theorem dX8_codeSymbol_1 : decode cX8_codeSymbol 1 = .ok (.aload_n 0, 1) := by decide +kernel
theorem dX8_codeSymbol_2 : decode cX8_codeSymbol 2 = .ok (.getfield 16, 3) := by decide +kernel
theorem dX8_codeSymbol_5 : decode cX8_codeSymbol 5 = .ok (.aload_n 1, 1) := by decide +kernel
theorem dX8_codeSymbol_6 : decode cX8_codeSymbol 6 = .ok (.iload_n 2, 1) := by decide +kernel
theorem dX8_codeSymbol_7 : decode cX8_codeSymbol 7 = .ok (.iload_n 3, 1) := by decide +kernel
theorem dX8_codeSymbol_8 : decode cX8_codeSymbol 8 = .ok (.invokevirtual 125, 3) := by decide +kernel
theorem dX8_codeSymbol_11 : decode cX8_codeSymbol 11 = .ok (.iconst 0, 1) := by decide +kernel
theorem dX8_codeSymbol_12 : decode cX8_codeSymbol 12 = .ok (.istore 4, 2) := by decide +kernel
theorem dX8_codeSymbol_14 : decode cX8_codeSymbol 14 = .ok (.iload 4, 2) := by decide +kernel
theorem dX8_codeSymbol_16 : decode cX8_codeSymbol 16 = .ok (.aload_n 0, 1) := by decide +kernel
theorem dX8_codeSymbol_17 : decode cX8_codeSymbol 17 = .ok (.getfield 46, 3) := by decide +kernel
theorem dX8_codeSymbol_20 : decode cX8_codeSymbol 20 = .ok (.invokevirtual 254, 3) := by decide +kernel
theorem dX8_codeSymbol_23 : decode cX8_codeSymbol 23 = .ok (.if_icmp .ge 52, 3) := by decide +kernel
theorem dX8_codeSymbol_26 : decode cX8_codeSymbol 26 = .ok (.aload_n 0, 1) := by decide +kernel
theorem dX8_codeSymbol_27 : decode cX8_codeSymbol 27 = .ok (.getfield 53, 3) := by decide +kernel
theorem dX8_codeSymbol_30 : decode cX8_codeSymbol 30 = .ok (.aload_n 0, 1) := by decide +kernel
theorem dX8_codeSymbol_31 : decode cX8_codeSymbol 31 = .ok (.getfield 46, 3) := by decide +kernel
theorem dX8_codeSymbol_34 : decode cX8_codeSymbol 34 = .ok (.getfield 256, 3) := by decide +kernel
theorem dX8_codeSymbol_37 : decode cX8_codeSymbol 37 = .ok (.iload 4, 2) := by decide +kernel
theorem dX8_codeSymbol_39 : decode cX8_codeSymbol 39 = .ok (.invokevirtual 105, 3) := by decide +kernel
theorem dX8_codeSymbol_42 : decode cX8_codeSymbol 42 = .ok (.aload_n 0, 1) := by decide +kernel
theorem dX8_codeSymbol_43 : decode cX8_codeSymbol 43 = .ok (.getfield 46, 3) := by decide +kernel
theorem dX8_codeSymbol_46 : decode cX8_codeSymbol 46 = .ok (.getfield 259, 3) := by decide +kernel
theorem dX8_codeSymbol_49 : decode cX8_codeSymbol 49 = .ok (.iload 4, 2) := by decide +kernel
theorem dX8_codeSymbol_51 : decode cX8_codeSymbol 51 = .ok (.invokevirtual 105, 3) := by decide +kernel
theorem dX8_codeSymbol_54 : decode cX8_codeSymbol 54 = .ok (.aload_n 0, 1) := by decide +kernel
theorem dX8_codeSymbol_55 : decode cX8_codeSymbol 55 = .ok (.getfield 46, 3) := by decide +kernel
theorem dX8_codeSymbol_58 : decode cX8_codeSymbol 58 = .ok (.getfield 262, 3) := by decide +kernel
theorem dX8_codeSymbol_61 : decode cX8_codeSymbol 61 = .ok (.iload 4, 2) := by decide +kernel
theorem dX8_codeSymbol_63 : decode cX8_codeSymbol 63 = .ok (.invokevirtual 105, 3) := by decide +kernel
theorem dX8_codeSymbol_66 : decode cX8_codeSymbol 66 = .ok (.invokevirtual 246, 3) := by decide +kernel
theorem dX8_codeSymbol_69 : decode cX8_codeSymbol 69 = .ok (.iinc 4 1, 3) := by decide +kernel
theorem dX8_codeSymbol_72 : decode cX8_codeSymbol 72 = .ok (.goto (-58), 3) := by decide +kernel
theorem dX8_codeSymbol_75 : decode cX8_codeSymbol 75 = .ok (.aload_n 0, 1) := by decide +kernel
theorem dX8_codeSymbol_76 : decode cX8_codeSymbol 76 = .ok (.getfield 16, 3) := by decide +kernel
theorem dX8_codeSymbol_79 : decode cX8_codeSymbol 79 = .ok (.getfield 152, 3) := by decide +kernel
theorem dX8_codeSymbol_82 : decode cX8_codeSymbol 82 = .ok (.aload_n 0, 1) := by decide +kernel
theorem dX8_codeSymbol_83 : decode cX8_codeSymbol 83 = .ok (.getfield 46, 3) := by decide +kernel
theorem dX8_codeSymbol_86 : decode cX8_codeSymbol 86 = .ok (.invokevirtual 129, 3) := by decide +kernel
theorem dX8_codeSymbol_89 : decode cX8_codeSymbol 89 = .ok (.aload_n 0, 1) := by decide +kernel
theorem dX8_codeSymbol_90 : decode cX8_codeSymbol 90 = .ok (.getfield 46, 3) := by decide +kernel
theorem dX8_codeSymbol_93 : decode cX8_codeSymbol 93 = .ok (.invokevirtual 254, 3) := by decide +kernel
theorem dX8_codeSymbol_96 : decode cX8_codeSymbol 96 = .ok (.iconst 1, 1) := by decide +kernel
theorem dX8_codeSymbol_97 : decode cX8_codeSymbol 97 = .ok (.isub, 1) := by decide +kernel
theorem dX8_codeSymbol_98 : decode cX8_codeSymbol 98 = .ok (.aload_n 0, 1) := by decide +kernel
theorem dX8_codeSymbol_99 : decode cX8_codeSymbol 99 = .ok (.getfield 46, 3) := by decide +kernel
theorem dX8_codeSymbol_102 : decode cX8_codeSymbol 102 = .ok (.getfield 265, 3) := by decide +kernel
theorem dX8_codeSymbol_105 : decode cX8_codeSymbol 105 = .ok (.iload_n 3, 1) := by decide +kernel
theorem dX8_codeSymbol_106 : decode cX8_codeSymbol 106 = .ok (.invokevirtual 266, 3) := by decide +kernel
theorem dX8_codeSymbol_109 : decode cX8_codeSymbol 109 = .ok (.aload_n 0, 1) := by decide +kernel
theorem dX8_codeSymbol_110 : decode cX8_codeSymbol 110 = .ok (.getfield 16, 3) := by decide +kernel
theorem dX8_codeSymbol_113 : decode cX8_codeSymbol 113 = .ok (.aload_n 1, 1) := by decide +kernel
theorem dX8_codeSymbol_114 : decode cX8_codeSymbol 114 = .ok (.iload_n 2, 1) := by decide +kernel
theorem dX8_codeSymbol_115 : decode cX8_codeSymbol 115 = .ok (.iload_n 3, 1) := by decide +kernel
theorem dX8_codeSymbol_116 : decode cX8_codeSymbol 116 = .ok (.invokevirtual 109, 3) := by decide +kernel
theorem dX8_codeSymbol_119 : decode cX8_codeSymbol 119 = .ok (.return_, 1) := by decide +kernel
theorem dX8_plan_0 : decode cX8_plan 0 = .ok (.aload_n 0, 1) := by decide +kernel
theorem dX8_plan_1 : decode cX8_plan 1 = .ok (.getfield 46, 3) := by decide +kernel
theorem dX8_plan_4 : decode cX8_plan 4 = .ok (.invokevirtual 270, 3) := by decide +kernel
theorem dX8_plan_7 : decode cX8_plan 7 = .ok (.aload_n 0, 1) := by decide +kernel
theorem dX8_plan_8 : decode cX8_plan 8 = .ok (.getfield 39, 3) := by decide +kernel
theorem dX8_plan_11 : decode cX8_plan 11 = .ok (.invokevirtual 271, 3) := by decide +kernel
theorem dX8_plan_14 : decode cX8_plan 14 = .ok (.aload_n 1, 1) := by decide +kernel
theorem dX8_plan_15 : decode cX8_plan 15 = .ok (.getfield 73, 3) := by decide +kernel
theorem dX8_plan_18 : decode cX8_plan 18 = .ok (.iload_n 3, 1) := by decide +kernel
theorem dX8_plan_19 : decode cX8_plan 19 = .ok (.invokestatic 64, 3) := by decide +kernel
theorem dX8_plan_22 : decode cX8_plan 22 = .ok (.istore 5, 2) := by decide +kernel
theorem dX8_plan_24 : decode cX8_plan 24 = .ok (.iload 5, 2) := by decide +kernel
theorem dX8_plan_26 : decode cX8_plan 26 = .ok (.ifCond .lt 155, 3) := by decide +kernel
theorem dX8_plan_29 : decode cX8_plan 29 = .ok (.aload_n 1, 1) := by decide +kernel
theorem dX8_plan_30 : decode cX8_plan 30 = .ok (.getfield 85, 3) := by decide +kernel
theorem dX8_plan_33 : decode cX8_plan 33 = .ok (.aload_n 2, 1) := by decide +kernel
theorem dX8_plan_34 : decode cX8_plan 34 = .ok (.iload_n 3, 1) := by decide +kernel
theorem dX8_plan_35 : decode cX8_plan 35 = .ok (.iload 5, 2) := by decide +kernel
theorem dX8_plan_37 : decode cX8_plan 37 = .ok (.invokestatic 224, 3) := by decide +kernel
theorem dX8_plan_40 : decode cX8_plan 40 = .ok (.invokevirtual 228, 3) := by decide +kernel
theorem dX8_plan_43 : decode cX8_plan 43 = .ok (.istore 6, 2) := by decide +kernel
theorem dX8_plan_45 : decode cX8_plan 45 = .ok (.iload 6, 2) := by decide +kernel
theorem dX8_plan_47 : decode cX8_plan 47 = .ok (.ifCond .ge 6, 3) := by decide +kernel
theorem dX8_plan_50 : decode cX8_plan 50 = .ok (.goto 125, 3) := by decide +kernel
theorem dX8_plan_53 : decode cX8_plan 53 = .ok (.aload_n 0, 1) := by decide +kernel
theorem dX8_plan_54 : decode cX8_plan 54 = .ok (.getfield 39, 3) := by decide +kernel
theorem dX8_plan_57 : decode cX8_plan 57 = .ok (.aload_n 1, 1) := by decide +kernel
theorem dX8_plan_58 : decode cX8_plan 58 = .ok (.getfield 85, 3) := by decide +kernel
theorem dX8_plan_61 : decode cX8_plan 61 = .ok (.iload 6, 2) := by decide +kernel
theorem dX8_plan_63 : decode cX8_plan 63 = .ok (.invokevirtual 274, 3) := by decide +kernel
theorem dX8_plan_66 : decode cX8_plan 66 = .ok (.istore 7, 2) := by decide +kernel
theorem dX8_plan_68 : decode cX8_plan 68 = .ok (.iload 7, 2) := by decide +kernel
theorem dX8_plan_70 : decode cX8_plan 70 = .ok (.aload_n 1, 1) := by decide +kernel
theorem dX8_plan_71 : decode cX8_plan 71 = .ok (.getfield 85, 3) := by decide +kernel
theorem dX8_plan_74 : decode cX8_plan 74 = .ok (.iload 6, 2) := by decide +kernel
theorem dX8_plan_76 : decode cX8_plan 76 = .ok (.invokevirtual 278, 3) := by decide +kernel
theorem dX8_plan_79 : decode cX8_plan 79 = .ok (.iadd, 1) := by decide +kernel
theorem dX8_plan_80 : decode cX8_plan 80 = .ok (.istore 8, 2) := by decide +kernel
theorem dX8_plan_82 : decode cX8_plan 82 = .ok (.aload_n 0, 1) := by decide +kernel
theorem dX8_plan_83 : decode cX8_plan 83 = .ok (.getfield 39, 3) := by decide +kernel
theorem dX8_plan_86 : decode cX8_plan 86 = .ok (.aload_n 1, 1) := by decide +kernel
theorem dX8_plan_87 : decode cX8_plan 87 = .ok (.getfield 85, 3) := by decide +kernel
theorem dX8_plan_90 : decode cX8_plan 90 = .ok (.iload 6, 2) := by decide +kernel
theorem dX8_plan_92 : decode cX8_plan 92 = .ok (.iload 4, 2) := by decide +kernel
theorem dX8_plan_94 : decode cX8_plan 94 = .ok (.invokevirtual 281, 3) := by decide +kernel
theorem dX8_plan_97 : decode cX8_plan 97 = .ok (.ifCond .eq 55, 3) := by decide +kernel
theorem dX8_plan_100 : decode cX8_plan 100 = .ok (.aload_n 0, 1) := by decide +kernel
theorem dX8_plan_101 : decode cX8_plan 101 = .ok (.getfield 39, 3) := by decide +kernel
theorem dX8_plan_104 : decode cX8_plan 104 = .ok (.aload_n 1, 1) := by decide +kernel
theorem dX8_plan_105 : decode cX8_plan 105 = .ok (.getfield 85, 3) := by decide +kernel
theorem dX8_plan_108 : decode cX8_plan 108 = .ok (.iload 6, 2) := by decide +kernel
theorem dX8_plan_110 : decode cX8_plan 110 = .ok (.iload 4, 2) := by decide +kernel
theorem dX8_plan_112 : decode cX8_plan 112 = .ok (.invokevirtual 285, 3) := by decide +kernel
theorem dX8_plan_115 : decode cX8_plan 115 = .ok (.istore 9, 2) := by decide +kernel
theorem dX8_plan_117 : decode cX8_plan 117 = .ok (.aload_n 0, 1) := by decide +kernel
theorem dX8_plan_118 : decode cX8_plan 118 = .ok (.getfield 46, 3) := by decide +kernel
theorem dX8_plan_121 : decode cX8_plan 121 = .ok (.iload 9, 2) := by decide +kernel
theorem dX8_plan_123 : decode cX8_plan 123 = .ok (.iload 9, 2) := by decide +kernel
theorem dX8_plan_125 : decode cX8_plan 125 = .ok (.aload_n 1, 1) := by decide +kernel
theorem dX8_plan_126 : decode cX8_plan 126 = .ok (.getfield 85, 3) := by decide +kernel
theorem dX8_plan_129 : decode cX8_plan 129 = .ok (.iload 6, 2) := by decide +kernel
theorem dX8_plan_131 : decode cX8_plan 131 = .ok (.iload 4, 2) := by decide +kernel
theorem dX8_plan_133 : decode cX8_plan 133 = .ok (.invokevirtual 119, 3) := by decide +kernel
theorem dX8_plan_136 : decode cX8_plan 136 = .ok (.iadd, 1) := by decide +kernel
theorem dX8_plan_137 : decode cX8_plan 137 = .ok (.iload 8, 2) := by decide +kernel
theorem dX8_plan_139 : decode cX8_plan 139 = .ok (.invokevirtual 289, 3) := by decide +kernel
theorem dX8_plan_142 : decode cX8_plan 142 = .ok (.aload_n 0, 1) := by decide +kernel
theorem dX8_plan_143 : decode cX8_plan 143 = .ok (.getfield 46, 3) := by decide +kernel
theorem dX8_plan_146 : decode cX8_plan 146 = .ok (.iload 5, 2) := by decide +kernel
theorem dX8_plan_148 : decode cX8_plan 148 = .ok (.putfield 265, 3) := by decide +kernel
theorem dX8_plan_151 : decode cX8_plan 151 = .ok (.return_, 1) := by decide +kernel
theorem dX8_plan_152 : decode cX8_plan 152 = .ok (.aload_n 0, 1) := by decide +kernel
theorem dX8_plan_153 : decode cX8_plan 153 = .ok (.getfield 46, 3) := by decide +kernel
theorem dX8_plan_156 : decode cX8_plan 156 = .ok (.iload 7, 2) := by decide +kernel
theorem dX8_plan_158 : decode cX8_plan 158 = .ok (.iload 8, 2) := by decide +kernel
theorem dX8_plan_160 : decode cX8_plan 160 = .ok (.iload 8, 2) := by decide +kernel
theorem dX8_plan_162 : decode cX8_plan 162 = .ok (.invokevirtual 289, 3) := by decide +kernel
theorem dX8_plan_165 : decode cX8_plan 165 = .ok (.aload_n 0, 1) := by decide +kernel
theorem dX8_plan_166 : decode cX8_plan 166 = .ok (.getfield 39, 3) := by decide +kernel
theorem dX8_plan_169 : decode cX8_plan 169 = .ok (.aload_n 1, 1) := by decide +kernel
theorem dX8_plan_170 : decode cX8_plan 170 = .ok (.iload 6, 2) := by decide +kernel
theorem dX8_plan_172 : decode cX8_plan 172 = .ok (.invokevirtual 291, 3) := by decide +kernel
theorem dX8_plan_175 : decode cX8_plan 175 = .ok (.iinc 5 (-1), 3) := by decide +kernel
theorem dX8_plan_178 : decode cX8_plan 178 = .ok (.goto (-154), 3) := by decide +kernel
theorem dX8_plan_181 : decode cX8_plan 181 = .ok (.aload_n 0, 1) := by decide +kernel
theorem dX8_plan_182 : decode cX8_plan 182 = .ok (.getfield 39, 3) := by decide +kernel
theorem dX8_plan_185 : decode cX8_plan 185 = .ok (.iload 4, 2) := by decide +kernel
theorem dX8_plan_187 : decode cX8_plan 187 = .ok (.invokevirtual 295, 3) := by decide +kernel
theorem dX8_plan_190 : decode cX8_plan 190 = .ok (.istore 5, 2) := by decide +kernel
theorem dX8_plan_192 : decode cX8_plan 192 = .ok (.aload_n 0, 1) := by decide +kernel
theorem dX8_plan_193 : decode cX8_plan 193 = .ok (.getfield 46, 3) := by decide +kernel
theorem dX8_plan_196 : decode cX8_plan 196 = .ok (.iload 5, 2) := by decide +kernel
theorem dX8_plan_198 : decode cX8_plan 198 = .ok (.iload 5, 2) := by decide +kernel
theorem dX8_plan_200 : decode cX8_plan 200 = .ok (.iconst 1, 1) := by decide +kernel
theorem dX8_plan_201 : decode cX8_plan 201 = .ok (.iadd, 1) := by decide +kernel
theorem dX8_plan_202 : decode cX8_plan 202 = .ok (.aload_n 0, 1) := by decide +kernel
theorem dX8_plan_203 : decode cX8_plan 203 = .ok (.getfield 39, 3) := by decide +kernel
theorem dX8_plan_206 : decode cX8_plan 206 = .ok (.bipush 96, 2) := by decide +kernel
theorem dX8_plan_208 : decode cX8_plan 208 = .ok (.invokevirtual 295, 3) := by decide +kernel
theorem dX8_plan_211 : decode cX8_plan 211 = .ok (.invokevirtual 289, 3) := by decide +kernel
theorem dX8_plan_214 : decode cX8_plan 214 = .ok (.aload_n 0, 1) := by decide +kernel
theorem dX8_plan_215 : decode cX8_plan 215 = .ok (.getfield 46, 3) := by decide +kernel
theorem dX8_plan_218 : decode cX8_plan 218 = .ok (.iconst (-1), 1) := by decide +kernel
theorem dX8_plan_219 : decode cX8_plan 219 = .ok (.putfield 265, 3) := by decide +kernel
theorem dX8_plan_222 : decode cX8_plan 222 = .ok (.return_, 1) := by decide +kernel
theorem dX8_readOnTrial_0 : decode cX8_readOnTrial 0 = .ok (.aload_n 0, 1) := by decide +kernel
theorem dX8_readOnTrial_1 : decode cX8_readOnTrial 1 = .ok (.getfield 16, 3) := by decide +kernel
theorem dX8_readOnTrial_4 : decode cX8_readOnTrial 4 = .ok (.aload_n 0, 1) := by decide +kernel
theorem dX8_readOnTrial_5 : decode cX8_readOnTrial 5 = .ok (.getfield 12, 3) := by decide +kernel
theorem dX8_readOnTrial_8 : decode cX8_readOnTrial 8 = .ok (.invokevirtual 231, 3) := by decide +kernel
theorem dX8_readOnTrial_11 : decode cX8_readOnTrial 11 = .ok (.aload_n 0, 1) := by decide +kernel
theorem dX8_readOnTrial_12 : decode cX8_readOnTrial 12 = .ok (.getfield 16, 3) := by decide +kernel
theorem dX8_readOnTrial_15 : decode cX8_readOnTrial 15 = .ok (.getfield 85, 3) := by decide +kernel
theorem dX8_readOnTrial_18 : decode cX8_readOnTrial 18 = .ok (.aload_n 0, 1) := by decide +kernel
theorem dX8_readOnTrial_19 : decode cX8_readOnTrial 19 = .ok (.getfield 12, 3) := by decide +kernel
theorem dX8_readOnTrial_22 : decode cX8_readOnTrial 22 = .ok (.getfield 85, 3) := by decide +kernel
theorem dX8_readOnTrial_25 : decode cX8_readOnTrial 25 = .ok (.invokevirtual 148, 3) := by decide +kernel
theorem dX8_readOnTrial_28 : decode cX8_readOnTrial 28 = .ok (.aload_n 0, 1) := by decide +kernel
theorem dX8_readOnTrial_29 : decode cX8_readOnTrial 29 = .ok (.getfield 16, 3) := by decide +kernel
theorem dX8_readOnTrial_32 : decode cX8_readOnTrial 32 = .ok (.getfield 176, 3) := by decide +kernel
theorem dX8_readOnTrial_35 : decode cX8_readOnTrial 35 = .ok (.invokevirtual 298, 3) := by decide +kernel
theorem dX8_readOnTrial_38 : decode cX8_readOnTrial 38 = .ok (.aload_n 0, 1) := by decide +kernel
theorem dX8_readOnTrial_39 : decode cX8_readOnTrial 39 = .ok (.getfield 60, 3) := by decide +kernel
theorem dX8_readOnTrial_42 : decode cX8_readOnTrial 42 = .ok (.aload_n 0, 1) := by decide +kernel
theorem dX8_readOnTrial_43 : decode cX8_readOnTrial 43 = .ok (.getfield 12, 3) := by decide +kernel
theorem dX8_readOnTrial_46 : decode cX8_readOnTrial 46 = .ok (.getfield 161, 3) := by decide +kernel
theorem dX8_readOnTrial_49 : decode cX8_readOnTrial 49 = .ok (.invokevirtual 299, 3) := by decide +kernel
theorem dX8_readOnTrial_52 : decode cX8_readOnTrial 52 = .ok (.iconst 0, 1) := by decide +kernel
theorem dX8_readOnTrial_53 : decode cX8_readOnTrial 53 = .ok (.istore_n 1, 1) := by decide +kernel
theorem dX8_readOnTrial_54 : decode cX8_readOnTrial 54 = .ok (.iload_n 1, 1) := by decide +kernel
theorem dX8_readOnTrial_55 : decode cX8_readOnTrial 55 = .ok (.sipush 200, 3) := by decide +kernel
theorem dX8_readOnTrial_58 : decode cX8_readOnTrial 58 = .ok (.if_icmp .gt 89, 3) := by decide +kernel
theorem dX8_readOnTrial_61 : decode cX8_readOnTrial 61 = .ok (.aload_n 0, 1) := by decide +kernel
theorem dX8_readOnTrial_62 : decode cX8_readOnTrial 62 = .ok (.aload_n 0, 1) := by decide +kernel
theorem dX8_readOnTrial_63 : decode cX8_readOnTrial 63 = .ok (.getfield 16, 3) := by decide +kernel
theorem dX8_readOnTrial_66 : decode cX8_readOnTrial 66 = .ok (.getfield 176, 3) := by decide +kernel
theorem dX8_readOnTrial_69 : decode cX8_readOnTrial 69 = .ok (.iload_n 1, 1) := by decide +kernel
theorem dX8_readOnTrial_70 : decode cX8_readOnTrial 70 = .ok (.invokevirtual 301, 3) := by decide +kernel
theorem dX8_readOnTrial_73 : decode cX8_readOnTrial 73 = .ok (.istore_n 2, 1) := by decide +kernel
theorem dX8_readOnTrial_74 : decode cX8_readOnTrial 74 = .ok (.iload_n 2, 1) := by decide +kernel
theorem dX8_readOnTrial_75 : decode cX8_readOnTrial 75 = .ok (.ifCond .ge 5, 3) := by decide +kernel
theorem dX8_readOnTrial_78 : decode cX8_readOnTrial 78 = .ok (.iconst 3, 1) := by decide +kernel
theorem dX8_readOnTrial_79 : decode cX8_readOnTrial 79 = .ok (.ireturn, 1) := by decide +kernel
theorem dX8_readOnTrial_80 : decode cX8_readOnTrial 80 = .ok (.iload_n 2, 1) := by decide +kernel
theorem dX8_readOnTrial_81 : decode cX8_readOnTrial 81 = .ok (.bipush 95, 2) := by decide +kernel
theorem dX8_readOnTrial_83 : decode cX8_readOnTrial 83 = .ok (.if_icmp .ne 31, 3) := by decide +kernel
theorem dX8_readOnTrial_86 : decode cX8_readOnTrial 86 = .ok (.aload_n 0, 1) := by decide +kernel
theorem dX8_readOnTrial_87 : decode cX8_readOnTrial 87 = .ok (.getfield 60, 3) := by decide +kernel
theorem dX8_readOnTrial_90 : decode cX8_readOnTrial 90 = .ok (.ldc 245, 2) := by decide +kernel
theorem dX8_readOnTrial_92 : decode cX8_readOnTrial 92 = .ok (.invokevirtual 305, 3) := by decide +kernel
theorem dX8_readOnTrial_95 : decode cX8_readOnTrial 95 = .ok (.aload_n 0, 1) := by decide +kernel
theorem dX8_readOnTrial_96 : decode cX8_readOnTrial 96 = .ok (.getfield 16, 3) := by decide +kernel
theorem dX8_readOnTrial_99 : decode cX8_readOnTrial 99 = .ok (.getfield 176, 3) := by decide +kernel
theorem dX8_readOnTrial_102 : decode cX8_readOnTrial 102 = .ok (.invokestatic 241, 3) := by decide +kernel
theorem dX8_readOnTrial_105 : decode cX8_readOnTrial 105 = .ok (.if_icmp .ne 7, 3) := by decide +kernel
theorem dX8_readOnTrial_108 : decode cX8_readOnTrial 108 = .ok (.iconst 0, 1) := by decide +kernel
theorem dX8_readOnTrial_109 : decode cX8_readOnTrial 109 = .ok (.goto 4, 3) := by decide +kernel
theorem dX8_readOnTrial_112 : decode cX8_readOnTrial 112 = .ok (.iconst 2, 1) := by decide +kernel
theorem dX8_readOnTrial_113 : decode cX8_readOnTrial 113 = .ok (.ireturn, 1) := by decide +kernel
theorem dX8_readOnTrial_114 : decode cX8_readOnTrial 114 = .ok (.aload_n 0, 1) := by decide +kernel
theorem dX8_readOnTrial_115 : decode cX8_readOnTrial 115 = .ok (.getfield 16, 3) := by decide +kernel
theorem dX8_readOnTrial_118 : decode cX8_readOnTrial 118 = .ok (.aload_n 0, 1) := by decide +kernel
theorem dX8_readOnTrial_119 : decode cX8_readOnTrial 119 = .ok (.getfield 16, 3) := by decide +kernel
theorem dX8_readOnTrial_122 : decode cX8_readOnTrial 122 = .ok (.getfield 176, 3) := by decide +kernel
theorem dX8_readOnTrial_125 : decode cX8_readOnTrial 125 = .ok (.iload_n 1, 1) := by decide +kernel
theorem dX8_readOnTrial_126 : decode cX8_readOnTrial 126 = .ok (.iload_n 2, 1) := by decide +kernel
theorem dX8_readOnTrial_127 : decode cX8_readOnTrial 127 = .ok (.invokevirtual 109, 3) := by decide +kernel
theorem dX8_readOnTrial_130 : decode cX8_readOnTrial 130 = .ok (.aload_n 0, 1) := by decide +kernel
theorem dX8_readOnTrial_131 : decode cX8_readOnTrial 131 = .ok (.getfield 16, 3) := by decide +kernel
theorem dX8_readOnTrial_134 : decode cX8_readOnTrial 134 = .ok (.getfield 176, 3) := by decide +kernel
theorem dX8_readOnTrial_137 : decode cX8_readOnTrial 137 = .ok (.iload_n 2, 1) := by decide +kernel
theorem dX8_readOnTrial_138 : decode cX8_readOnTrial 138 = .ok (.invokevirtual 135, 3) := by decide +kernel
theorem dX8_readOnTrial_141 : decode cX8_readOnTrial 141 = .ok (.iinc 1 1, 3) := by decide +kernel
theorem dX8_readOnTrial_144 : decode cX8_readOnTrial 144 = .ok (.goto (-90), 3) := by decide +kernel
theorem dX8_readOnTrial_147 : decode cX8_readOnTrial 147 = .ok (.iconst 1, 1) := by decide +kernel
theorem dX8_readOnTrial_148 : decode cX8_readOnTrial 148 = .ok (.ireturn, 1) := by decide +kernel
theorem dX8_readSymbol_0 : decode cX8_readSymbol 0 = .ok (.aload_n 0, 1) := by decide +kernel
theorem dX8_readSymbol_1 : decode cX8_readSymbol 1 = .ok (.getfield 16, 3) := by decide +kernel
theorem dX8_readSymbol_4 : decode cX8_readSymbol 4 = .ok (.getfield 85, 3) := by decide +kernel
theorem dX8_readSymbol_7 : decode cX8_readSymbol 7 = .ok (.astore_n 3, 1) := by decide +kernel
theorem dX8_readSymbol_8 : decode cX8_readSymbol 8 = .ok (.aload_n 0, 1) := by decide +kernel
theorem dX8_readSymbol_9 : decode cX8_readSymbol 9 = .ok (.getfield 39, 3) := by decide +kernel
theorem dX8_readSymbol_12 : decode cX8_readSymbol 12 = .ok (.invokevirtual 271, 3) := by decide +kernel
theorem dX8_readSymbol_15 : decode cX8_readSymbol 15 = .ok (.aload_n 0, 1) := by decide +kernel
theorem dX8_readSymbol_16 : decode cX8_readSymbol 16 = .ok (.getfield 16, 3) := by decide +kernel
theorem dX8_readSymbol_19 : decode cX8_readSymbol 19 = .ok (.getfield 73, 3) := by decide +kernel
theorem dX8_readSymbol_22 : decode cX8_readSymbol 22 = .ok (.iload_n 2, 1) := by decide +kernel
theorem dX8_readSymbol_23 : decode cX8_readSymbol 23 = .ok (.invokestatic 64, 3) := by decide +kernel
theorem dX8_readSymbol_26 : decode cX8_readSymbol 26 = .ok (.istore 4, 2) := by decide +kernel
theorem dX8_readSymbol_28 : decode cX8_readSymbol 28 = .ok (.iload 4, 2) := by decide +kernel
theorem dX8_readSymbol_30 : decode cX8_readSymbol 30 = .ok (.ifCond .lt 150, 3) := by decide +kernel
theorem dX8_readSymbol_33 : decode cX8_readSymbol 33 = .ok (.aload_n 3, 1) := by decide +kernel
theorem dX8_readSymbol_34 : decode cX8_readSymbol 34 = .ok (.aload_n 1, 1) := by decide +kernel
theorem dX8_readSymbol_35 : decode cX8_readSymbol 35 = .ok (.iload_n 2, 1) := by decide +kernel
theorem dX8_readSymbol_36 : decode cX8_readSymbol 36 = .ok (.iload 4, 2) := by decide +kernel
theorem dX8_readSymbol_38 : decode cX8_readSymbol 38 = .ok (.invokestatic 224, 3) := by decide +kernel
theorem dX8_readSymbol_41 : decode cX8_readSymbol 41 = .ok (.invokevirtual 228, 3) := by decide +kernel
theorem dX8_readSymbol_44 : decode cX8_readSymbol 44 = .ok (.istore 5, 2) := by decide +kernel
theorem dX8_readSymbol_46 : decode cX8_readSymbol 46 = .ok (.iload 5, 2) := by decide +kernel
theorem dX8_readSymbol_48 : decode cX8_readSymbol 48 = .ok (.ifCond .ge 6, 3) := by decide +kernel
theorem dX8_readSymbol_51 : decode cX8_readSymbol 51 = .ok (.goto 123, 3) := by decide +kernel
theorem dX8_readSymbol_54 : decode cX8_readSymbol 54 = .ok (.aload_n 0, 1) := by decide +kernel
theorem dX8_readSymbol_55 : decode cX8_readSymbol 55 = .ok (.getfield 39, 3) := by decide +kernel
theorem dX8_readSymbol_58 : decode cX8_readSymbol 58 = .ok (.aload_n 3, 1) := by decide +kernel
theorem dX8_readSymbol_59 : decode cX8_readSymbol 59 = .ok (.iload 5, 2) := by decide +kernel
theorem dX8_readSymbol_61 : decode cX8_readSymbol 61 = .ok (.invokevirtual 274, 3) := by decide +kernel
theorem dX8_readSymbol_64 : decode cX8_readSymbol 64 = .ok (.istore 6, 2) := by decide +kernel
theorem dX8_readSymbol_66 : decode cX8_readSymbol 66 = .ok (.iload 6, 2) := by decide +kernel
theorem dX8_readSymbol_68 : decode cX8_readSymbol 68 = .ok (.aload_n 3, 1) := by decide +kernel
theorem dX8_readSymbol_69 : decode cX8_readSymbol 69 = .ok (.iload 5, 2) := by decide +kernel
theorem dX8_readSymbol_71 : decode cX8_readSymbol 71 = .ok (.invokevirtual 278, 3) := by decide +kernel
theorem dX8_readSymbol_74 : decode cX8_readSymbol 74 = .ok (.iadd, 1) := by decide +kernel
theorem dX8_readSymbol_75 : decode cX8_readSymbol 75 = .ok (.istore 7, 2) := by decide +kernel
theorem dX8_readSymbol_77 : decode cX8_readSymbol 77 = .ok (.aload_n 0, 1) := by decide +kernel
theorem dX8_readSymbol_78 : decode cX8_readSymbol 78 = .ok (.getfield 60, 3) := by decide +kernel
theorem dX8_readSymbol_81 : decode cX8_readSymbol 81 = .ok (.iload 7, 2) := by decide +kernel
theorem dX8_readSymbol_83 : decode cX8_readSymbol 83 = .ok (.invokevirtual 305, 3) := by decide +kernel
theorem dX8_readSymbol_86 : decode cX8_readSymbol 86 = .ok (.istore 8, 2) := by decide +kernel
theorem dX8_readSymbol_88 : decode cX8_readSymbol 88 = .ok (.iload 8, 2) := by decide +kernel
theorem dX8_readSymbol_90 : decode cX8_readSymbol 90 = .ok (.iload 6, 2) := by decide +kernel
theorem dX8_readSymbol_92 : decode cX8_readSymbol 92 = .ok (.if_icmp .ge 56, 3) := by decide +kernel
theorem dX8_readSymbol_95 : decode cX8_readSymbol 95 = .ok (.aload_n 0, 1) := by decide +kernel
theorem dX8_readSymbol_96 : decode cX8_readSymbol 96 = .ok (.getfield 39, 3) := by decide +kernel
theorem dX8_readSymbol_99 : decode cX8_readSymbol 99 = .ok (.aload_n 3, 1) := by decide +kernel
theorem dX8_readSymbol_100 : decode cX8_readSymbol 100 = .ok (.iload 5, 2) := by decide +kernel
theorem dX8_readSymbol_102 : decode cX8_readSymbol 102 = .ok (.iload 8, 2) := by decide +kernel
theorem dX8_readSymbol_104 : decode cX8_readSymbol 104 = .ok (.invokevirtual 308, 3) := by decide +kernel
theorem dX8_readSymbol_107 : decode cX8_readSymbol 107 = .ok (.istore 9, 2) := by decide +kernel
theorem dX8_readSymbol_109 : decode cX8_readSymbol 109 = .ok (.aload_n 0, 1) := by decide +kernel
theorem dX8_readSymbol_110 : decode cX8_readSymbol 110 = .ok (.getfield 39, 3) := by decide +kernel
theorem dX8_readSymbol_113 : decode cX8_readSymbol 113 = .ok (.aload_n 3, 1) := by decide +kernel
theorem dX8_readSymbol_114 : decode cX8_readSymbol 114 = .ok (.iload 5, 2) := by decide +kernel
theorem dX8_readSymbol_116 : decode cX8_readSymbol 116 = .ok (.iload 9, 2) := by decide +kernel
theorem dX8_readSymbol_118 : decode cX8_readSymbol 118 = .ok (.invokevirtual 285, 3) := by decide +kernel
theorem dX8_readSymbol_121 : decode cX8_readSymbol 121 = .ok (.istore 10, 2) := by decide +kernel
theorem dX8_readSymbol_123 : decode cX8_readSymbol 123 = .ok (.aload_n 0, 1) := by decide +kernel
theorem dX8_readSymbol_124 : decode cX8_readSymbol 124 = .ok (.getfield 60, 3) := by decide +kernel
theorem dX8_readSymbol_127 : decode cX8_readSymbol 127 = .ok (.iload 10, 2) := by decide +kernel
theorem dX8_readSymbol_129 : decode cX8_readSymbol 129 = .ok (.iload 10, 2) := by decide +kernel
theorem dX8_readSymbol_131 : decode cX8_readSymbol 131 = .ok (.aload_n 3, 1) := by decide +kernel
theorem dX8_readSymbol_132 : decode cX8_readSymbol 132 = .ok (.iload 5, 2) := by decide +kernel
theorem dX8_readSymbol_134 : decode cX8_readSymbol 134 = .ok (.iload 9, 2) := by decide +kernel
theorem dX8_readSymbol_136 : decode cX8_readSymbol 136 = .ok (.invokevirtual 119, 3) := by decide +kernel
theorem dX8_readSymbol_139 : decode cX8_readSymbol 139 = .ok (.iadd, 1) := by decide +kernel
theorem dX8_readSymbol_140 : decode cX8_readSymbol 140 = .ok (.iload 7, 2) := by decide +kernel
theorem dX8_readSymbol_142 : decode cX8_readSymbol 142 = .ok (.invokevirtual 311, 3) := by decide +kernel
theorem dX8_readSymbol_145 : decode cX8_readSymbol 145 = .ok (.iload 9, 2) := by decide +kernel
theorem dX8_readSymbol_147 : decode cX8_readSymbol 147 = .ok (.ireturn, 1) := by decide +kernel
theorem dX8_readSymbol_148 : decode cX8_readSymbol 148 = .ok (.aload_n 0, 1) := by decide +kernel
theorem dX8_readSymbol_149 : decode cX8_readSymbol 149 = .ok (.getfield 60, 3) := by decide +kernel
theorem dX8_readSymbol_152 : decode cX8_readSymbol 152 = .ok (.iload 6, 2) := by decide +kernel
theorem dX8_readSymbol_154 : decode cX8_readSymbol 154 = .ok (.iload 7, 2) := by decide +kernel
theorem dX8_readSymbol_156 : decode cX8_readSymbol 156 = .ok (.iload 7, 2) := by decide +kernel
theorem dX8_readSymbol_158 : decode cX8_readSymbol 158 = .ok (.invokevirtual 311, 3) := by decide +kernel
theorem dX8_readSymbol_161 : decode cX8_readSymbol 161 = .ok (.aload_n 0, 1) := by decide +kernel
theorem dX8_readSymbol_162 : decode cX8_readSymbol 162 = .ok (.getfield 39, 3) := by decide +kernel
theorem dX8_readSymbol_165 : decode cX8_readSymbol 165 = .ok (.aload_n 0, 1) := by decide +kernel
theorem dX8_readSymbol_166 : decode cX8_readSymbol 166 = .ok (.getfield 16, 3) := by decide +kernel
theorem dX8_readSymbol_169 : decode cX8_readSymbol 169 = .ok (.iload 5, 2) := by decide +kernel
theorem dX8_readSymbol_171 : decode cX8_readSymbol 171 = .ok (.invokevirtual 291, 3) := by decide +kernel
theorem dX8_readSymbol_174 : decode cX8_readSymbol 174 = .ok (.iinc 4 (-1), 3) := by decide +kernel
theorem dX8_readSymbol_177 : decode cX8_readSymbol 177 = .ok (.goto (-149), 3) := by decide +kernel
theorem dX8_readSymbol_180 : decode cX8_readSymbol 180 = .ok (.aload_n 0, 1) := by decide +kernel
theorem dX8_readSymbol_181 : decode cX8_readSymbol 181 = .ok (.getfield 39, 3) := by decide +kernel
theorem dX8_readSymbol_184 : decode cX8_readSymbol 184 = .ok (.bipush 96, 2) := by decide +kernel
theorem dX8_readSymbol_186 : decode cX8_readSymbol 186 = .ok (.invokevirtual 295, 3) := by decide +kernel
theorem dX8_readSymbol_189 : decode cX8_readSymbol 189 = .ok (.istore 4, 2) := by decide +kernel
theorem dX8_readSymbol_191 : decode cX8_readSymbol 191 = .ok (.iload 4, 2) := by decide +kernel
theorem dX8_readSymbol_193 : decode cX8_readSymbol 193 = .ok (.iconst 1, 1) := by decide +kernel
theorem dX8_readSymbol_194 : decode cX8_readSymbol 194 = .ok (.if_icmp .ge 5, 3) := by decide +kernel
theorem dX8_readSymbol_197 : decode cX8_readSymbol 197 = .ok (.iconst (-1), 1) := by decide +kernel
theorem dX8_readSymbol_198 : decode cX8_readSymbol 198 = .ok (.ireturn, 1) := by decide +kernel
theorem dX8_readSymbol_199 : decode cX8_readSymbol 199 = .ok (.aload_n 0, 1) := by decide +kernel
theorem dX8_readSymbol_200 : decode cX8_readSymbol 200 = .ok (.getfield 60, 3) := by decide +kernel
theorem dX8_readSymbol_203 : decode cX8_readSymbol 203 = .ok (.iload 4, 2) := by decide +kernel
theorem dX8_readSymbol_205 : decode cX8_readSymbol 205 = .ok (.invokevirtual 305, 3) := by decide +kernel
theorem dX8_readSymbol_208 : decode cX8_readSymbol 208 = .ok (.istore 5, 2) := by decide +kernel
theorem dX8_readSymbol_210 : decode cX8_readSymbol 210 = .ok (.aload_n 0, 1) := by decide +kernel
theorem dX8_readSymbol_211 : decode cX8_readSymbol 211 = .ok (.getfield 60, 3) := by decide +kernel
theorem dX8_readSymbol_214 : decode cX8_readSymbol 214 = .ok (.iload 5, 2) := by decide +kernel
theorem dX8_readSymbol_216 : decode cX8_readSymbol 216 = .ok (.iload 5, 2) := by decide +kernel
theorem dX8_readSymbol_218 : decode cX8_readSymbol 218 = .ok (.iconst 1, 1) := by decide +kernel
theorem dX8_readSymbol_219 : decode cX8_readSymbol 219 = .ok (.iadd, 1) := by decide +kernel
theorem dX8_readSymbol_220 : decode cX8_readSymbol 220 = .ok (.iload 4, 2) := by decide +kernel
theorem dX8_readSymbol_222 : decode cX8_readSymbol 222 = .ok (.invokevirtual 311, 3) := by decide +kernel
theorem dX8_readSymbol_225 : decode cX8_readSymbol 225 = .ok (.aload_n 0, 1) := by decide +kernel
theorem dX8_readSymbol_226 : decode cX8_readSymbol 226 = .ok (.getfield 39, 3) := by decide +kernel
theorem dX8_readSymbol_229 : decode cX8_readSymbol 229 = .ok (.iload 5, 2) := by decide +kernel
theorem dX8_readSymbol_231 : decode cX8_readSymbol 231 = .ok (.invokevirtual 312, 3) := by decide +kernel
theorem dX8_readSymbol_234 : decode cX8_readSymbol 234 = .ok (.ireturn, 1) := by decide +kernel
theorem dX8_contextKey_0 : decode cX8_contextKey 0 = .ok (.iconst 1, 1) := by decide +kernel
theorem dX8_contextKey_1 : decode cX8_contextKey 1 = .ok (.istore_n 3, 1) := by decide +kernel
theorem dX8_contextKey_2 : decode cX8_contextKey 2 = .ok (.iload_n 1, 1) := by decide +kernel
theorem dX8_contextKey_3 : decode cX8_contextKey 3 = .ok (.iload_n 2, 1) := by decide +kernel
theorem dX8_contextKey_4 : decode cX8_contextKey 4 = .ok (.isub, 1) := by decide +kernel
theorem dX8_contextKey_5 : decode cX8_contextKey 5 = .ok (.istore 4, 2) := by decide +kernel
theorem dX8_contextKey_7 : decode cX8_contextKey 7 = .ok (.iload 4, 2) := by decide +kernel
theorem dX8_contextKey_9 : decode cX8_contextKey 9 = .ok (.iload_n 1, 1) := by decide +kernel
theorem dX8_contextKey_10 : decode cX8_contextKey 10 = .ok (.if_icmp .ge 21, 3) := by decide +kernel
theorem dX8_contextKey_13 : decode cX8_contextKey 13 = .ok (.iload_n 3, 1) := by decide +kernel
theorem dX8_contextKey_14 : decode cX8_contextKey 14 = .ok (.bipush 95, 2) := by decide +kernel
theorem dX8_contextKey_16 : decode cX8_contextKey 16 = .ok (.imul, 1) := by decide +kernel
theorem dX8_contextKey_17 : decode cX8_contextKey 17 = .ok (.aload_n 0, 1) := by decide +kernel
theorem dX8_contextKey_18 : decode cX8_contextKey 18 = .ok (.iload 4, 2) := by decide +kernel
theorem dX8_contextKey_20 : decode cX8_contextKey 20 = .ok (.invokevirtual 105, 3) := by decide +kernel
theorem dX8_contextKey_23 : decode cX8_contextKey 23 = .ok (.iadd, 1) := by decide +kernel
theorem dX8_contextKey_24 : decode cX8_contextKey 24 = .ok (.istore_n 3, 1) := by decide +kernel
theorem dX8_contextKey_25 : decode cX8_contextKey 25 = .ok (.iinc 4 1, 3) := by decide +kernel
theorem dX8_contextKey_28 : decode cX8_contextKey 28 = .ok (.goto (-21), 3) := by decide +kernel
theorem dX8_contextKey_31 : decode cX8_contextKey 31 = .ok (.iload_n 3, 1) := by decide +kernel
theorem dX8_contextKey_32 : decode cX8_contextKey 32 = .ok (.ireturn, 1) := by decide +kernel
theorem dX8_checkNumber_0 : decode cX8_checkNumber 0 = .ok (.iconst 1, 1) := by decide +kernel
theorem dX8_checkNumber_1 : decode cX8_checkNumber 1 = .ok (.istore_n 1, 1) := by decide +kernel
theorem dX8_checkNumber_2 : decode cX8_checkNumber 2 = .ok (.iconst 0, 1) := by decide +kernel
theorem dX8_checkNumber_3 : decode cX8_checkNumber 3 = .ok (.istore_n 2, 1) := by decide +kernel
theorem dX8_checkNumber_4 : decode cX8_checkNumber 4 = .ok (.iload_n 2, 1) := by decide +kernel
theorem dX8_checkNumber_5 : decode cX8_checkNumber 5 = .ok (.aload_n 0, 1) := by decide +kernel
theorem dX8_checkNumber_6 : decode cX8_checkNumber 6 = .ok (.getfield 102, 3) := by decide +kernel
theorem dX8_checkNumber_9 : decode cX8_checkNumber 9 = .ok (.if_icmp .ge 27, 3) := by decide +kernel
theorem dX8_checkNumber_12 : decode cX8_checkNumber 12 = .ok (.bipush 31, 2) := by decide +kernel
theorem dX8_checkNumber_14 : decode cX8_checkNumber 14 = .ok (.iload_n 1, 1) := by decide +kernel
theorem dX8_checkNumber_15 : decode cX8_checkNumber 15 = .ok (.imul, 1) := by decide +kernel
theorem dX8_checkNumber_16 : decode cX8_checkNumber 16 = .ok (.aload_n 0, 1) := by decide +kernel
theorem dX8_checkNumber_17 : decode cX8_checkNumber 17 = .ok (.iload_n 2, 1) := by decide +kernel
theorem dX8_checkNumber_18 : decode cX8_checkNumber 18 = .ok (.invokevirtual 105, 3) := by decide +kernel
theorem dX8_checkNumber_21 : decode cX8_checkNumber 21 = .ok (.iadd, 1) := by decide +kernel
theorem dX8_checkNumber_22 : decode cX8_checkNumber 22 = .ok (.bipush 32, 2) := by decide +kernel
theorem dX8_checkNumber_24 : decode cX8_checkNumber 24 = .ok (.iadd, 1) := by decide +kernel
theorem dX8_checkNumber_25 : decode cX8_checkNumber 25 = .ok (.ldc_w 315, 3) := by decide +kernel
theorem dX8_checkNumber_28 : decode cX8_checkNumber 28 = .ok (.irem, 1) := by decide +kernel
theorem dX8_checkNumber_29 : decode cX8_checkNumber 29 = .ok (.istore_n 1, 1) := by decide +kernel
theorem dX8_checkNumber_30 : decode cX8_checkNumber 30 = .ok (.iinc 2 1, 3) := by decide +kernel
