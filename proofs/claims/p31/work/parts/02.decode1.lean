theorem dX0_init_0 : decode cX0_init 0 = .ok (.aload_n 0, 1) := by decide +kernel
theorem dX0_init_1 : decode cX0_init 1 = .ok (.invokespecial 3, 3) := by decide +kernel
theorem dX0_init_4 : decode cX0_init 4 = .ok (.aload_n 0, 1) := by decide +kernel
theorem dX0_init_5 : decode cX0_init 5 = .ok (.bipush 96, 2) := by decide +kernel
theorem dX0_init_7 : decode cX0_init 7 = .ok (.newarray .boolean, 2) := by decide +kernel
theorem dX0_init_9 : decode cX0_init 9 = .ok (.putfield 9, 3) := by decide +kernel
theorem dX0_init_12 : decode cX0_init 12 = .ok (.aload_n 0, 1) := by decide +kernel
theorem dX0_init_13 : decode cX0_init 13 = .ok (.iconst 1, 1) := by decide +kernel
theorem dX0_init_14 : decode cX0_init 14 = .ok (.putfield 15, 3) := by decide +kernel
theorem dX0_init_17 : decode cX0_init 17 = .ok (.return_, 1) := by decide +kernel
theorem dX0_restart_0 : decode cX0_restart 0 = .ok (.iconst 0, 1) := by decide +kernel
theorem dX0_restart_1 : decode cX0_restart 1 = .ok (.istore_n 1, 1) := by decide +kernel
theorem dX0_restart_2 : decode cX0_restart 2 = .ok (.iload_n 1, 1) := by decide +kernel
theorem dX0_restart_3 : decode cX0_restart 3 = .ok (.aload_n 0, 1) := by decide +kernel
theorem dX0_restart_4 : decode cX0_restart 4 = .ok (.getfield 9, 3) := by decide +kernel
theorem dX0_restart_7 : decode cX0_restart 7 = .ok (.arraylength, 1) := by decide +kernel
theorem dX0_restart_8 : decode cX0_restart 8 = .ok (.if_icmp .ge 23, 3) := by decide +kernel
theorem dX0_restart_11 : decode cX0_restart 11 = .ok (.aload_n 0, 1) := by decide +kernel
theorem dX0_restart_12 : decode cX0_restart 12 = .ok (.getfield 15, 3) := by decide +kernel
theorem dX0_restart_15 : decode cX0_restart 15 = .ok (.ifCond .ne 16, 3) := by decide +kernel
theorem dX0_restart_18 : decode cX0_restart 18 = .ok (.aload_n 0, 1) := by decide +kernel
theorem dX0_restart_19 : decode cX0_restart 19 = .ok (.getfield 9, 3) := by decide +kernel
theorem dX0_restart_22 : decode cX0_restart 22 = .ok (.iload_n 1, 1) := by decide +kernel
theorem dX0_restart_23 : decode cX0_restart 23 = .ok (.iconst 0, 1) := by decide +kernel
theorem dX0_restart_24 : decode cX0_restart 24 = .ok (.bastore, 1) := by decide +kernel
theorem dX0_restart_25 : decode cX0_restart 25 = .ok (.iinc 1 1, 3) := by decide +kernel
theorem dX0_restart_28 : decode cX0_restart 28 = .ok (.goto (-26), 3) := by decide +kernel
theorem dX0_restart_31 : decode cX0_restart 31 = .ok (.aload_n 0, 1) := by decide +kernel
theorem dX0_restart_32 : decode cX0_restart 32 = .ok (.iconst 1, 1) := by decide +kernel
theorem dX0_restart_33 : decode cX0_restart 33 = .ok (.putfield 15, 3) := by decide +kernel
theorem dX0_restart_36 : decode cX0_restart 36 = .ok (.return_, 1) := by decide +kernel
theorem dX0_remains_0 : decode cX0_remains 0 = .ok (.iload_n 1, 1) := by decide +kernel
theorem dX0_remains_1 : decode cX0_remains 1 = .ok (.ifCond .lt 25, 3) := by decide +kernel
theorem dX0_remains_4 : decode cX0_remains 4 = .ok (.iload_n 1, 1) := by decide +kernel
theorem dX0_remains_5 : decode cX0_remains 5 = .ok (.aload_n 0, 1) := by decide +kernel
theorem dX0_remains_6 : decode cX0_remains 6 = .ok (.getfield 9, 3) := by decide +kernel
theorem dX0_remains_9 : decode cX0_remains 9 = .ok (.arraylength, 1) := by decide +kernel
theorem dX0_remains_10 : decode cX0_remains 10 = .ok (.if_icmp .ge 16, 3) := by decide +kernel
theorem dX0_remains_13 : decode cX0_remains 13 = .ok (.aload_n 0, 1) := by decide +kernel
theorem dX0_remains_14 : decode cX0_remains 14 = .ok (.getfield 9, 3) := by decide +kernel
theorem dX0_remains_17 : decode cX0_remains 17 = .ok (.iload_n 1, 1) := by decide +kernel
theorem dX0_remains_18 : decode cX0_remains 18 = .ok (.baload, 1) := by decide +kernel
theorem dX0_remains_19 : decode cX0_remains 19 = .ok (.ifCond .ne 7, 3) := by decide +kernel
theorem dX0_remains_22 : decode cX0_remains 22 = .ok (.iconst 1, 1) := by decide +kernel
theorem dX0_remains_23 : decode cX0_remains 23 = .ok (.goto 4, 3) := by decide +kernel
theorem dX0_remains_26 : decode cX0_remains 26 = .ok (.iconst 0, 1) := by decide +kernel
theorem dX0_remains_27 : decode cX0_remains 27 = .ok (.ireturn, 1) := by decide +kernel
theorem dX0_holds_0 : decode cX0_holds 0 = .ok (.aload_n 0, 1) := by decide +kernel
theorem dX0_holds_1 : decode cX0_holds 1 = .ok (.iload_n 3, 1) := by decide +kernel
theorem dX0_holds_2 : decode cX0_holds 2 = .ok (.invokevirtual 19, 3) := by decide +kernel
theorem dX0_holds_5 : decode cX0_holds 5 = .ok (.ifCond .eq 16, 3) := by decide +kernel
theorem dX0_holds_8 : decode cX0_holds 8 = .ok (.aload_n 1, 1) := by decide +kernel
theorem dX0_holds_9 : decode cX0_holds 9 = .ok (.iload_n 2, 1) := by decide +kernel
theorem dX0_holds_10 : decode cX0_holds 10 = .ok (.iload_n 3, 1) := by decide +kernel
theorem dX0_holds_11 : decode cX0_holds 11 = .ok (.invokevirtual 23, 3) := by decide +kernel
theorem dX0_holds_14 : decode cX0_holds 14 = .ok (.ifCond .le 7, 3) := by decide +kernel
theorem dX0_holds_17 : decode cX0_holds 17 = .ok (.iconst 1, 1) := by decide +kernel
theorem dX0_holds_18 : decode cX0_holds 18 = .ok (.goto 4, 3) := by decide +kernel
theorem dX0_holds_21 : decode cX0_holds 21 = .ok (.iconst 0, 1) := by decide +kernel
theorem dX0_holds_22 : decode cX0_holds 22 = .ok (.ireturn, 1) := by decide +kernel
theorem dX0_sum_0 : decode cX0_sum 0 = .ok (.aload_n 0, 1) := by decide +kernel
theorem dX0_sum_1 : decode cX0_sum 1 = .ok (.getfield 15, 3) := by decide +kernel
theorem dX0_sum_4 : decode cX0_sum 4 = .ok (.ifCond .eq 11, 3) := by decide +kernel
theorem dX0_sum_7 : decode cX0_sum 7 = .ok (.aload_n 1, 1) := by decide +kernel
theorem dX0_sum_8 : decode cX0_sum 8 = .ok (.iload_n 2, 1) := by decide +kernel
theorem dX0_sum_9 : decode cX0_sum 9 = .ok (.invokevirtual 29, 3) := by decide +kernel
theorem dX0_sum_12 : decode cX0_sum 12 = .ok (.goto 11, 3) := by decide +kernel
theorem dX0_sum_15 : decode cX0_sum 15 = .ok (.aload_n 0, 1) := by decide +kernel
theorem dX0_sum_16 : decode cX0_sum 16 = .ok (.aload_n 1, 1) := by decide +kernel
theorem dX0_sum_17 : decode cX0_sum 17 = .ok (.iload_n 2, 1) := by decide +kernel
theorem dX0_sum_18 : decode cX0_sum 18 = .ok (.bipush 96, 2) := by decide +kernel
theorem dX0_sum_20 : decode cX0_sum 20 = .ok (.invokevirtual 33, 3) := by decide +kernel
theorem dX0_sum_23 : decode cX0_sum 23 = .ok (.ireturn, 1) := by decide +kernel
theorem dX0_sumBelow_0 : decode cX0_sumBelow 0 = .ok (.iconst 0, 1) := by decide +kernel
theorem dX0_sumBelow_1 : decode cX0_sumBelow 1 = .ok (.istore 4, 2) := by decide +kernel
theorem dX0_sumBelow_3 : decode cX0_sumBelow 3 = .ok (.iconst 0, 1) := by decide +kernel
theorem dX0_sumBelow_4 : decode cX0_sumBelow 4 = .ok (.istore 5, 2) := by decide +kernel
theorem dX0_sumBelow_6 : decode cX0_sumBelow 6 = .ok (.iload 5, 2) := by decide +kernel
theorem dX0_sumBelow_8 : decode cX0_sumBelow 8 = .ok (.iload_n 3, 1) := by decide +kernel
theorem dX0_sumBelow_9 : decode cX0_sumBelow 9 = .ok (.if_icmp .ge 30, 3) := by decide +kernel
theorem dX0_sumBelow_12 : decode cX0_sumBelow 12 = .ok (.aload_n 0, 1) := by decide +kernel
theorem dX0_sumBelow_13 : decode cX0_sumBelow 13 = .ok (.iload 5, 2) := by decide +kernel
theorem dX0_sumBelow_15 : decode cX0_sumBelow 15 = .ok (.invokevirtual 19, 3) := by decide +kernel
theorem dX0_sumBelow_18 : decode cX0_sumBelow 18 = .ok (.ifCond .eq 15, 3) := by decide +kernel
theorem dX0_sumBelow_21 : decode cX0_sumBelow 21 = .ok (.iload 4, 2) := by decide +kernel
theorem dX0_sumBelow_23 : decode cX0_sumBelow 23 = .ok (.aload_n 1, 1) := by decide +kernel
theorem dX0_sumBelow_24 : decode cX0_sumBelow 24 = .ok (.iload_n 2, 1) := by decide +kernel
theorem dX0_sumBelow_25 : decode cX0_sumBelow 25 = .ok (.iload 5, 2) := by decide +kernel
theorem dX0_sumBelow_27 : decode cX0_sumBelow 27 = .ok (.invokevirtual 23, 3) := by decide +kernel
theorem dX0_sumBelow_30 : decode cX0_sumBelow 30 = .ok (.iadd, 1) := by decide +kernel
theorem dX0_sumBelow_31 : decode cX0_sumBelow 31 = .ok (.istore 4, 2) := by decide +kernel
theorem dX0_sumBelow_33 : decode cX0_sumBelow 33 = .ok (.iinc 5 1, 3) := by decide +kernel
theorem dX0_sumBelow_36 : decode cX0_sumBelow 36 = .ok (.goto (-30), 3) := by decide +kernel
theorem dX0_sumBelow_39 : decode cX0_sumBelow 39 = .ok (.iload 4, 2) := by decide +kernel
theorem dX0_sumBelow_41 : decode cX0_sumBelow 41 = .ok (.ireturn, 1) := by decide +kernel
theorem dX0_symbolAt_0 : decode cX0_symbolAt 0 = .ok (.iconst 0, 1) := by decide +kernel
theorem dX0_symbolAt_1 : decode cX0_symbolAt 1 = .ok (.istore 4, 2) := by decide +kernel
theorem dX0_symbolAt_3 : decode cX0_symbolAt 3 = .ok (.iconst 0, 1) := by decide +kernel
theorem dX0_symbolAt_4 : decode cX0_symbolAt 4 = .ok (.istore 5, 2) := by decide +kernel
theorem dX0_symbolAt_6 : decode cX0_symbolAt 6 = .ok (.iload 5, 2) := by decide +kernel
theorem dX0_symbolAt_8 : decode cX0_symbolAt 8 = .ok (.bipush 96, 2) := by decide +kernel
theorem dX0_symbolAt_10 : decode cX0_symbolAt 10 = .ok (.if_icmp .ge 39, 3) := by decide +kernel
theorem dX0_symbolAt_13 : decode cX0_symbolAt 13 = .ok (.aload_n 0, 1) := by decide +kernel
theorem dX0_symbolAt_14 : decode cX0_symbolAt 14 = .ok (.iload 5, 2) := by decide +kernel
theorem dX0_symbolAt_16 : decode cX0_symbolAt 16 = .ok (.invokevirtual 19, 3) := by decide +kernel
theorem dX0_symbolAt_19 : decode cX0_symbolAt 19 = .ok (.ifCond .eq 15, 3) := by decide +kernel
theorem dX0_symbolAt_22 : decode cX0_symbolAt 22 = .ok (.iload 4, 2) := by decide +kernel
theorem dX0_symbolAt_24 : decode cX0_symbolAt 24 = .ok (.aload_n 1, 1) := by decide +kernel
theorem dX0_symbolAt_25 : decode cX0_symbolAt 25 = .ok (.iload_n 2, 1) := by decide +kernel
theorem dX0_symbolAt_26 : decode cX0_symbolAt 26 = .ok (.iload 5, 2) := by decide +kernel
theorem dX0_symbolAt_28 : decode cX0_symbolAt 28 = .ok (.invokevirtual 23, 3) := by decide +kernel
theorem dX0_symbolAt_31 : decode cX0_symbolAt 31 = .ok (.iadd, 1) := by decide +kernel
theorem dX0_symbolAt_32 : decode cX0_symbolAt 32 = .ok (.istore 4, 2) := by decide +kernel
theorem dX0_symbolAt_34 : decode cX0_symbolAt 34 = .ok (.iload 4, 2) := by decide +kernel
theorem dX0_symbolAt_36 : decode cX0_symbolAt 36 = .ok (.iload_n 3, 1) := by decide +kernel
theorem dX0_symbolAt_37 : decode cX0_symbolAt 37 = .ok (.if_icmp .le 6, 3) := by decide +kernel
theorem dX0_symbolAt_40 : decode cX0_symbolAt 40 = .ok (.iload 5, 2) := by decide +kernel
theorem dX0_symbolAt_42 : decode cX0_symbolAt 42 = .ok (.ireturn, 1) := by decide +kernel
theorem dX0_symbolAt_43 : decode cX0_symbolAt 43 = .ok (.iinc 5 1, 3) := by decide +kernel
theorem dX0_symbolAt_46 : decode cX0_symbolAt 46 = .ok (.goto (-40), 3) := by decide +kernel
theorem dX0_symbolAt_49 : decode cX0_symbolAt 49 = .ok (.iconst (-1), 1) := by decide +kernel
theorem dX0_symbolAt_50 : decode cX0_symbolAt 50 = .ok (.ireturn, 1) := by decide +kernel
theorem dX0_leave_0 : decode cX0_leave 0 = .ok (.aload_n 1, 1) := by decide +kernel
theorem dX0_leave_1 : decode cX0_leave 1 = .ok (.getfield 37, 3) := by decide +kernel
theorem dX0_leave_4 : decode cX0_leave 4 = .ok (.ifCond .ne 4, 3) := by decide +kernel
theorem dX0_leave_7 : decode cX0_leave 7 = .ok (.return_, 1) := by decide +kernel
theorem dX0_leave_8 : decode cX0_leave 8 = .ok (.iconst 0, 1) := by decide +kernel
theorem dX0_leave_9 : decode cX0_leave 9 = .ok (.istore_n 3, 1) := by decide +kernel
theorem dX0_leave_10 : decode cX0_leave 10 = .ok (.iload_n 3, 1) := by decide +kernel
theorem dX0_leave_11 : decode cX0_leave 11 = .ok (.aload_n 0, 1) := by decide +kernel
theorem dX0_leave_12 : decode cX0_leave 12 = .ok (.getfield 9, 3) := by decide +kernel
theorem dX0_leave_15 : decode cX0_leave 15 = .ok (.arraylength, 1) := by decide +kernel
theorem dX0_leave_16 : decode cX0_leave 16 = .ok (.if_icmp .ge 41, 3) := by decide +kernel
theorem dX0_leave_19 : decode cX0_leave 19 = .ok (.aload_n 0, 1) := by decide +kernel
theorem dX0_leave_20 : decode cX0_leave 20 = .ok (.getfield 9, 3) := by decide +kernel
theorem dX0_leave_23 : decode cX0_leave 23 = .ok (.iload_n 3, 1) := by decide +kernel
theorem dX0_leave_24 : decode cX0_leave 24 = .ok (.aload_n 0, 1) := by decide +kernel
theorem dX0_leave_25 : decode cX0_leave 25 = .ok (.getfield 9, 3) := by decide +kernel
theorem dX0_leave_28 : decode cX0_leave 28 = .ok (.iload_n 3, 1) := by decide +kernel
theorem dX0_leave_29 : decode cX0_leave 29 = .ok (.baload, 1) := by decide +kernel
theorem dX0_leave_30 : decode cX0_leave 30 = .ok (.ifCond .ne 15, 3) := by decide +kernel
theorem dX0_leave_33 : decode cX0_leave 33 = .ok (.aload_n 1, 1) := by decide +kernel
theorem dX0_leave_34 : decode cX0_leave 34 = .ok (.getfield 42, 3) := by decide +kernel
theorem dX0_leave_37 : decode cX0_leave 37 = .ok (.iload_n 2, 1) := by decide +kernel
theorem dX0_leave_38 : decode cX0_leave 38 = .ok (.iload_n 3, 1) := by decide +kernel
theorem dX0_leave_39 : decode cX0_leave 39 = .ok (.invokevirtual 23, 3) := by decide +kernel
theorem dX0_leave_42 : decode cX0_leave 42 = .ok (.ifCond .le 7, 3) := by decide +kernel
theorem dX0_leave_45 : decode cX0_leave 45 = .ok (.iconst 1, 1) := by decide +kernel
theorem dX0_leave_46 : decode cX0_leave 46 = .ok (.goto 4, 3) := by decide +kernel
theorem dX0_leave_49 : decode cX0_leave 49 = .ok (.iconst 0, 1) := by decide +kernel
theorem dX0_leave_50 : decode cX0_leave 50 = .ok (.bastore, 1) := by decide +kernel
theorem dX0_leave_51 : decode cX0_leave 51 = .ok (.iinc 3 1, 3) := by decide +kernel
theorem dX0_leave_54 : decode cX0_leave 54 = .ok (.goto (-44), 3) := by decide +kernel
theorem dX0_leave_57 : decode cX0_leave 57 = .ok (.aload_n 0, 1) := by decide +kernel
theorem dX0_leave_58 : decode cX0_leave 58 = .ok (.iconst 0, 1) := by decide +kernel
theorem dX0_leave_59 : decode cX0_leave 59 = .ok (.putfield 15, 3) := by decide +kernel
theorem dX0_leave_62 : decode cX0_leave 62 = .ok (.return_, 1) := by decide +kernel
theorem dX0_remainingBelow_0 : decode cX0_remainingBelow 0 = .ok (.iconst 0, 1) := by decide +kernel
theorem dX0_remainingBelow_1 : decode cX0_remainingBelow 1 = .ok (.istore_n 2, 1) := by decide +kernel
theorem dX0_remainingBelow_2 : decode cX0_remainingBelow 2 = .ok (.iconst 0, 1) := by decide +kernel
theorem dX0_remainingBelow_3 : decode cX0_remainingBelow 3 = .ok (.istore_n 3, 1) := by decide +kernel
theorem dX0_remainingBelow_4 : decode cX0_remainingBelow 4 = .ok (.iload_n 3, 1) := by decide +kernel
theorem dX0_remainingBelow_5 : decode cX0_remainingBelow 5 = .ok (.iload_n 1, 1) := by decide +kernel
theorem dX0_remainingBelow_6 : decode cX0_remainingBelow 6 = .ok (.if_icmp .ge 20, 3) := by decide +kernel
theorem dX0_remainingBelow_9 : decode cX0_remainingBelow 9 = .ok (.aload_n 0, 1) := by decide +kernel
theorem dX0_remainingBelow_10 : decode cX0_remainingBelow 10 = .ok (.iload_n 3, 1) := by decide +kernel
theorem dX0_remainingBelow_11 : decode cX0_remainingBelow 11 = .ok (.invokevirtual 19, 3) := by decide +kernel
theorem dX0_remainingBelow_14 : decode cX0_remainingBelow 14 = .ok (.ifCond .eq 6, 3) := by decide +kernel
theorem dX0_remainingBelow_17 : decode cX0_remainingBelow 17 = .ok (.iinc 2 1, 3) := by decide +kernel
theorem dX0_remainingBelow_20 : decode cX0_remainingBelow 20 = .ok (.iinc 3 1, 3) := by decide +kernel
theorem dX0_remainingBelow_23 : decode cX0_remainingBelow 23 = .ok (.goto (-19), 3) := by decide +kernel
theorem dX0_remainingBelow_26 : decode cX0_remainingBelow 26 = .ok (.iload_n 2, 1) := by decide +kernel
theorem dX0_remainingBelow_27 : decode cX0_remainingBelow 27 = .ok (.ireturn, 1) := by decide +kernel
theorem dX0_remainingAt_0 : decode cX0_remainingAt 0 = .ok (.iconst 0, 1) := by decide +kernel
theorem dX0_remainingAt_1 : decode cX0_remainingAt 1 = .ok (.istore_n 2, 1) := by decide +kernel
theorem dX0_remainingAt_2 : decode cX0_remainingAt 2 = .ok (.iconst 0, 1) := by decide +kernel
theorem dX0_remainingAt_3 : decode cX0_remainingAt 3 = .ok (.istore_n 3, 1) := by decide +kernel
theorem dX0_remainingAt_4 : decode cX0_remainingAt 4 = .ok (.iload_n 3, 1) := by decide +kernel
theorem dX0_remainingAt_5 : decode cX0_remainingAt 5 = .ok (.bipush 96, 2) := by decide +kernel
theorem dX0_remainingAt_7 : decode cX0_remainingAt 7 = .ok (.if_icmp .ge 27, 3) := by decide +kernel
theorem dX0_remainingAt_10 : decode cX0_remainingAt 10 = .ok (.aload_n 0, 1) := by decide +kernel
theorem dX0_remainingAt_11 : decode cX0_remainingAt 11 = .ok (.iload_n 3, 1) := by decide +kernel
theorem dX0_remainingAt_12 : decode cX0_remainingAt 12 = .ok (.invokevirtual 19, 3) := by decide +kernel
theorem dX0_remainingAt_15 : decode cX0_remainingAt 15 = .ok (.ifCond .eq 6, 3) := by decide +kernel
theorem dX0_remainingAt_18 : decode cX0_remainingAt 18 = .ok (.iinc 2 1, 3) := by decide +kernel
theorem dX0_remainingAt_21 : decode cX0_remainingAt 21 = .ok (.iload_n 2, 1) := by decide +kernel
theorem dX0_remainingAt_22 : decode cX0_remainingAt 22 = .ok (.iload_n 1, 1) := by decide +kernel
theorem dX0_remainingAt_23 : decode cX0_remainingAt 23 = .ok (.if_icmp .le 5, 3) := by decide +kernel
theorem dX0_remainingAt_26 : decode cX0_remainingAt 26 = .ok (.iload_n 3, 1) := by decide +kernel
theorem dX0_remainingAt_27 : decode cX0_remainingAt 27 = .ok (.ireturn, 1) := by decide +kernel
theorem dX0_remainingAt_28 : decode cX0_remainingAt 28 = .ok (.iinc 3 1, 3) := by decide +kernel
theorem dX0_remainingAt_31 : decode cX0_remainingAt 31 = .ok (.goto (-27), 3) := by decide +kernel
theorem dX0_remainingAt_34 : decode cX0_remainingAt 34 = .ok (.iconst (-1), 1) := by decide +kernel
theorem dX0_remainingAt_35 : decode cX0_remainingAt 35 = .ok (.ireturn, 1) := by decide +kernel
theorem dX1_init_0 : decode cX1_init 0 = .ok (.aload_n 0, 1) := by decide +kernel
theorem dX1_init_1 : decode cX1_init 1 = .ok (.invokespecial 3, 3) := by decide +kernel
theorem dX1_init_4 : decode cX1_init 4 = .ok (.return_, 1) := by decide +kernel
theorem dX1_begin_0 : decode cX1_begin 0 = .ok (.aload_n 0, 1) := by decide +kernel
theorem dX1_begin_1 : decode cX1_begin 1 = .ok (.aload_n 1, 1) := by decide +kernel
theorem dX1_begin_2 : decode cX1_begin 2 = .ok (.putfield 9, 3) := by decide +kernel
theorem dX1_begin_5 : decode cX1_begin 5 = .ok (.aload_n 0, 1) := by decide +kernel
theorem dX1_begin_6 : decode cX1_begin 6 = .ok (.iconst 0, 1) := by decide +kernel
theorem dX1_begin_7 : decode cX1_begin 7 = .ok (.putfield 15, 3) := by decide +kernel
theorem dX1_begin_10 : decode cX1_begin 10 = .ok (.aload_n 0, 1) := by decide +kernel
theorem dX1_begin_11 : decode cX1_begin 11 = .ok (.lconst 0, 1) := by decide +kernel
theorem dX1_begin_12 : decode cX1_begin 12 = .ok (.putfield 19, 3) := by decide +kernel
theorem dX1_begin_15 : decode cX1_begin 15 = .ok (.iconst 0, 1) := by decide +kernel
theorem dX1_begin_16 : decode cX1_begin 16 = .ok (.istore_n 2, 1) := by decide +kernel
theorem dX1_begin_17 : decode cX1_begin 17 = .ok (.iload_n 2, 1) := by decide +kernel
theorem dX1_begin_18 : decode cX1_begin 18 = .ok (.iconst 4, 1) := by decide +kernel
theorem dX1_begin_19 : decode cX1_begin 19 = .ok (.if_icmp .ge 13, 3) := by decide +kernel
theorem dX1_begin_22 : decode cX1_begin 22 = .ok (.aload_n 0, 1) := by decide +kernel
theorem dX1_begin_23 : decode cX1_begin 23 = .ok (.invokevirtual 23, 3) := by decide +kernel
theorem dX1_begin_26 : decode cX1_begin 26 = .ok (.iinc 2 1, 3) := by decide +kernel
theorem dX1_begin_29 : decode cX1_begin 29 = .ok (.goto (-12), 3) := by decide +kernel
theorem dX1_begin_32 : decode cX1_begin 32 = .ok (.aload_n 0, 1) := by decide +kernel
theorem dX1_begin_33 : decode cX1_begin 33 = .ok (.ldc2_w 26, 3) := by decide +kernel
theorem dX1_begin_36 : decode cX1_begin 36 = .ok (.putfield 28, 3) := by decide +kernel
theorem dX1_begin_39 : decode cX1_begin 39 = .ok (.return_, 1) := by decide +kernel
theorem dX1_shift_0 : decode cX1_shift 0 = .ok (.aload_n 0, 1) := by decide +kernel
theorem dX1_shift_1 : decode cX1_shift 1 = .ok (.getfield 9, 3) := by decide +kernel
theorem dX1_shift_4 : decode cX1_shift 4 = .ok (.ifnonnull 7, 3) := by decide +kernel
theorem dX1_shift_7 : decode cX1_shift 7 = .ok (.iconst 0, 1) := by decide +kernel
theorem dX1_shift_8 : decode cX1_shift 8 = .ok (.goto 14, 3) := by decide +kernel
theorem dX1_shift_11 : decode cX1_shift 11 = .ok (.aload_n 0, 1) := by decide +kernel
theorem dX1_shift_12 : decode cX1_shift 12 = .ok (.getfield 9, 3) := by decide +kernel
theorem dX1_shift_15 : decode cX1_shift 15 = .ok (.aload_n 0, 1) := by decide +kernel
theorem dX1_shift_16 : decode cX1_shift 16 = .ok (.getfield 15, 3) := by decide +kernel
theorem dX1_shift_19 : decode cX1_shift 19 = .ok (.invokevirtual 31, 3) := by decide +kernel
theorem dX1_shift_22 : decode cX1_shift 22 = .ok (.istore_n 1, 1) := by decide +kernel
theorem dX1_shift_23 : decode cX1_shift 23 = .ok (.aload_n 0, 1) := by decide +kernel
theorem dX1_shift_24 : decode cX1_shift 24 = .ok (.aload_n 0, 1) := by decide +kernel
theorem dX1_shift_25 : decode cX1_shift 25 = .ok (.getfield 19, 3) := by decide +kernel
theorem dX1_shift_28 : decode cX1_shift 28 = .ok (.ldc2_w 37, 3) := by decide +kernel
theorem dX1_shift_31 : decode cX1_shift 31 = .ok (.lmul, 1) := by decide +kernel
theorem dX1_shift_32 : decode cX1_shift 32 = .ok (.iload_n 1, 1) := by decide +kernel
theorem dX1_shift_33 : decode cX1_shift 33 = .ok (.i2l, 1) := by decide +kernel
theorem dX1_shift_34 : decode cX1_shift 34 = .ok (.ladd, 1) := by decide +kernel
theorem dX1_shift_35 : decode cX1_shift 35 = .ok (.ldc2_w 26, 3) := by decide +kernel
theorem dX1_shift_38 : decode cX1_shift 38 = .ok (.lrem, 1) := by decide +kernel
theorem dX1_shift_39 : decode cX1_shift 39 = .ok (.putfield 19, 3) := by decide +kernel
theorem dX1_shift_42 : decode cX1_shift 42 = .ok (.aload_n 0, 1) := by decide +kernel
theorem dX1_shift_43 : decode cX1_shift 43 = .ok (.dup, 1) := by decide +kernel
theorem dX1_shift_44 : decode cX1_shift 44 = .ok (.getfield 15, 3) := by decide +kernel
theorem dX1_shift_47 : decode cX1_shift 47 = .ok (.iconst 1, 1) := by decide +kernel
theorem dX1_shift_48 : decode cX1_shift 48 = .ok (.iadd, 1) := by decide +kernel
theorem dX1_shift_49 : decode cX1_shift 49 = .ok (.putfield 15, 3) := by decide +kernel
theorem dX1_shift_52 : decode cX1_shift 52 = .ok (.return_, 1) := by decide +kernel
theorem dX1_number_0 : decode cX1_number 0 = .ok (.iload_n 1, 1) := by decide +kernel
theorem dX1_number_1 : decode cX1_number 1 = .ok (.iconst 1, 1) := by decide +kernel
theorem dX1_number_2 : decode cX1_number 2 = .ok (.if_icmp .ge 7, 3) := by decide +kernel
theorem dX1_number_5 : decode cX1_number 5 = .ok (.lconst 0, 1) := by decide +kernel
theorem dX1_number_6 : decode cX1_number 6 = .ok (.goto 10, 3) := by decide +kernel
theorem dX1_number_9 : decode cX1_number 9 = .ok (.aload_n 0, 1) := by decide +kernel
theorem dX1_number_10 : decode cX1_number 10 = .ok (.getfield 28, 3) := by decide +kernel
theorem dX1_number_13 : decode cX1_number 13 = .ok (.iload_n 1, 1) := by decide +kernel
theorem dX1_number_14 : decode cX1_number 14 = .ok (.i2l, 1) := by decide +kernel
theorem dX1_number_15 : decode cX1_number 15 = .ok (.ldiv, 1) := by decide +kernel
theorem dX1_number_16 : decode cX1_number 16 = .ok (.lstore_n 2, 1) := by decide +kernel
theorem dX1_number_17 : decode cX1_number 17 = .ok (.lload_n 2, 1) := by decide +kernel
theorem dX1_number_18 : decode cX1_number 18 = .ok (.lconst 1, 1) := by decide +kernel
theorem dX1_number_19 : decode cX1_number 19 = .ok (.lcmp, 1) := by decide +kernel
theorem dX1_number_20 : decode cX1_number 20 = .ok (.ifCond .ge 7, 3) := by decide +kernel
theorem dX1_number_23 : decode cX1_number 23 = .ok (.iconst 0, 1) := by decide +kernel
theorem dX1_number_24 : decode cX1_number 24 = .ok (.goto 17, 3) := by decide +kernel
theorem dX1_number_27 : decode cX1_number 27 = .ok (.iload_n 1, 1) := by decide +kernel
theorem dX1_number_28 : decode cX1_number 28 = .ok (.iconst 1, 1) := by decide +kernel
theorem dX1_number_29 : decode cX1_number 29 = .ok (.isub, 1) := by decide +kernel
theorem dX1_number_30 : decode cX1_number 30 = .ok (.i2l, 1) := by decide +kernel
theorem dX1_number_31 : decode cX1_number 31 = .ok (.aload_n 0, 1) := by decide +kernel
theorem dX1_number_32 : decode cX1_number 32 = .ok (.getfield 19, 3) := by decide +kernel
theorem dX1_number_35 : decode cX1_number 35 = .ok (.lload_n 2, 1) := by decide +kernel
theorem dX1_number_36 : decode cX1_number 36 = .ok (.ldiv, 1) := by decide +kernel
theorem dX1_number_37 : decode cX1_number 37 = .ok (.invokestatic 39, 3) := by decide +kernel
theorem dX1_number_40 : decode cX1_number 40 = .ok (.l2i, 1) := by decide +kernel
theorem dX1_number_41 : decode cX1_number 41 = .ok (.ireturn, 1) := by decide +kernel
theorem dX1_interval_0 : decode cX1_interval 0 = .ok (.iload_n 3, 1) := by decide +kernel
theorem dX1_interval_1 : decode cX1_interval 1 = .ok (.iconst 1, 1) := by decide +kernel
theorem dX1_interval_2 : decode cX1_interval 2 = .ok (.if_icmp .ge 4, 3) := by decide +kernel
theorem dX1_interval_5 : decode cX1_interval 5 = .ok (.return_, 1) := by decide +kernel
theorem dX1_interval_6 : decode cX1_interval 6 = .ok (.aload_n 0, 1) := by decide +kernel
theorem dX1_interval_7 : decode cX1_interval 7 = .ok (.getfield 28, 3) := by decide +kernel
theorem dX1_interval_10 : decode cX1_interval 10 = .ok (.iload_n 3, 1) := by decide +kernel
theorem dX1_interval_11 : decode cX1_interval 11 = .ok (.i2l, 1) := by decide +kernel
theorem dX1_interval_12 : decode cX1_interval 12 = .ok (.ldiv, 1) := by decide +kernel
theorem dX1_interval_13 : decode cX1_interval 13 = .ok (.lstore 4, 2) := by decide +kernel
theorem dX1_interval_15 : decode cX1_interval 15 = .ok (.aload_n 0, 1) := by decide +kernel
theorem dX1_interval_16 : decode cX1_interval 16 = .ok (.dup, 1) := by decide +kernel
theorem dX1_interval_17 : decode cX1_interval 17 = .ok (.getfield 19, 3) := by decide +kernel
theorem dX1_interval_20 : decode cX1_interval 20 = .ok (.lload 4, 2) := by decide +kernel
theorem dX1_interval_22 : decode cX1_interval 22 = .ok (.iload_n 1, 1) := by decide +kernel
theorem dX1_interval_23 : decode cX1_interval 23 = .ok (.i2l, 1) := by decide +kernel
theorem dX1_interval_24 : decode cX1_interval 24 = .ok (.lmul, 1) := by decide +kernel
theorem dX1_interval_25 : decode cX1_interval 25 = .ok (.lsub, 1) := by decide +kernel
theorem dX1_interval_26 : decode cX1_interval 26 = .ok (.putfield 19, 3) := by decide +kernel
theorem dX1_interval_29 : decode cX1_interval 29 = .ok (.aload_n 0, 1) := by decide +kernel
theorem dX1_interval_30 : decode cX1_interval 30 = .ok (.iload_n 2, 1) := by decide +kernel
theorem dX1_interval_31 : decode cX1_interval 31 = .ok (.iload_n 3, 1) := by decide +kernel
theorem dX1_interval_32 : decode cX1_interval 32 = .ok (.if_icmp .ge 13, 3) := by decide +kernel
theorem dX1_interval_35 : decode cX1_interval 35 = .ok (.lload 4, 2) := by decide +kernel
theorem dX1_interval_37 : decode cX1_interval 37 = .ok (.iload_n 2, 1) := by decide +kernel
theorem dX1_interval_38 : decode cX1_interval 38 = .ok (.iload_n 1, 1) := by decide +kernel
theorem dX1_interval_39 : decode cX1_interval 39 = .ok (.isub, 1) := by decide +kernel
theorem dX1_interval_40 : decode cX1_interval 40 = .ok (.i2l, 1) := by decide +kernel
theorem dX1_interval_41 : decode cX1_interval 41 = .ok (.lmul, 1) := by decide +kernel
theorem dX1_interval_42 : decode cX1_interval 42 = .ok (.goto 13, 3) := by decide +kernel
theorem dX1_interval_45 : decode cX1_interval 45 = .ok (.aload_n 0, 1) := by decide +kernel
theorem dX1_interval_46 : decode cX1_interval 46 = .ok (.getfield 28, 3) := by decide +kernel
theorem dX1_interval_49 : decode cX1_interval 49 = .ok (.lload 4, 2) := by decide +kernel
theorem dX1_interval_51 : decode cX1_interval 51 = .ok (.iload_n 1, 1) := by decide +kernel
theorem dX1_interval_52 : decode cX1_interval 52 = .ok (.i2l, 1) := by decide +kernel
theorem dX1_interval_53 : decode cX1_interval 53 = .ok (.lmul, 1) := by decide +kernel
theorem dX1_interval_54 : decode cX1_interval 54 = .ok (.lsub, 1) := by decide +kernel
theorem dX1_interval_55 : decode cX1_interval 55 = .ok (.putfield 28, 3) := by decide +kernel
theorem dX1_interval_58 : decode cX1_interval 58 = .ok (.iconst 0, 1) := by decide +kernel
theorem dX1_interval_59 : decode cX1_interval 59 = .ok (.istore 6, 2) := by decide +kernel
theorem dX1_interval_61 : decode cX1_interval 61 = .ok (.iload 6, 2) := by decide +kernel
theorem dX1_interval_63 : decode cX1_interval 63 = .ok (.iconst 4, 1) := by decide +kernel
theorem dX1_interval_64 : decode cX1_interval 64 = .ok (.if_icmp .ge 36, 3) := by decide +kernel
theorem dX1_interval_67 : decode cX1_interval 67 = .ok (.aload_n 0, 1) := by decide +kernel
theorem dX1_interval_68 : decode cX1_interval 68 = .ok (.getfield 28, 3) := by decide +kernel
theorem dX1_interval_71 : decode cX1_interval 71 = .ok (.ldc2_w 45, 3) := by decide +kernel
theorem dX1_interval_74 : decode cX1_interval 74 = .ok (.lcmp, 1) := by decide +kernel
theorem dX1_interval_75 : decode cX1_interval 75 = .ok (.ifCond .gt 25, 3) := by decide +kernel
theorem dX1_interval_78 : decode cX1_interval 78 = .ok (.aload_n 0, 1) := by decide +kernel
theorem dX1_interval_79 : decode cX1_interval 79 = .ok (.invokevirtual 23, 3) := by decide +kernel
theorem dX1_interval_82 : decode cX1_interval 82 = .ok (.aload_n 0, 1) := by decide +kernel
theorem dX1_interval_83 : decode cX1_interval 83 = .ok (.aload_n 0, 1) := by decide +kernel
theorem dX1_interval_84 : decode cX1_interval 84 = .ok (.getfield 28, 3) := by decide +kernel
theorem dX1_interval_87 : decode cX1_interval 87 = .ok (.ldc2_w 37, 3) := by decide +kernel
theorem dX1_interval_90 : decode cX1_interval 90 = .ok (.lmul, 1) := by decide +kernel
theorem dX1_interval_91 : decode cX1_interval 91 = .ok (.putfield 28, 3) := by decide +kernel
theorem dX1_interval_94 : decode cX1_interval 94 = .ok (.iinc 6 1, 3) := by decide +kernel
theorem dX1_interval_97 : decode cX1_interval 97 = .ok (.goto (-36), 3) := by decide +kernel
theorem dX1_interval_100 : decode cX1_interval 100 = .ok (.return_, 1) := by decide +kernel
theorem dX2_init_0 : decode cX2_init 0 = .ok (.aload_n 0, 1) := by decide +kernel
theorem dX2_init_1 : decode cX2_init 1 = .ok (.invokespecial 3, 3) := by decide +kernel
theorem dX2_init_4 : decode cX2_init 4 = .ok (.aload_n 0, 1) := by decide +kernel
theorem dX2_init_5 : decode cX2_init 5 = .ok (.new 9, 3) := by decide +kernel
theorem dX2_init_8 : decode cX2_init 8 = .ok (.dup, 1) := by decide +kernel
theorem dX2_init_9 : decode cX2_init 9 = .ok (.sipush 4028, 3) := by decide +kernel
theorem dX2_init_12 : decode cX2_init 12 = .ok (.invokespecial 11, 3) := by decide +kernel
theorem dX2_init_15 : decode cX2_init 15 = .ok (.putfield 14, 3) := by decide +kernel
theorem dX2_init_18 : decode cX2_init 18 = .ok (.return_, 1) := by decide +kernel
theorem dX2_begin_0 : decode cX2_begin 0 = .ok (.aload_n 0, 1) := by decide +kernel
theorem dX2_begin_1 : decode cX2_begin 1 = .ok (.lconst 0, 1) := by decide +kernel
theorem dX2_begin_2 : decode cX2_begin 2 = .ok (.putfield 20, 3) := by decide +kernel
theorem dX2_begin_5 : decode cX2_begin 5 = .ok (.aload_n 0, 1) := by decide +kernel
theorem dX2_begin_6 : decode cX2_begin 6 = .ok (.ldc2_w 24, 3) := by decide +kernel
theorem dX2_begin_9 : decode cX2_begin 9 = .ok (.putfield 26, 3) := by decide +kernel
theorem dX2_begin_12 : decode cX2_begin 12 = .ok (.aload_n 0, 1) := by decide +kernel
theorem dX2_begin_13 : decode cX2_begin 13 = .ok (.getfield 14, 3) := by decide +kernel
theorem dX2_begin_16 : decode cX2_begin 16 = .ok (.invokevirtual 29, 3) := by decide +kernel
theorem dX2_begin_19 : decode cX2_begin 19 = .ok (.aload_n 0, 1) := by decide +kernel
theorem dX2_begin_20 : decode cX2_begin 20 = .ok (.iconst 0, 1) := by decide +kernel
theorem dX2_begin_21 : decode cX2_begin 21 = .ok (.putfield 32, 3) := by decide +kernel
theorem dX2_begin_24 : decode cX2_begin 24 = .ok (.return_, 1) := by decide +kernel
theorem dX2_interval_0 : decode cX2_interval 0 = .ok (.iload_n 3, 1) := by decide +kernel
theorem dX2_interval_1 : decode cX2_interval 1 = .ok (.iconst 1, 1) := by decide +kernel
theorem dX2_interval_2 : decode cX2_interval 2 = .ok (.if_icmp .ge 4, 3) := by decide +kernel
theorem dX2_interval_5 : decode cX2_interval 5 = .ok (.return_, 1) := by decide +kernel
theorem dX2_interval_6 : decode cX2_interval 6 = .ok (.aload_n 0, 1) := by decide +kernel
theorem dX2_interval_7 : decode cX2_interval 7 = .ok (.getfield 26, 3) := by decide +kernel
theorem dX2_interval_10 : decode cX2_interval 10 = .ok (.iload_n 3, 1) := by decide +kernel
theorem dX2_interval_11 : decode cX2_interval 11 = .ok (.i2l, 1) := by decide +kernel
theorem dX2_interval_12 : decode cX2_interval 12 = .ok (.ldiv, 1) := by decide +kernel
theorem dX2_interval_13 : decode cX2_interval 13 = .ok (.lstore 4, 2) := by decide +kernel
theorem dX2_interval_15 : decode cX2_interval 15 = .ok (.aload_n 0, 1) := by decide +kernel
theorem dX2_interval_16 : decode cX2_interval 16 = .ok (.dup, 1) := by decide +kernel
theorem dX2_interval_17 : decode cX2_interval 17 = .ok (.getfield 20, 3) := by decide +kernel
theorem dX2_interval_20 : decode cX2_interval 20 = .ok (.lload 4, 2) := by decide +kernel
theorem dX2_interval_22 : decode cX2_interval 22 = .ok (.iload_n 1, 1) := by decide +kernel
theorem dX2_interval_23 : decode cX2_interval 23 = .ok (.i2l, 1) := by decide +kernel
theorem dX2_interval_24 : decode cX2_interval 24 = .ok (.lmul, 1) := by decide +kernel
theorem dX2_interval_25 : decode cX2_interval 25 = .ok (.ladd, 1) := by decide +kernel
theorem dX2_interval_26 : decode cX2_interval 26 = .ok (.putfield 20, 3) := by decide +kernel
theorem dX2_interval_29 : decode cX2_interval 29 = .ok (.aload_n 0, 1) := by decide +kernel
theorem dX2_interval_30 : decode cX2_interval 30 = .ok (.iload_n 2, 1) := by decide +kernel
theorem dX2_interval_31 : decode cX2_interval 31 = .ok (.iload_n 3, 1) := by decide +kernel
theorem dX2_interval_32 : decode cX2_interval 32 = .ok (.if_icmp .ge 13, 3) := by decide +kernel
theorem dX2_interval_35 : decode cX2_interval 35 = .ok (.lload 4, 2) := by decide +kernel
theorem dX2_interval_37 : decode cX2_interval 37 = .ok (.iload_n 2, 1) := by decide +kernel
theorem dX2_interval_38 : decode cX2_interval 38 = .ok (.iload_n 1, 1) := by decide +kernel
theorem dX2_interval_39 : decode cX2_interval 39 = .ok (.isub, 1) := by decide +kernel
theorem dX2_interval_40 : decode cX2_interval 40 = .ok (.i2l, 1) := by decide +kernel
theorem dX2_interval_41 : decode cX2_interval 41 = .ok (.lmul, 1) := by decide +kernel
theorem dX2_interval_42 : decode cX2_interval 42 = .ok (.goto 13, 3) := by decide +kernel
theorem dX2_interval_45 : decode cX2_interval 45 = .ok (.aload_n 0, 1) := by decide +kernel
theorem dX2_interval_46 : decode cX2_interval 46 = .ok (.getfield 26, 3) := by decide +kernel
theorem dX2_interval_49 : decode cX2_interval 49 = .ok (.lload 4, 2) := by decide +kernel
theorem dX2_interval_51 : decode cX2_interval 51 = .ok (.iload_n 1, 1) := by decide +kernel
theorem dX2_interval_52 : decode cX2_interval 52 = .ok (.i2l, 1) := by decide +kernel
theorem dX2_interval_53 : decode cX2_interval 53 = .ok (.lmul, 1) := by decide +kernel
theorem dX2_interval_54 : decode cX2_interval 54 = .ok (.lsub, 1) := by decide +kernel
theorem dX2_interval_55 : decode cX2_interval 55 = .ok (.putfield 26, 3) := by decide +kernel
theorem dX2_interval_58 : decode cX2_interval 58 = .ok (.aload_n 0, 1) := by decide +kernel
theorem dX2_interval_59 : decode cX2_interval 59 = .ok (.getfield 20, 3) := by decide +kernel
theorem dX2_interval_62 : decode cX2_interval 62 = .ok (.ldc2_w 24, 3) := by decide +kernel
theorem dX2_interval_65 : decode cX2_interval 65 = .ok (.lcmp, 1) := by decide +kernel
theorem dX2_interval_66 : decode cX2_interval 66 = .ok (.ifCond .lt 19, 3) := by decide +kernel
theorem dX2_interval_69 : decode cX2_interval 69 = .ok (.aload_n 0, 1) := by decide +kernel
theorem dX2_interval_70 : decode cX2_interval 70 = .ok (.dup, 1) := by decide +kernel
theorem dX2_interval_71 : decode cX2_interval 71 = .ok (.getfield 20, 3) := by decide +kernel
theorem dX2_interval_74 : decode cX2_interval 74 = .ok (.ldc2_w 24, 3) := by decide +kernel
theorem dX2_interval_77 : decode cX2_interval 77 = .ok (.lsub, 1) := by decide +kernel
theorem dX2_interval_78 : decode cX2_interval 78 = .ok (.putfield 20, 3) := by decide +kernel
theorem dX2_interval_81 : decode cX2_interval 81 = .ok (.aload_n 0, 1) := by decide +kernel
theorem dX2_interval_82 : decode cX2_interval 82 = .ok (.invokevirtual 36, 3) := by decide +kernel
theorem dX2_interval_85 : decode cX2_interval 85 = .ok (.iconst 0, 1) := by decide +kernel
theorem dX2_interval_86 : decode cX2_interval 86 = .ok (.istore 6, 2) := by decide +kernel
theorem dX2_interval_88 : decode cX2_interval 88 = .ok (.iload 6, 2) := by decide +kernel
theorem dX2_interval_90 : decode cX2_interval 90 = .ok (.iconst 4, 1) := by decide +kernel
theorem dX2_interval_91 : decode cX2_interval 91 = .ok (.if_icmp .ge 64, 3) := by decide +kernel
theorem dX2_interval_94 : decode cX2_interval 94 = .ok (.aload_n 0, 1) := by decide +kernel
theorem dX2_interval_95 : decode cX2_interval 95 = .ok (.getfield 26, 3) := by decide +kernel
theorem dX2_interval_98 : decode cX2_interval 98 = .ok (.ldc2_w 39, 3) := by decide +kernel
theorem dX2_interval_101 : decode cX2_interval 101 = .ok (.lcmp, 1) := by decide +kernel
theorem dX2_interval_102 : decode cX2_interval 102 = .ok (.ifCond .gt 53, 3) := by decide +kernel
theorem dX2_interval_105 : decode cX2_interval 105 = .ok (.aload_n 0, 1) := by decide +kernel
theorem dX2_interval_106 : decode cX2_interval 106 = .ok (.getfield 14, 3) := by decide +kernel
theorem dX2_interval_109 : decode cX2_interval 109 = .ok (.aload_n 0, 1) := by decide +kernel
theorem dX2_interval_110 : decode cX2_interval 110 = .ok (.getfield 20, 3) := by decide +kernel
theorem dX2_interval_113 : decode cX2_interval 113 = .ok (.ldc2_w 39, 3) := by decide +kernel
theorem dX2_interval_116 : decode cX2_interval 116 = .ok (.ldiv, 1) := by decide +kernel
theorem dX2_interval_117 : decode cX2_interval 117 = .ok (.l2i, 1) := by decide +kernel
theorem dX2_interval_118 : decode cX2_interval 118 = .ok (.invokevirtual 41, 3) := by decide +kernel
theorem dX2_interval_121 : decode cX2_interval 121 = .ok (.aload_n 0, 1) := by decide +kernel
theorem dX2_interval_122 : decode cX2_interval 122 = .ok (.aload_n 0, 1) := by decide +kernel
theorem dX2_interval_123 : decode cX2_interval 123 = .ok (.getfield 20, 3) := by decide +kernel
theorem dX2_interval_126 : decode cX2_interval 126 = .ok (.ldc2_w 39, 3) := by decide +kernel
theorem dX2_interval_129 : decode cX2_interval 129 = .ok (.lrem, 1) := by decide +kernel
theorem dX2_interval_130 : decode cX2_interval 130 = .ok (.ldc2_w 44, 3) := by decide +kernel
theorem dX2_interval_133 : decode cX2_interval 133 = .ok (.lmul, 1) := by decide +kernel
theorem dX2_interval_134 : decode cX2_interval 134 = .ok (.putfield 20, 3) := by decide +kernel
theorem dX2_interval_137 : decode cX2_interval 137 = .ok (.aload_n 0, 1) := by decide +kernel
theorem dX2_interval_138 : decode cX2_interval 138 = .ok (.aload_n 0, 1) := by decide +kernel
theorem dX2_interval_139 : decode cX2_interval 139 = .ok (.getfield 26, 3) := by decide +kernel
theorem dX2_interval_142 : decode cX2_interval 142 = .ok (.ldc2_w 44, 3) := by decide +kernel
theorem dX2_interval_145 : decode cX2_interval 145 = .ok (.lmul, 1) := by decide +kernel
theorem dX2_interval_146 : decode cX2_interval 146 = .ok (.putfield 26, 3) := by decide +kernel
theorem dX2_interval_149 : decode cX2_interval 149 = .ok (.iinc 6 1, 3) := by decide +kernel
theorem dX2_interval_152 : decode cX2_interval 152 = .ok (.goto (-64), 3) := by decide +kernel
theorem dX2_interval_155 : decode cX2_interval 155 = .ok (.return_, 1) := by decide +kernel
theorem dX2_carry_0 : decode cX2_carry 0 = .ok (.iconst 0, 1) := by decide +kernel
theorem dX2_carry_1 : decode cX2_carry 1 = .ok (.istore_n 1, 1) := by decide +kernel
theorem dX2_carry_2 : decode cX2_carry 2 = .ok (.iconst 1, 1) := by decide +kernel
theorem dX2_carry_3 : decode cX2_carry 3 = .ok (.istore_n 2, 1) := by decide +kernel
theorem dX2_carry_4 : decode cX2_carry 4 = .ok (.aload_n 0, 1) := by decide +kernel
theorem dX2_carry_5 : decode cX2_carry 5 = .ok (.getfield 14, 3) := by decide +kernel
theorem dX2_carry_8 : decode cX2_carry 8 = .ok (.getfield 46, 3) := by decide +kernel
theorem dX2_carry_11 : decode cX2_carry 11 = .ok (.iconst 1, 1) := by decide +kernel
theorem dX2_carry_12 : decode cX2_carry 12 = .ok (.isub, 1) := by decide +kernel
theorem dX2_carry_13 : decode cX2_carry 13 = .ok (.istore_n 3, 1) := by decide +kernel
theorem dX2_carry_14 : decode cX2_carry 14 = .ok (.iload_n 3, 1) := by decide +kernel
theorem dX2_carry_15 : decode cX2_carry 15 = .ok (.ifCond .lt 62, 3) := by decide +kernel
theorem dX2_carry_18 : decode cX2_carry 18 = .ok (.iload_n 2, 1) := by decide +kernel
theorem dX2_carry_19 : decode cX2_carry 19 = .ok (.ifCond .eq 58, 3) := by decide +kernel
theorem dX2_carry_22 : decode cX2_carry 22 = .ok (.aload_n 0, 1) := by decide +kernel
theorem dX2_carry_23 : decode cX2_carry 23 = .ok (.getfield 14, 3) := by decide +kernel
theorem dX2_carry_26 : decode cX2_carry 26 = .ok (.iload_n 3, 1) := by decide +kernel
theorem dX2_carry_27 : decode cX2_carry 27 = .ok (.invokevirtual 49, 3) := by decide +kernel
theorem dX2_carry_30 : decode cX2_carry 30 = .ok (.sipush 255, 3) := by decide +kernel
theorem dX2_carry_33 : decode cX2_carry 33 = .ok (.if_icmp .ne 7, 3) := by decide +kernel
theorem dX2_carry_36 : decode cX2_carry 36 = .ok (.iconst 1, 1) := by decide +kernel
theorem dX2_carry_37 : decode cX2_carry 37 = .ok (.goto 4, 3) := by decide +kernel
theorem dX2_carry_40 : decode cX2_carry 40 = .ok (.iconst 0, 1) := by decide +kernel
theorem dX2_carry_41 : decode cX2_carry 41 = .ok (.istore_n 2, 1) := by decide +kernel
theorem dX2_carry_42 : decode cX2_carry 42 = .ok (.aload_n 0, 1) := by decide +kernel
theorem dX2_carry_43 : decode cX2_carry 43 = .ok (.getfield 14, 3) := by decide +kernel
theorem dX2_carry_46 : decode cX2_carry 46 = .ok (.iload_n 3, 1) := by decide +kernel
theorem dX2_carry_47 : decode cX2_carry 47 = .ok (.iload_n 2, 1) := by decide +kernel
theorem dX2_carry_48 : decode cX2_carry 48 = .ok (.ifCond .eq 7, 3) := by decide +kernel
theorem dX2_carry_51 : decode cX2_carry 51 = .ok (.iconst 0, 1) := by decide +kernel
theorem dX2_carry_52 : decode cX2_carry 52 = .ok (.goto 13, 3) := by decide +kernel
theorem dX2_carry_55 : decode cX2_carry 55 = .ok (.aload_n 0, 1) := by decide +kernel
theorem dX2_carry_56 : decode cX2_carry 56 = .ok (.getfield 14, 3) := by decide +kernel
theorem dX2_carry_59 : decode cX2_carry 59 = .ok (.iload_n 3, 1) := by decide +kernel
theorem dX2_carry_60 : decode cX2_carry 60 = .ok (.invokevirtual 49, 3) := by decide +kernel
theorem dX2_carry_63 : decode cX2_carry 63 = .ok (.iconst 1, 1) := by decide +kernel
theorem dX2_carry_64 : decode cX2_carry 64 = .ok (.iadd, 1) := by decide +kernel
theorem dX2_carry_65 : decode cX2_carry 65 = .ok (.invokevirtual 53, 3) := by decide +kernel
theorem dX2_carry_68 : decode cX2_carry 68 = .ok (.iinc 1 1, 3) := by decide +kernel
theorem dX2_carry_71 : decode cX2_carry 71 = .ok (.iinc 3 (-1), 3) := by decide +kernel
theorem dX2_carry_74 : decode cX2_carry 74 = .ok (.goto (-60), 3) := by decide +kernel
theorem dX2_carry_77 : decode cX2_carry 77 = .ok (.aload_n 0, 1) := by decide +kernel
theorem dX2_carry_78 : decode cX2_carry 78 = .ok (.aload_n 0, 1) := by decide +kernel
theorem dX2_carry_79 : decode cX2_carry 79 = .ok (.getfield 32, 3) := by decide +kernel
theorem dX2_carry_82 : decode cX2_carry 82 = .ok (.iload_n 1, 1) := by decide +kernel
theorem dX2_carry_83 : decode cX2_carry 83 = .ok (.invokestatic 57, 3) := by decide +kernel
theorem dX2_carry_86 : decode cX2_carry 86 = .ok (.putfield 32, 3) := by decide +kernel
theorem dX2_carry_89 : decode cX2_carry 89 = .ok (.return_, 1) := by decide +kernel
theorem dX2_finish_0 : decode cX2_finish 0 = .ok (.iconst 4, 1) := by decide +kernel
theorem dX2_finish_1 : decode cX2_finish 1 = .ok (.istore_n 1, 1) := by decide +kernel
theorem dX2_finish_2 : decode cX2_finish 2 = .ok (.iload_n 1, 1) := by decide +kernel
theorem dX2_finish_3 : decode cX2_finish 3 = .ok (.ifCond .le 27, 3) := by decide +kernel
theorem dX2_finish_6 : decode cX2_finish 6 = .ok (.aload_n 0, 1) := by decide +kernel
theorem dX2_finish_7 : decode cX2_finish 7 = .ok (.iload_n 1, 1) := by decide +kernel
theorem dX2_finish_8 : decode cX2_finish 8 = .ok (.invokevirtual 63, 3) := by decide +kernel
theorem dX2_finish_11 : decode cX2_finish 11 = .ok (.aload_n 0, 1) := by decide +kernel
theorem dX2_finish_12 : decode cX2_finish 12 = .ok (.getfield 20, 3) := by decide +kernel
theorem dX2_finish_15 : decode cX2_finish 15 = .ok (.aload_n 0, 1) := by decide +kernel
theorem dX2_finish_16 : decode cX2_finish 16 = .ok (.getfield 26, 3) := by decide +kernel
theorem dX2_finish_19 : decode cX2_finish 19 = .ok (.ladd, 1) := by decide +kernel
theorem dX2_finish_20 : decode cX2_finish 20 = .ok (.lcmp, 1) := by decide +kernel
theorem dX2_finish_21 : decode cX2_finish 21 = .ok (.ifCond .lt 9, 3) := by decide +kernel
theorem dX2_finish_24 : decode cX2_finish 24 = .ok (.iinc 1 (-1), 3) := by decide +kernel
theorem dX2_finish_27 : decode cX2_finish 27 = .ok (.goto (-25), 3) := by decide +kernel
theorem dX2_finish_30 : decode cX2_finish 30 = .ok (.aload_n 0, 1) := by decide +kernel
theorem dX2_finish_31 : decode cX2_finish 31 = .ok (.iload_n 1, 1) := by decide +kernel
theorem dX2_finish_32 : decode cX2_finish 32 = .ok (.invokevirtual 63, 3) := by decide +kernel
theorem dX2_finish_35 : decode cX2_finish 35 = .ok (.lstore_n 2, 1) := by decide +kernel
theorem dX2_finish_36 : decode cX2_finish 36 = .ok (.lload_n 2, 1) := by decide +kernel
theorem dX2_finish_37 : decode cX2_finish 37 = .ok (.ldc2_w 24, 3) := by decide +kernel
theorem dX2_finish_40 : decode cX2_finish 40 = .ok (.lcmp, 1) := by decide +kernel
theorem dX2_finish_41 : decode cX2_finish 41 = .ok (.ifCond .lt 9, 3) := by decide +kernel
theorem dX2_finish_44 : decode cX2_finish 44 = .ok (.aload_n 0, 1) := by decide +kernel
theorem dX2_finish_45 : decode cX2_finish 45 = .ok (.invokevirtual 36, 3) := by decide +kernel
theorem dX2_finish_48 : decode cX2_finish 48 = .ok (.lconst 0, 1) := by decide +kernel
theorem dX2_finish_49 : decode cX2_finish 49 = .ok (.lstore_n 2, 1) := by decide +kernel
theorem dX2_finish_50 : decode cX2_finish 50 = .ok (.iconst 0, 1) := by decide +kernel
theorem dX2_finish_51 : decode cX2_finish 51 = .ok (.istore 4, 2) := by decide +kernel
theorem dX2_finish_53 : decode cX2_finish 53 = .ok (.iload 4, 2) := by decide +kernel
theorem dX2_finish_55 : decode cX2_finish 55 = .ok (.iconst 4, 1) := by decide +kernel
theorem dX2_finish_56 : decode cX2_finish 56 = .ok (.iload_n 1, 1) := by decide +kernel
theorem dX2_finish_57 : decode cX2_finish 57 = .ok (.isub, 1) := by decide +kernel
theorem dX2_finish_58 : decode cX2_finish 58 = .ok (.if_icmp .ge 31, 3) := by decide +kernel
theorem dX2_finish_61 : decode cX2_finish 61 = .ok (.aload_n 0, 1) := by decide +kernel
theorem dX2_finish_62 : decode cX2_finish 62 = .ok (.getfield 14, 3) := by decide +kernel
theorem dX2_finish_65 : decode cX2_finish 65 = .ok (.lload_n 2, 1) := by decide +kernel
theorem dX2_finish_66 : decode cX2_finish 66 = .ok (.bipush 24, 2) := by decide +kernel
theorem dX2_finish_68 : decode cX2_finish 68 = .ok (.bipush 8, 2) := by decide +kernel
theorem dX2_finish_70 : decode cX2_finish 70 = .ok (.iload 4, 2) := by decide +kernel
theorem dX2_finish_72 : decode cX2_finish 72 = .ok (.imul, 1) := by decide +kernel
theorem dX2_finish_73 : decode cX2_finish 73 = .ok (.isub, 1) := by decide +kernel
theorem dX2_finish_74 : decode cX2_finish 74 = .ok (.lshr, 1) := by decide +kernel
theorem dX2_finish_75 : decode cX2_finish 75 = .ok (.ldc2_w 67, 3) := by decide +kernel
theorem dX2_finish_78 : decode cX2_finish 78 = .ok (.land, 1) := by decide +kernel
theorem dX2_finish_79 : decode cX2_finish 79 = .ok (.l2i, 1) := by decide +kernel
theorem dX2_finish_80 : decode cX2_finish 80 = .ok (.invokevirtual 41, 3) := by decide +kernel
theorem dX2_finish_83 : decode cX2_finish 83 = .ok (.iinc 4 1, 3) := by decide +kernel
theorem dX2_finish_86 : decode cX2_finish 86 = .ok (.goto (-33), 3) := by decide +kernel
theorem dX2_finish_89 : decode cX2_finish 89 = .ok (.aload_n 0, 1) := by decide +kernel
theorem dX2_finish_90 : decode cX2_finish 90 = .ok (.getfield 14, 3) := by decide +kernel
theorem dX2_finish_93 : decode cX2_finish 93 = .ok (.getfield 46, 3) := by decide +kernel
theorem dX2_finish_96 : decode cX2_finish 96 = .ok (.iconst 1, 1) := by decide +kernel
theorem dX2_finish_97 : decode cX2_finish 97 = .ok (.isub, 1) := by decide +kernel
theorem dX2_finish_98 : decode cX2_finish 98 = .ok (.istore 4, 2) := by decide +kernel
theorem dX2_finish_100 : decode cX2_finish 100 = .ok (.iload 4, 2) := by decide +kernel
theorem dX2_finish_102 : decode cX2_finish 102 = .ok (.ifCond .lt 29, 3) := by decide +kernel
theorem dX2_finish_105 : decode cX2_finish 105 = .ok (.aload_n 0, 1) := by decide +kernel
theorem dX2_finish_106 : decode cX2_finish 106 = .ok (.getfield 14, 3) := by decide +kernel
theorem dX2_finish_109 : decode cX2_finish 109 = .ok (.iload 4, 2) := by decide +kernel
theorem dX2_finish_111 : decode cX2_finish 111 = .ok (.invokevirtual 49, 3) := by decide +kernel
theorem dX2_finish_114 : decode cX2_finish 114 = .ok (.ifCond .ne 17, 3) := by decide +kernel
theorem dX2_finish_117 : decode cX2_finish 117 = .ok (.aload_n 0, 1) := by decide +kernel
theorem dX2_finish_118 : decode cX2_finish 118 = .ok (.getfield 14, 3) := by decide +kernel
theorem dX2_finish_121 : decode cX2_finish 121 = .ok (.iconst 1, 1) := by decide +kernel
theorem dX2_finish_122 : decode cX2_finish 122 = .ok (.invokevirtual 69, 3) := by decide +kernel
theorem dX2_finish_125 : decode cX2_finish 125 = .ok (.iinc 4 (-1), 3) := by decide +kernel
theorem dX2_finish_128 : decode cX2_finish 128 = .ok (.goto (-28), 3) := by decide +kernel
theorem dX2_finish_131 : decode cX2_finish 131 = .ok (.return_, 1) := by decide +kernel
theorem dX2_leastMultiple_0 : decode cX2_leastMultiple 0 = .ok (.lconst 1, 1) := by decide +kernel
theorem dX2_leastMultiple_1 : decode cX2_leastMultiple 1 = .ok (.bipush 8, 2) := by decide +kernel
theorem dX2_leastMultiple_3 : decode cX2_leastMultiple 3 = .ok (.iload_n 1, 1) := by decide +kernel
theorem dX2_leastMultiple_4 : decode cX2_leastMultiple 4 = .ok (.imul, 1) := by decide +kernel
theorem dX2_leastMultiple_5 : decode cX2_leastMultiple 5 = .ok (.lshl, 1) := by decide +kernel
theorem dX2_leastMultiple_6 : decode cX2_leastMultiple 6 = .ok (.lstore_n 2, 1) := by decide +kernel
theorem dX2_leastMultiple_7 : decode cX2_leastMultiple 7 = .ok (.aload_n 0, 1) := by decide +kernel
theorem dX2_leastMultiple_8 : decode cX2_leastMultiple 8 = .ok (.getfield 20, 3) := by decide +kernel
theorem dX2_leastMultiple_11 : decode cX2_leastMultiple 11 = .ok (.lload_n 2, 1) := by decide +kernel
theorem dX2_leastMultiple_12 : decode cX2_leastMultiple 12 = .ok (.ladd, 1) := by decide +kernel
theorem dX2_leastMultiple_13 : decode cX2_leastMultiple 13 = .ok (.lconst 1, 1) := by decide +kernel
theorem dX2_leastMultiple_14 : decode cX2_leastMultiple 14 = .ok (.lsub, 1) := by decide +kernel
theorem dX2_leastMultiple_15 : decode cX2_leastMultiple 15 = .ok (.lload_n 2, 1) := by decide +kernel
theorem dX2_leastMultiple_16 : decode cX2_leastMultiple 16 = .ok (.lneg, 1) := by decide +kernel
theorem dX2_leastMultiple_17 : decode cX2_leastMultiple 17 = .ok (.land, 1) := by decide +kernel
theorem dX2_leastMultiple_18 : decode cX2_leastMultiple 18 = .ok (.lreturn, 1) := by decide +kernel
theorem dX3_init_0 : decode cX3_init 0 = .ok (.aload_n 0, 1) := by decide +kernel
theorem dX3_init_1 : decode cX3_init 1 = .ok (.invokespecial 3, 3) := by decide +kernel
theorem dX3_init_4 : decode cX3_init 4 = .ok (.aload_n 0, 1) := by decide +kernel
theorem dX3_init_5 : decode cX3_init 5 = .ok (.new 9, 3) := by decide +kernel
theorem dX3_init_8 : decode cX3_init 8 = .ok (.dup, 1) := by decide +kernel
theorem dX3_init_9 : decode cX3_init 9 = .ok (.sipush 201, 3) := by decide +kernel
theorem dX3_init_12 : decode cX3_init 12 = .ok (.invokespecial 11, 3) := by decide +kernel
theorem dX3_init_15 : decode cX3_init 15 = .ok (.putfield 14, 3) := by decide +kernel
theorem dX3_init_18 : decode cX3_init 18 = .ok (.aload_n 0, 1) := by decide +kernel
theorem dX3_init_19 : decode cX3_init 19 = .ok (.new 9, 3) := by decide +kernel
theorem dX3_init_22 : decode cX3_init 22 = .ok (.dup, 1) := by decide +kernel
theorem dX3_init_23 : decode cX3_init 23 = .ok (.sipush 201, 3) := by decide +kernel
theorem dX3_init_26 : decode cX3_init 26 = .ok (.invokespecial 11, 3) := by decide +kernel
theorem dX3_init_29 : decode cX3_init 29 = .ok (.putfield 20, 3) := by decide +kernel
theorem dX3_init_32 : decode cX3_init 32 = .ok (.aload_n 0, 1) := by decide +kernel
theorem dX3_init_33 : decode cX3_init 33 = .ok (.new 9, 3) := by decide +kernel
theorem dX3_init_36 : decode cX3_init 36 = .ok (.dup, 1) := by decide +kernel
theorem dX3_init_37 : decode cX3_init 37 = .ok (.sipush 201, 3) := by decide +kernel
theorem dX3_init_40 : decode cX3_init 40 = .ok (.invokespecial 11, 3) := by decide +kernel
theorem dX3_init_43 : decode cX3_init 43 = .ok (.putfield 23, 3) := by decide +kernel
theorem dX3_init_46 : decode cX3_init 46 = .ok (.aload_n 0, 1) := by decide +kernel
theorem dX3_init_47 : decode cX3_init 47 = .ok (.new 9, 3) := by decide +kernel
theorem dX3_init_50 : decode cX3_init 50 = .ok (.dup, 1) := by decide +kernel
theorem dX3_init_51 : decode cX3_init 51 = .ok (.sipush 201, 3) := by decide +kernel
theorem dX3_init_54 : decode cX3_init 54 = .ok (.invokespecial 11, 3) := by decide +kernel
theorem dX3_init_57 : decode cX3_init 57 = .ok (.putfield 26, 3) := by decide +kernel
theorem dX3_init_60 : decode cX3_init 60 = .ok (.return_, 1) := by decide +kernel
theorem dX3_clear_0 : decode cX3_clear 0 = .ok (.aload_n 0, 1) := by decide +kernel
theorem dX3_clear_1 : decode cX3_clear 1 = .ok (.getfield 14, 3) := by decide +kernel
theorem dX3_clear_4 : decode cX3_clear 4 = .ok (.invokevirtual 29, 3) := by decide +kernel
theorem dX3_clear_7 : decode cX3_clear 7 = .ok (.aload_n 0, 1) := by decide +kernel
theorem dX3_clear_8 : decode cX3_clear 8 = .ok (.getfield 20, 3) := by decide +kernel
theorem dX3_clear_11 : decode cX3_clear 11 = .ok (.invokevirtual 29, 3) := by decide +kernel
theorem dX3_clear_14 : decode cX3_clear 14 = .ok (.aload_n 0, 1) := by decide +kernel
theorem dX3_clear_15 : decode cX3_clear 15 = .ok (.getfield 23, 3) := by decide +kernel
theorem dX3_clear_18 : decode cX3_clear 18 = .ok (.invokevirtual 29, 3) := by decide +kernel
theorem dX3_clear_21 : decode cX3_clear 21 = .ok (.aload_n 0, 1) := by decide +kernel
theorem dX3_clear_22 : decode cX3_clear 22 = .ok (.getfield 26, 3) := by decide +kernel
theorem dX3_clear_25 : decode cX3_clear 25 = .ok (.invokevirtual 29, 3) := by decide +kernel
theorem dX3_clear_28 : decode cX3_clear 28 = .ok (.aload_n 0, 1) := by decide +kernel
theorem dX3_clear_29 : decode cX3_clear 29 = .ok (.iconst 0, 1) := by decide +kernel
theorem dX3_clear_30 : decode cX3_clear 30 = .ok (.putfield 32, 3) := by decide +kernel
theorem dX3_clear_33 : decode cX3_clear 33 = .ok (.return_, 1) := by decide +kernel
theorem dX3_add_0 : decode cX3_add 0 = .ok (.aload_n 0, 1) := by decide +kernel
theorem dX3_add_1 : decode cX3_add 1 = .ok (.getfield 14, 3) := by decide +kernel
theorem dX3_add_4 : decode cX3_add 4 = .ok (.iload_n 1, 1) := by decide +kernel
theorem dX3_add_5 : decode cX3_add 5 = .ok (.invokevirtual 36, 3) := by decide +kernel
theorem dX3_add_8 : decode cX3_add 8 = .ok (.aload_n 0, 1) := by decide +kernel
theorem dX3_add_9 : decode cX3_add 9 = .ok (.getfield 20, 3) := by decide +kernel
theorem dX3_add_12 : decode cX3_add 12 = .ok (.iload_n 2, 1) := by decide +kernel
theorem dX3_add_13 : decode cX3_add 13 = .ok (.invokevirtual 36, 3) := by decide +kernel
theorem dX3_add_16 : decode cX3_add 16 = .ok (.aload_n 0, 1) := by decide +kernel
theorem dX3_add_17 : decode cX3_add 17 = .ok (.getfield 23, 3) := by decide +kernel
theorem dX3_add_20 : decode cX3_add 20 = .ok (.iload_n 3, 1) := by decide +kernel
theorem dX3_add_21 : decode cX3_add 21 = .ok (.invokevirtual 36, 3) := by decide +kernel
theorem dX3_add_24 : decode cX3_add 24 = .ok (.aload_n 0, 1) := by decide +kernel
theorem dX3_add_25 : decode cX3_add 25 = .ok (.getfield 26, 3) := by decide +kernel
theorem dX3_add_28 : decode cX3_add 28 = .ok (.iload 4, 2) := by decide +kernel
theorem dX3_add_30 : decode cX3_add 30 = .ok (.invokevirtual 36, 3) := by decide +kernel
theorem dX3_add_33 : decode cX3_add 33 = .ok (.return_, 1) := by decide +kernel
theorem dX3_take_0 : decode cX3_take 0 = .ok (.aload_n 0, 1) := by decide +kernel
theorem dX3_take_1 : decode cX3_take 1 = .ok (.getfield 14, 3) := by decide +kernel
theorem dX3_take_4 : decode cX3_take 4 = .ok (.aload_n 1, 1) := by decide +kernel
theorem dX3_take_5 : decode cX3_take 5 = .ok (.getfield 14, 3) := by decide +kernel
theorem dX3_take_8 : decode cX3_take 8 = .ok (.invokevirtual 39, 3) := by decide +kernel
theorem dX3_take_11 : decode cX3_take 11 = .ok (.aload_n 0, 1) := by decide +kernel
theorem dX3_take_12 : decode cX3_take 12 = .ok (.getfield 20, 3) := by decide +kernel
theorem dX3_take_15 : decode cX3_take 15 = .ok (.aload_n 1, 1) := by decide +kernel
theorem dX3_take_16 : decode cX3_take 16 = .ok (.getfield 20, 3) := by decide +kernel
theorem dX3_take_19 : decode cX3_take 19 = .ok (.invokevirtual 39, 3) := by decide +kernel
theorem dX3_take_22 : decode cX3_take 22 = .ok (.aload_n 0, 1) := by decide +kernel
theorem dX3_take_23 : decode cX3_take 23 = .ok (.getfield 23, 3) := by decide +kernel
theorem dX3_take_26 : decode cX3_take 26 = .ok (.aload_n 1, 1) := by decide +kernel
theorem dX3_take_27 : decode cX3_take 27 = .ok (.getfield 23, 3) := by decide +kernel
theorem dX3_take_30 : decode cX3_take 30 = .ok (.invokevirtual 39, 3) := by decide +kernel
theorem dX3_take_33 : decode cX3_take 33 = .ok (.aload_n 0, 1) := by decide +kernel
theorem dX3_take_34 : decode cX3_take 34 = .ok (.getfield 26, 3) := by decide +kernel
theorem dX3_take_37 : decode cX3_take 37 = .ok (.aload_n 1, 1) := by decide +kernel
theorem dX3_take_38 : decode cX3_take 38 = .ok (.getfield 26, 3) := by decide +kernel
theorem dX3_take_41 : decode cX3_take 41 = .ok (.invokevirtual 39, 3) := by decide +kernel
theorem dX3_take_44 : decode cX3_take 44 = .ok (.aload_n 0, 1) := by decide +kernel
theorem dX3_take_45 : decode cX3_take 45 = .ok (.aload_n 1, 1) := by decide +kernel
theorem dX3_take_46 : decode cX3_take 46 = .ok (.getfield 32, 3) := by decide +kernel
theorem dX3_take_49 : decode cX3_take 49 = .ok (.putfield 32, 3) := by decide +kernel
theorem dX3_take_52 : decode cX3_take 52 = .ok (.return_, 1) := by decide +kernel
theorem dX4_init_0 : decode cX4_init 0 = .ok (.aload_n 0, 1) := by decide +kernel
theorem dX4_init_1 : decode cX4_init 1 = .ok (.invokespecial 3, 3) := by decide +kernel
theorem dX4_init_4 : decode cX4_init 4 = .ok (.aload_n 0, 1) := by decide +kernel
theorem dX4_init_5 : decode cX4_init 5 = .ok (.sipush 250, 3) := by decide +kernel
theorem dX4_init_8 : decode cX4_init 8 = .ok (.newarray .int, 2) := by decide +kernel
theorem dX4_init_10 : decode cX4_init 10 = .ok (.putfield 9, 3) := by decide +kernel
theorem dX4_init_13 : decode cX4_init 13 = .ok (.aload_n 0, 1) := by decide +kernel
theorem dX4_init_14 : decode cX4_init 14 = .ok (.sipush 250, 3) := by decide +kernel
theorem dX4_init_17 : decode cX4_init 17 = .ok (.newarray .int, 2) := by decide +kernel
theorem dX4_init_19 : decode cX4_init 19 = .ok (.putfield 15, 3) := by decide +kernel
theorem dX4_init_22 : decode cX4_init 22 = .ok (.aload_n 0, 1) := by decide +kernel
theorem dX4_init_23 : decode cX4_init 23 = .ok (.sipush 250, 3) := by decide +kernel
theorem dX4_init_26 : decode cX4_init 26 = .ok (.newarray .int, 2) := by decide +kernel
theorem dX4_init_28 : decode cX4_init 28 = .ok (.putfield 18, 3) := by decide +kernel
theorem dX4_init_31 : decode cX4_init 31 = .ok (.aload_n 0, 1) := by decide +kernel
theorem dX4_init_32 : decode cX4_init 32 = .ok (.sipush 24000, 3) := by decide +kernel
theorem dX4_init_35 : decode cX4_init 35 = .ok (.newarray .int, 2) := by decide +kernel
theorem dX4_init_37 : decode cX4_init 37 = .ok (.putfield 21, 3) := by decide +kernel
theorem dX4_init_40 : decode cX4_init 40 = .ok (.return_, 1) := by decide +kernel
theorem dX4_clear_0 : decode cX4_clear 0 = .ok (.aload_n 0, 1) := by decide +kernel
theorem dX4_clear_1 : decode cX4_clear 1 = .ok (.iconst 0, 1) := by decide +kernel
theorem dX4_clear_2 : decode cX4_clear 2 = .ok (.putfield 24, 3) := by decide +kernel
theorem dX4_clear_5 : decode cX4_clear 5 = .ok (.return_, 1) := by decide +kernel
theorem dX4_take_0 : decode cX4_take 0 = .ok (.aload_n 0, 1) := by decide +kernel
theorem dX4_take_1 : decode cX4_take 1 = .ok (.iconst 0, 1) := by decide +kernel
theorem dX4_take_2 : decode cX4_take 2 = .ok (.aload_n 1, 1) := by decide +kernel
theorem dX4_take_3 : decode cX4_take 3 = .ok (.getfield 24, 3) := by decide +kernel
theorem dX4_take_6 : decode cX4_take 6 = .ok (.sipush 250, 3) := by decide +kernel
theorem dX4_take_9 : decode cX4_take 9 = .ok (.invokestatic 28, 3) := by decide +kernel
theorem dX4_take_12 : decode cX4_take 12 = .ok (.invokestatic 34, 3) := by decide +kernel
theorem dX4_take_15 : decode cX4_take 15 = .ok (.putfield 24, 3) := by decide +kernel
theorem dX4_take_18 : decode cX4_take 18 = .ok (.aload_n 1, 1) := by decide +kernel
theorem dX4_take_19 : decode cX4_take 19 = .ok (.getfield 9, 3) := by decide +kernel
theorem dX4_take_22 : decode cX4_take 22 = .ok (.iconst 0, 1) := by decide +kernel
theorem dX4_take_23 : decode cX4_take 23 = .ok (.aload_n 0, 1) := by decide +kernel
theorem dX4_take_24 : decode cX4_take 24 = .ok (.getfield 9, 3) := by decide +kernel
theorem dX4_take_27 : decode cX4_take 27 = .ok (.iconst 0, 1) := by decide +kernel
theorem dX4_take_28 : decode cX4_take 28 = .ok (.aload_n 0, 1) := by decide +kernel
theorem dX4_take_29 : decode cX4_take 29 = .ok (.getfield 24, 3) := by decide +kernel
theorem dX4_take_32 : decode cX4_take 32 = .ok (.invokestatic 37, 3) := by decide +kernel
theorem dX4_take_35 : decode cX4_take 35 = .ok (.aload_n 1, 1) := by decide +kernel
theorem dX4_take_36 : decode cX4_take 36 = .ok (.getfield 15, 3) := by decide +kernel
theorem dX4_take_39 : decode cX4_take 39 = .ok (.iconst 0, 1) := by decide +kernel
theorem dX4_take_40 : decode cX4_take 40 = .ok (.aload_n 0, 1) := by decide +kernel
theorem dX4_take_41 : decode cX4_take 41 = .ok (.getfield 15, 3) := by decide +kernel
theorem dX4_take_44 : decode cX4_take 44 = .ok (.iconst 0, 1) := by decide +kernel
theorem dX4_take_45 : decode cX4_take 45 = .ok (.aload_n 0, 1) := by decide +kernel
theorem dX4_take_46 : decode cX4_take 46 = .ok (.getfield 24, 3) := by decide +kernel
theorem dX4_take_49 : decode cX4_take 49 = .ok (.invokestatic 37, 3) := by decide +kernel
theorem dX4_take_52 : decode cX4_take 52 = .ok (.aload_n 1, 1) := by decide +kernel
theorem dX4_take_53 : decode cX4_take 53 = .ok (.getfield 18, 3) := by decide +kernel
theorem dX4_take_56 : decode cX4_take 56 = .ok (.iconst 0, 1) := by decide +kernel
theorem dX4_take_57 : decode cX4_take 57 = .ok (.aload_n 0, 1) := by decide +kernel
theorem dX4_take_58 : decode cX4_take 58 = .ok (.getfield 18, 3) := by decide +kernel
theorem dX4_take_61 : decode cX4_take 61 = .ok (.iconst 0, 1) := by decide +kernel
theorem dX4_take_62 : decode cX4_take 62 = .ok (.aload_n 0, 1) := by decide +kernel
theorem dX4_take_63 : decode cX4_take 63 = .ok (.getfield 24, 3) := by decide +kernel
theorem dX4_take_66 : decode cX4_take 66 = .ok (.invokestatic 37, 3) := by decide +kernel
theorem dX4_take_69 : decode cX4_take 69 = .ok (.aload_n 1, 1) := by decide +kernel
theorem dX4_take_70 : decode cX4_take 70 = .ok (.getfield 21, 3) := by decide +kernel
theorem dX4_take_73 : decode cX4_take 73 = .ok (.iconst 0, 1) := by decide +kernel
theorem dX4_take_74 : decode cX4_take 74 = .ok (.aload_n 0, 1) := by decide +kernel
theorem dX4_take_75 : decode cX4_take 75 = .ok (.getfield 21, 3) := by decide +kernel
theorem dX4_take_78 : decode cX4_take 78 = .ok (.iconst 0, 1) := by decide +kernel
theorem dX4_take_79 : decode cX4_take 79 = .ok (.aload_n 0, 1) := by decide +kernel
theorem dX4_take_80 : decode cX4_take 80 = .ok (.getfield 24, 3) := by decide +kernel
theorem dX4_take_83 : decode cX4_take 83 = .ok (.bipush 96, 2) := by decide +kernel
theorem dX4_take_85 : decode cX4_take 85 = .ok (.imul, 1) := by decide +kernel
theorem dX4_take_86 : decode cX4_take 86 = .ok (.invokestatic 37, 3) := by decide +kernel
theorem dX4_take_89 : decode cX4_take 89 = .ok (.return_, 1) := by decide +kernel
theorem dX4_find_0 : decode cX4_find 0 = .ok (.iconst 0, 1) := by decide +kernel
theorem dX4_find_1 : decode cX4_find 1 = .ok (.istore_n 2, 1) := by decide +kernel
theorem dX4_find_2 : decode cX4_find 2 = .ok (.iload_n 2, 1) := by decide +kernel
theorem dX4_find_3 : decode cX4_find 3 = .ok (.aload_n 0, 1) := by decide +kernel
theorem dX4_find_4 : decode cX4_find 4 = .ok (.getfield 24, 3) := by decide +kernel
theorem dX4_find_7 : decode cX4_find 7 = .ok (.if_icmp .ge 30, 3) := by decide +kernel
theorem dX4_find_10 : decode cX4_find 10 = .ok (.iload_n 2, 1) := by decide +kernel
theorem dX4_find_11 : decode cX4_find 11 = .ok (.aload_n 0, 1) := by decide +kernel
theorem dX4_find_12 : decode cX4_find 12 = .ok (.getfield 9, 3) := by decide +kernel
theorem dX4_find_15 : decode cX4_find 15 = .ok (.arraylength, 1) := by decide +kernel
theorem dX4_find_16 : decode cX4_find 16 = .ok (.if_icmp .ge 21, 3) := by decide +kernel
theorem dX4_find_19 : decode cX4_find 19 = .ok (.aload_n 0, 1) := by decide +kernel
theorem dX4_find_20 : decode cX4_find 20 = .ok (.getfield 9, 3) := by decide +kernel
theorem dX4_find_23 : decode cX4_find 23 = .ok (.iload_n 2, 1) := by decide +kernel
theorem dX4_find_24 : decode cX4_find 24 = .ok (.iaload, 1) := by decide +kernel
theorem dX4_find_25 : decode cX4_find 25 = .ok (.iload_n 1, 1) := by decide +kernel
theorem dX4_find_26 : decode cX4_find 26 = .ok (.if_icmp .ne 5, 3) := by decide +kernel
theorem dX4_find_29 : decode cX4_find 29 = .ok (.iload_n 2, 1) := by decide +kernel
theorem dX4_find_30 : decode cX4_find 30 = .ok (.ireturn, 1) := by decide +kernel
theorem dX4_find_31 : decode cX4_find 31 = .ok (.iinc 2 1, 3) := by decide +kernel
theorem dX4_find_34 : decode cX4_find 34 = .ok (.goto (-32), 3) := by decide +kernel
theorem dX4_find_37 : decode cX4_find 37 = .ok (.iconst (-1), 1) := by decide +kernel
theorem dX4_find_38 : decode cX4_find 38 = .ok (.ireturn, 1) := by decide +kernel
theorem dX4_meet_0 : decode cX4_meet 0 = .ok (.aload_n 0, 1) := by decide +kernel
theorem dX4_meet_1 : decode cX4_meet 1 = .ok (.iload_n 1, 1) := by decide +kernel
theorem dX4_meet_2 : decode cX4_meet 2 = .ok (.invokevirtual 43, 3) := by decide +kernel
theorem dX4_meet_5 : decode cX4_meet 5 = .ok (.istore_n 2, 1) := by decide +kernel
theorem dX4_meet_6 : decode cX4_meet 6 = .ok (.iload_n 2, 1) := by decide +kernel
theorem dX4_meet_7 : decode cX4_meet 7 = .ok (.ifCond .ge 20, 3) := by decide +kernel
theorem dX4_meet_10 : decode cX4_meet 10 = .ok (.aload_n 0, 1) := by decide +kernel
theorem dX4_meet_11 : decode cX4_meet 11 = .ok (.getfield 24, 3) := by decide +kernel
theorem dX4_meet_14 : decode cX4_meet 14 = .ok (.ifCond .lt 13, 3) := by decide +kernel
theorem dX4_meet_17 : decode cX4_meet 17 = .ok (.aload_n 0, 1) := by decide +kernel
theorem dX4_meet_18 : decode cX4_meet 18 = .ok (.getfield 24, 3) := by decide +kernel
theorem dX4_meet_21 : decode cX4_meet 21 = .ok (.sipush 250, 3) := by decide +kernel
theorem dX4_meet_24 : decode cX4_meet 24 = .ok (.if_icmp .lt 5, 3) := by decide +kernel
theorem dX4_meet_27 : decode cX4_meet 27 = .ok (.iload_n 2, 1) := by decide +kernel
theorem dX4_meet_28 : decode cX4_meet 28 = .ok (.ireturn, 1) := by decide +kernel
theorem dX4_meet_29 : decode cX4_meet 29 = .ok (.aload_n 0, 1) := by decide +kernel
theorem dX4_meet_30 : decode cX4_meet 30 = .ok (.getfield 24, 3) := by decide +kernel
theorem dX4_meet_33 : decode cX4_meet 33 = .ok (.istore_n 2, 1) := by decide +kernel
theorem dX4_meet_34 : decode cX4_meet 34 = .ok (.aload_n 0, 1) := by decide +kernel
theorem dX4_meet_35 : decode cX4_meet 35 = .ok (.dup, 1) := by decide +kernel
theorem dX4_meet_36 : decode cX4_meet 36 = .ok (.getfield 24, 3) := by decide +kernel
theorem dX4_meet_39 : decode cX4_meet 39 = .ok (.iconst 1, 1) := by decide +kernel
theorem dX4_meet_40 : decode cX4_meet 40 = .ok (.iadd, 1) := by decide +kernel
theorem dX4_meet_41 : decode cX4_meet 41 = .ok (.putfield 24, 3) := by decide +kernel
theorem dX4_meet_44 : decode cX4_meet 44 = .ok (.aload_n 0, 1) := by decide +kernel
theorem dX4_meet_45 : decode cX4_meet 45 = .ok (.getfield 9, 3) := by decide +kernel
theorem dX4_meet_48 : decode cX4_meet 48 = .ok (.iload_n 2, 1) := by decide +kernel
theorem dX4_meet_49 : decode cX4_meet 49 = .ok (.iload_n 1, 1) := by decide +kernel
theorem dX4_meet_50 : decode cX4_meet 50 = .ok (.iastore, 1) := by decide +kernel
theorem dX4_meet_51 : decode cX4_meet 51 = .ok (.aload_n 0, 1) := by decide +kernel
theorem dX4_meet_52 : decode cX4_meet 52 = .ok (.getfield 15, 3) := by decide +kernel
theorem dX4_meet_55 : decode cX4_meet 55 = .ok (.iload_n 2, 1) := by decide +kernel
theorem dX4_meet_56 : decode cX4_meet 56 = .ok (.iconst 0, 1) := by decide +kernel
theorem dX4_meet_57 : decode cX4_meet 57 = .ok (.iastore, 1) := by decide +kernel
theorem dX4_meet_58 : decode cX4_meet 58 = .ok (.aload_n 0, 1) := by decide +kernel
theorem dX4_meet_59 : decode cX4_meet 59 = .ok (.getfield 18, 3) := by decide +kernel
theorem dX4_meet_62 : decode cX4_meet 62 = .ok (.iload_n 2, 1) := by decide +kernel
theorem dX4_meet_63 : decode cX4_meet 63 = .ok (.iconst 0, 1) := by decide +kernel
theorem dX4_meet_64 : decode cX4_meet 64 = .ok (.iastore, 1) := by decide +kernel
theorem dX4_meet_65 : decode cX4_meet 65 = .ok (.iconst 0, 1) := by decide +kernel
theorem dX4_meet_66 : decode cX4_meet 66 = .ok (.istore_n 3, 1) := by decide +kernel
theorem dX4_meet_67 : decode cX4_meet 67 = .ok (.iload_n 3, 1) := by decide +kernel
theorem dX4_meet_68 : decode cX4_meet 68 = .ok (.bipush 96, 2) := by decide +kernel
theorem dX4_meet_70 : decode cX4_meet 70 = .ok (.if_icmp .ge 21, 3) := by decide +kernel
theorem dX4_meet_73 : decode cX4_meet 73 = .ok (.aload_n 0, 1) := by decide +kernel
theorem dX4_meet_74 : decode cX4_meet 74 = .ok (.getfield 21, 3) := by decide +kernel
theorem dX4_meet_77 : decode cX4_meet 77 = .ok (.iload_n 2, 1) := by decide +kernel
theorem dX4_meet_78 : decode cX4_meet 78 = .ok (.bipush 96, 2) := by decide +kernel
theorem dX4_meet_80 : decode cX4_meet 80 = .ok (.imul, 1) := by decide +kernel
theorem dX4_meet_81 : decode cX4_meet 81 = .ok (.iload_n 3, 1) := by decide +kernel
theorem dX4_meet_82 : decode cX4_meet 82 = .ok (.iadd, 1) := by decide +kernel
theorem dX4_meet_83 : decode cX4_meet 83 = .ok (.iconst 0, 1) := by decide +kernel
theorem dX4_meet_84 : decode cX4_meet 84 = .ok (.iastore, 1) := by decide +kernel
theorem dX4_meet_85 : decode cX4_meet 85 = .ok (.iinc 3 1, 3) := by decide +kernel
theorem dX4_meet_88 : decode cX4_meet 88 = .ok (.goto (-21), 3) := by decide +kernel
theorem dX4_meet_91 : decode cX4_meet 91 = .ok (.iload_n 2, 1) := by decide +kernel
theorem dX4_meet_92 : decode cX4_meet 92 = .ok (.ireturn, 1) := by decide +kernel
theorem dX4_has_0 : decode cX4_has 0 = .ok (.iload_n 1, 1) := by decide +kernel
theorem dX4_has_1 : decode cX4_has 1 = .ok (.ifCond .lt 22, 3) := by decide +kernel
theorem dX4_has_4 : decode cX4_has 4 = .ok (.iload_n 1, 1) := by decide +kernel
theorem dX4_has_5 : decode cX4_has 5 = .ok (.aload_n 0, 1) := by decide +kernel
theorem dX4_has_6 : decode cX4_has 6 = .ok (.getfield 24, 3) := by decide +kernel
theorem dX4_has_9 : decode cX4_has 9 = .ok (.if_icmp .ge 14, 3) := by decide +kernel
theorem dX4_has_12 : decode cX4_has 12 = .ok (.iload_n 1, 1) := by decide +kernel
theorem dX4_has_13 : decode cX4_has 13 = .ok (.sipush 250, 3) := by decide +kernel
theorem dX4_has_16 : decode cX4_has 16 = .ok (.if_icmp .ge 7, 3) := by decide +kernel
theorem dX4_has_19 : decode cX4_has 19 = .ok (.iconst 1, 1) := by decide +kernel
theorem dX4_has_20 : decode cX4_has 20 = .ok (.goto 4, 3) := by decide +kernel
theorem dX4_has_23 : decode cX4_has 23 = .ok (.iconst 0, 1) := by decide +kernel
theorem dX4_has_24 : decode cX4_has 24 = .ok (.ireturn, 1) := by decide +kernel
theorem dX4_countIn_0 : decode cX4_countIn 0 = .ok (.iload_n 1, 1) := by decide +kernel
theorem dX4_countIn_1 : decode cX4_countIn 1 = .ok (.ifCond .lt 32, 3) := by decide +kernel
theorem dX4_countIn_4 : decode cX4_countIn 4 = .ok (.iload_n 1, 1) := by decide +kernel
theorem dX4_countIn_5 : decode cX4_countIn 5 = .ok (.aload_n 0, 1) := by decide +kernel
theorem dX4_countIn_6 : decode cX4_countIn 6 = .ok (.getfield 24, 3) := by decide +kernel
theorem dX4_countIn_9 : decode cX4_countIn 9 = .ok (.if_icmp .ge 24, 3) := by decide +kernel
theorem dX4_countIn_12 : decode cX4_countIn 12 = .ok (.iload_n 1, 1) := by decide +kernel
theorem dX4_countIn_13 : decode cX4_countIn 13 = .ok (.sipush 250, 3) := by decide +kernel
theorem dX4_countIn_16 : decode cX4_countIn 16 = .ok (.if_icmp .ge 17, 3) := by decide +kernel
theorem dX4_countIn_19 : decode cX4_countIn 19 = .ok (.iload_n 2, 1) := by decide +kernel
theorem dX4_countIn_20 : decode cX4_countIn 20 = .ok (.ifCond .lt 13, 3) := by decide +kernel
theorem dX4_countIn_23 : decode cX4_countIn 23 = .ok (.iload_n 2, 1) := by decide +kernel
theorem dX4_countIn_24 : decode cX4_countIn 24 = .ok (.bipush 96, 2) := by decide +kernel
theorem dX4_countIn_26 : decode cX4_countIn 26 = .ok (.if_icmp .ge 7, 3) := by decide +kernel
theorem dX4_countIn_29 : decode cX4_countIn 29 = .ok (.iconst 1, 1) := by decide +kernel
theorem dX4_countIn_30 : decode cX4_countIn 30 = .ok (.goto 4, 3) := by decide +kernel
theorem dX4_countIn_33 : decode cX4_countIn 33 = .ok (.iconst 0, 1) := by decide +kernel
theorem dX4_countIn_34 : decode cX4_countIn 34 = .ok (.istore_n 3, 1) := by decide +kernel
theorem dX4_countIn_35 : decode cX4_countIn 35 = .ok (.iload_n 3, 1) := by decide +kernel
theorem dX4_countIn_36 : decode cX4_countIn 36 = .ok (.ifCond .eq 17, 3) := by decide +kernel
theorem dX4_countIn_39 : decode cX4_countIn 39 = .ok (.aload_n 0, 1) := by decide +kernel
theorem dX4_countIn_40 : decode cX4_countIn 40 = .ok (.getfield 21, 3) := by decide +kernel
theorem dX4_countIn_43 : decode cX4_countIn 43 = .ok (.iload_n 1, 1) := by decide +kernel
theorem dX4_countIn_44 : decode cX4_countIn 44 = .ok (.bipush 96, 2) := by decide +kernel
theorem dX4_countIn_46 : decode cX4_countIn 46 = .ok (.imul, 1) := by decide +kernel
theorem dX4_countIn_47 : decode cX4_countIn 47 = .ok (.iload_n 2, 1) := by decide +kernel
theorem dX4_countIn_48 : decode cX4_countIn 48 = .ok (.iadd, 1) := by decide +kernel
theorem dX4_countIn_49 : decode cX4_countIn 49 = .ok (.iaload, 1) := by decide +kernel
theorem dX4_countIn_50 : decode cX4_countIn 50 = .ok (.goto 4, 3) := by decide +kernel
theorem dX4_countIn_53 : decode cX4_countIn 53 = .ok (.iconst 0, 1) := by decide +kernel
theorem dX4_countIn_54 : decode cX4_countIn 54 = .ok (.ireturn, 1) := by decide +kernel
theorem dX4_weightOf_0 : decode cX4_weightOf 0 = .ok (.aload_n 0, 1) := by decide +kernel
theorem dX4_weightOf_1 : decode cX4_weightOf 1 = .ok (.iload_n 1, 1) := by decide +kernel
theorem dX4_weightOf_2 : decode cX4_weightOf 2 = .ok (.invokevirtual 47, 3) := by decide +kernel
theorem dX4_weightOf_5 : decode cX4_weightOf 5 = .ok (.ifCond .eq 12, 3) := by decide +kernel
theorem dX4_weightOf_8 : decode cX4_weightOf 8 = .ok (.aload_n 0, 1) := by decide +kernel
theorem dX4_weightOf_9 : decode cX4_weightOf 9 = .ok (.getfield 15, 3) := by decide +kernel
theorem dX4_weightOf_12 : decode cX4_weightOf 12 = .ok (.iload_n 1, 1) := by decide +kernel
theorem dX4_weightOf_13 : decode cX4_weightOf 13 = .ok (.iaload, 1) := by decide +kernel
theorem dX4_weightOf_14 : decode cX4_weightOf 14 = .ok (.goto 4, 3) := by decide +kernel
theorem dX4_weightOf_17 : decode cX4_weightOf 17 = .ok (.iconst 0, 1) := by decide +kernel
theorem dX4_weightOf_18 : decode cX4_weightOf 18 = .ok (.ireturn, 1) := by decide +kernel
theorem dX4_knownIn_0 : decode cX4_knownIn 0 = .ok (.aload_n 0, 1) := by decide +kernel
theorem dX4_knownIn_1 : decode cX4_knownIn 1 = .ok (.iload_n 1, 1) := by decide +kernel
theorem dX4_knownIn_2 : decode cX4_knownIn 2 = .ok (.invokevirtual 47, 3) := by decide +kernel
theorem dX4_knownIn_5 : decode cX4_knownIn 5 = .ok (.ifCond .eq 12, 3) := by decide +kernel
theorem dX4_knownIn_8 : decode cX4_knownIn 8 = .ok (.aload_n 0, 1) := by decide +kernel
theorem dX4_knownIn_9 : decode cX4_knownIn 9 = .ok (.getfield 18, 3) := by decide +kernel
theorem dX4_knownIn_12 : decode cX4_knownIn 12 = .ok (.iload_n 1, 1) := by decide +kernel
theorem dX4_knownIn_13 : decode cX4_knownIn 13 = .ok (.iaload, 1) := by decide +kernel
theorem dX4_knownIn_14 : decode cX4_knownIn 14 = .ok (.goto 4, 3) := by decide +kernel
theorem dX4_knownIn_17 : decode cX4_knownIn 17 = .ok (.iconst 0, 1) := by decide +kernel
theorem dX4_knownIn_18 : decode cX4_knownIn 18 = .ok (.ireturn, 1) := by decide +kernel
theorem dX4_raise_0 : decode cX4_raise 0 = .ok (.aload_n 0, 1) := by decide +kernel
theorem dX4_raise_1 : decode cX4_raise 1 = .ok (.iload_n 1, 1) := by decide +kernel
theorem dX4_raise_2 : decode cX4_raise 2 = .ok (.invokevirtual 47, 3) := by decide +kernel
theorem dX4_raise_5 : decode cX4_raise 5 = .ok (.ifCond .eq 13, 3) := by decide +kernel
theorem dX4_raise_8 : decode cX4_raise 8 = .ok (.iload_n 2, 1) := by decide +kernel
