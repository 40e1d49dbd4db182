theorem dX4_raise_9 : decode cX4_raise 9 = .ok (.ifCond .lt 9, 3) := by decide +kernel
theorem dX4_raise_12 : decode cX4_raise 12 = .ok (.iload_n 2, 1) := by decide +kernel
theorem dX4_raise_13 : decode cX4_raise 13 = .ok (.bipush 96, 2) := by decide +kernel
theorem dX4_raise_15 : decode cX4_raise 15 = .ok (.if_icmp .lt 4, 3) := by decide +kernel
theorem dX4_raise_18 : decode cX4_raise 18 = .ok (.return_, 1) := by decide +kernel
theorem dX4_raise_19 : decode cX4_raise 19 = .ok (.iload_n 1, 1) := by decide +kernel
theorem dX4_raise_20 : decode cX4_raise 20 = .ok (.bipush 96, 2) := by decide +kernel
theorem dX4_raise_22 : decode cX4_raise 22 = .ok (.imul, 1) := by decide +kernel
theorem dX4_raise_23 : decode cX4_raise 23 = .ok (.iload_n 2, 1) := by decide +kernel
theorem dX4_raise_24 : decode cX4_raise 24 = .ok (.iadd, 1) := by decide +kernel
theorem dX4_raise_25 : decode cX4_raise 25 = .ok (.istore 5, 2) := by decide +kernel
theorem dX4_raise_27 : decode cX4_raise 27 = .ok (.aload_n 0, 1) := by decide +kernel
theorem dX4_raise_28 : decode cX4_raise 28 = .ok (.getfield 21, 3) := by decide +kernel
theorem dX4_raise_31 : decode cX4_raise 31 = .ok (.iload 5, 2) := by decide +kernel
theorem dX4_raise_33 : decode cX4_raise 33 = .ok (.iaload, 1) := by decide +kernel
theorem dX4_raise_34 : decode cX4_raise 34 = .ok (.ifCond .ne 13, 3) := by decide +kernel
theorem dX4_raise_37 : decode cX4_raise 37 = .ok (.aload_n 0, 1) := by decide +kernel
theorem dX4_raise_38 : decode cX4_raise 38 = .ok (.getfield 18, 3) := by decide +kernel
theorem dX4_raise_41 : decode cX4_raise 41 = .ok (.iload_n 1, 1) := by decide +kernel
theorem dX4_raise_42 : decode cX4_raise 42 = .ok (.dup2, 1) := by decide +kernel
theorem dX4_raise_43 : decode cX4_raise 43 = .ok (.iaload, 1) := by decide +kernel
theorem dX4_raise_44 : decode cX4_raise 44 = .ok (.iconst 1, 1) := by decide +kernel
theorem dX4_raise_45 : decode cX4_raise 45 = .ok (.iadd, 1) := by decide +kernel
theorem dX4_raise_46 : decode cX4_raise 46 = .ok (.iastore, 1) := by decide +kernel
theorem dX4_raise_47 : decode cX4_raise 47 = .ok (.aload_n 0, 1) := by decide +kernel
theorem dX4_raise_48 : decode cX4_raise 48 = .ok (.getfield 21, 3) := by decide +kernel
theorem dX4_raise_51 : decode cX4_raise 51 = .ok (.iload 5, 2) := by decide +kernel
theorem dX4_raise_53 : decode cX4_raise 53 = .ok (.dup2, 1) := by decide +kernel
theorem dX4_raise_54 : decode cX4_raise 54 = .ok (.iaload, 1) := by decide +kernel
theorem dX4_raise_55 : decode cX4_raise 55 = .ok (.iload_n 3, 1) := by decide +kernel
theorem dX4_raise_56 : decode cX4_raise 56 = .ok (.iadd, 1) := by decide +kernel
theorem dX4_raise_57 : decode cX4_raise 57 = .ok (.iastore, 1) := by decide +kernel
theorem dX4_raise_58 : decode cX4_raise 58 = .ok (.aload_n 0, 1) := by decide +kernel
theorem dX4_raise_59 : decode cX4_raise 59 = .ok (.getfield 15, 3) := by decide +kernel
theorem dX4_raise_62 : decode cX4_raise 62 = .ok (.iload_n 1, 1) := by decide +kernel
theorem dX4_raise_63 : decode cX4_raise 63 = .ok (.dup2, 1) := by decide +kernel
theorem dX4_raise_64 : decode cX4_raise 64 = .ok (.iaload, 1) := by decide +kernel
theorem dX4_raise_65 : decode cX4_raise 65 = .ok (.iload_n 3, 1) := by decide +kernel
theorem dX4_raise_66 : decode cX4_raise 66 = .ok (.iadd, 1) := by decide +kernel
theorem dX4_raise_67 : decode cX4_raise 67 = .ok (.iastore, 1) := by decide +kernel
theorem dX4_raise_68 : decode cX4_raise 68 = .ok (.aload_n 0, 1) := by decide +kernel
theorem dX4_raise_69 : decode cX4_raise 69 = .ok (.getfield 15, 3) := by decide +kernel
theorem dX4_raise_72 : decode cX4_raise 72 = .ok (.iload_n 1, 1) := by decide +kernel
theorem dX4_raise_73 : decode cX4_raise 73 = .ok (.iaload, 1) := by decide +kernel
theorem dX4_raise_74 : decode cX4_raise 74 = .ok (.iload 4, 2) := by decide +kernel
theorem dX4_raise_76 : decode cX4_raise 76 = .ok (.if_icmp .le 8, 3) := by decide +kernel
theorem dX4_raise_79 : decode cX4_raise 79 = .ok (.aload_n 0, 1) := by decide +kernel
theorem dX4_raise_80 : decode cX4_raise 80 = .ok (.iload_n 1, 1) := by decide +kernel
theorem dX4_raise_81 : decode cX4_raise 81 = .ok (.invokevirtual 51, 3) := by decide +kernel
theorem dX4_raise_84 : decode cX4_raise 84 = .ok (.return_, 1) := by decide +kernel
theorem dX4_halve_0 : decode cX4_halve 0 = .ok (.iconst 0, 1) := by decide +kernel
theorem dX4_halve_1 : decode cX4_halve 1 = .ok (.istore_n 2, 1) := by decide +kernel
theorem dX4_halve_2 : decode cX4_halve 2 = .ok (.iload_n 1, 1) := by decide +kernel
theorem dX4_halve_3 : decode cX4_halve 3 = .ok (.bipush 96, 2) := by decide +kernel
theorem dX4_halve_5 : decode cX4_halve 5 = .ok (.imul, 1) := by decide +kernel
theorem dX4_halve_6 : decode cX4_halve 6 = .ok (.istore_n 3, 1) := by decide +kernel
theorem dX4_halve_7 : decode cX4_halve 7 = .ok (.iload_n 3, 1) := by decide +kernel
theorem dX4_halve_8 : decode cX4_halve 8 = .ok (.iload_n 1, 1) := by decide +kernel
theorem dX4_halve_9 : decode cX4_halve 9 = .ok (.iconst 1, 1) := by decide +kernel
theorem dX4_halve_10 : decode cX4_halve 10 = .ok (.iadd, 1) := by decide +kernel
theorem dX4_halve_11 : decode cX4_halve 11 = .ok (.bipush 96, 2) := by decide +kernel
theorem dX4_halve_13 : decode cX4_halve 13 = .ok (.imul, 1) := by decide +kernel
theorem dX4_halve_14 : decode cX4_halve 14 = .ok (.if_icmp .ge 34, 3) := by decide +kernel
theorem dX4_halve_17 : decode cX4_halve 17 = .ok (.aload_n 0, 1) := by decide +kernel
theorem dX4_halve_18 : decode cX4_halve 18 = .ok (.getfield 21, 3) := by decide +kernel
theorem dX4_halve_21 : decode cX4_halve 21 = .ok (.iload_n 3, 1) := by decide +kernel
theorem dX4_halve_22 : decode cX4_halve 22 = .ok (.aload_n 0, 1) := by decide +kernel
theorem dX4_halve_23 : decode cX4_halve 23 = .ok (.getfield 21, 3) := by decide +kernel
theorem dX4_halve_26 : decode cX4_halve 26 = .ok (.iload_n 3, 1) := by decide +kernel
theorem dX4_halve_27 : decode cX4_halve 27 = .ok (.iaload, 1) := by decide +kernel
theorem dX4_halve_28 : decode cX4_halve 28 = .ok (.iconst 1, 1) := by decide +kernel
theorem dX4_halve_29 : decode cX4_halve 29 = .ok (.iadd, 1) := by decide +kernel
theorem dX4_halve_30 : decode cX4_halve 30 = .ok (.iconst 2, 1) := by decide +kernel
theorem dX4_halve_31 : decode cX4_halve 31 = .ok (.idiv, 1) := by decide +kernel
theorem dX4_halve_32 : decode cX4_halve 32 = .ok (.iastore, 1) := by decide +kernel
theorem dX4_halve_33 : decode cX4_halve 33 = .ok (.iload_n 2, 1) := by decide +kernel
theorem dX4_halve_34 : decode cX4_halve 34 = .ok (.aload_n 0, 1) := by decide +kernel
theorem dX4_halve_35 : decode cX4_halve 35 = .ok (.getfield 21, 3) := by decide +kernel
theorem dX4_halve_38 : decode cX4_halve 38 = .ok (.iload_n 3, 1) := by decide +kernel
theorem dX4_halve_39 : decode cX4_halve 39 = .ok (.iaload, 1) := by decide +kernel
theorem dX4_halve_40 : decode cX4_halve 40 = .ok (.iadd, 1) := by decide +kernel
theorem dX4_halve_41 : decode cX4_halve 41 = .ok (.istore_n 2, 1) := by decide +kernel
theorem dX4_halve_42 : decode cX4_halve 42 = .ok (.iinc 3 1, 3) := by decide +kernel
theorem dX4_halve_45 : decode cX4_halve 45 = .ok (.goto (-38), 3) := by decide +kernel
theorem dX4_halve_48 : decode cX4_halve 48 = .ok (.aload_n 0, 1) := by decide +kernel
theorem dX4_halve_49 : decode cX4_halve 49 = .ok (.getfield 15, 3) := by decide +kernel
theorem dX4_halve_52 : decode cX4_halve 52 = .ok (.iload_n 1, 1) := by decide +kernel
theorem dX4_halve_53 : decode cX4_halve 53 = .ok (.iload_n 2, 1) := by decide +kernel
theorem dX4_halve_54 : decode cX4_halve 54 = .ok (.iastore, 1) := by decide +kernel
theorem dX4_halve_55 : decode cX4_halve 55 = .ok (.return_, 1) := by decide +kernel
theorem dX5_init_0 : decode cX5_init 0 = .ok (.aload_n 0, 1) := by decide +kernel
theorem dX5_init_1 : decode cX5_init 1 = .ok (.invokespecial 3, 3) := by decide +kernel
theorem dX5_init_4 : decode cX5_init 4 = .ok (.aload_n 0, 1) := by decide +kernel
theorem dX5_init_5 : decode cX5_init 5 = .ok (.new 9, 3) := by decide +kernel
theorem dX5_init_8 : decode cX5_init 8 = .ok (.dup, 1) := by decide +kernel
theorem dX5_init_9 : decode cX5_init 9 = .ok (.iconst 5, 1) := by decide +kernel
theorem dX5_init_10 : decode cX5_init 10 = .ok (.invokespecial 11, 3) := by decide +kernel
theorem dX5_init_13 : decode cX5_init 13 = .ok (.putfield 14, 3) := by decide +kernel
theorem dX5_init_16 : decode cX5_init 16 = .ok (.aload_n 0, 1) := by decide +kernel
theorem dX5_init_17 : decode cX5_init 17 = .ok (.new 9, 3) := by decide +kernel
theorem dX5_init_20 : decode cX5_init 20 = .ok (.dup, 1) := by decide +kernel
theorem dX5_init_21 : decode cX5_init 21 = .ok (.iconst 5, 1) := by decide +kernel
theorem dX5_init_22 : decode cX5_init 22 = .ok (.invokespecial 11, 3) := by decide +kernel
theorem dX5_init_25 : decode cX5_init 25 = .ok (.putfield 20, 3) := by decide +kernel
theorem dX5_init_28 : decode cX5_init 28 = .ok (.aload_n 0, 1) := by decide +kernel
theorem dX5_init_29 : decode cX5_init 29 = .ok (.new 9, 3) := by decide +kernel
theorem dX5_init_32 : decode cX5_init 32 = .ok (.dup, 1) := by decide +kernel
theorem dX5_init_33 : decode cX5_init 33 = .ok (.iconst 5, 1) := by decide +kernel
theorem dX5_init_34 : decode cX5_init 34 = .ok (.invokespecial 11, 3) := by decide +kernel
theorem dX5_init_37 : decode cX5_init 37 = .ok (.putfield 23, 3) := by decide +kernel
theorem dX5_init_40 : decode cX5_init 40 = .ok (.return_, 1) := by decide +kernel
theorem dX5_clear_0 : decode cX5_clear 0 = .ok (.aload_n 0, 1) := by decide +kernel
theorem dX5_clear_1 : decode cX5_clear 1 = .ok (.getfield 14, 3) := by decide +kernel
theorem dX5_clear_4 : decode cX5_clear 4 = .ok (.invokevirtual 26, 3) := by decide +kernel
theorem dX5_clear_7 : decode cX5_clear 7 = .ok (.aload_n 0, 1) := by decide +kernel
theorem dX5_clear_8 : decode cX5_clear 8 = .ok (.getfield 20, 3) := by decide +kernel
theorem dX5_clear_11 : decode cX5_clear 11 = .ok (.invokevirtual 26, 3) := by decide +kernel
theorem dX5_clear_14 : decode cX5_clear 14 = .ok (.aload_n 0, 1) := by decide +kernel
theorem dX5_clear_15 : decode cX5_clear 15 = .ok (.getfield 23, 3) := by decide +kernel
theorem dX5_clear_18 : decode cX5_clear 18 = .ok (.invokevirtual 26, 3) := by decide +kernel
theorem dX5_clear_21 : decode cX5_clear 21 = .ok (.aload_n 0, 1) := by decide +kernel
theorem dX5_clear_22 : decode cX5_clear 22 = .ok (.iconst (-1), 1) := by decide +kernel
theorem dX5_clear_23 : decode cX5_clear 23 = .ok (.putfield 29, 3) := by decide +kernel
theorem dX5_clear_26 : decode cX5_clear 26 = .ok (.return_, 1) := by decide +kernel
theorem dX5_add_0 : decode cX5_add 0 = .ok (.aload_n 0, 1) := by decide +kernel
theorem dX5_add_1 : decode cX5_add 1 = .ok (.getfield 14, 3) := by decide +kernel
theorem dX5_add_4 : decode cX5_add 4 = .ok (.iload_n 1, 1) := by decide +kernel
theorem dX5_add_5 : decode cX5_add 5 = .ok (.invokevirtual 33, 3) := by decide +kernel
theorem dX5_add_8 : decode cX5_add 8 = .ok (.aload_n 0, 1) := by decide +kernel
theorem dX5_add_9 : decode cX5_add 9 = .ok (.getfield 20, 3) := by decide +kernel
theorem dX5_add_12 : decode cX5_add 12 = .ok (.iload_n 2, 1) := by decide +kernel
theorem dX5_add_13 : decode cX5_add 13 = .ok (.invokevirtual 33, 3) := by decide +kernel
theorem dX5_add_16 : decode cX5_add 16 = .ok (.aload_n 0, 1) := by decide +kernel
theorem dX5_add_17 : decode cX5_add 17 = .ok (.getfield 23, 3) := by decide +kernel
theorem dX5_add_20 : decode cX5_add 20 = .ok (.iload_n 3, 1) := by decide +kernel
theorem dX5_add_21 : decode cX5_add 21 = .ok (.invokevirtual 33, 3) := by decide +kernel
theorem dX5_add_24 : decode cX5_add 24 = .ok (.return_, 1) := by decide +kernel
theorem dX5_size_0 : decode cX5_size 0 = .ok (.aload_n 0, 1) := by decide +kernel
theorem dX5_size_1 : decode cX5_size 1 = .ok (.getfield 23, 3) := by decide +kernel
theorem dX5_size_4 : decode cX5_size 4 = .ok (.getfield 36, 3) := by decide +kernel
theorem dX5_size_7 : decode cX5_size 7 = .ok (.ireturn, 1) := by decide +kernel
theorem dX5_sumOfCosts_0 : decode cX5_sumOfCosts 0 = .ok (.iconst 0, 1) := by decide +kernel
theorem dX5_sumOfCosts_1 : decode cX5_sumOfCosts 1 = .ok (.istore_n 1, 1) := by decide +kernel
theorem dX5_sumOfCosts_2 : decode cX5_sumOfCosts 2 = .ok (.iconst 0, 1) := by decide +kernel
theorem dX5_sumOfCosts_3 : decode cX5_sumOfCosts 3 = .ok (.istore_n 2, 1) := by decide +kernel
theorem dX5_sumOfCosts_4 : decode cX5_sumOfCosts 4 = .ok (.iload_n 2, 1) := by decide +kernel
theorem dX5_sumOfCosts_5 : decode cX5_sumOfCosts 5 = .ok (.aload_n 0, 1) := by decide +kernel
theorem dX5_sumOfCosts_6 : decode cX5_sumOfCosts 6 = .ok (.getfield 23, 3) := by decide +kernel
theorem dX5_sumOfCosts_9 : decode cX5_sumOfCosts 9 = .ok (.getfield 36, 3) := by decide +kernel
theorem dX5_sumOfCosts_12 : decode cX5_sumOfCosts 12 = .ok (.if_icmp .ge 40, 3) := by decide +kernel
theorem dX5_sumOfCosts_15 : decode cX5_sumOfCosts 15 = .ok (.iload_n 1, 1) := by decide +kernel
theorem dX5_sumOfCosts_16 : decode cX5_sumOfCosts 16 = .ok (.aload_n 0, 1) := by decide +kernel
theorem dX5_sumOfCosts_17 : decode cX5_sumOfCosts 17 = .ok (.getfield 20, 3) := by decide +kernel
theorem dX5_sumOfCosts_20 : decode cX5_sumOfCosts 20 = .ok (.iload_n 2, 1) := by decide +kernel
theorem dX5_sumOfCosts_21 : decode cX5_sumOfCosts 21 = .ok (.invokevirtual 39, 3) := by decide +kernel
theorem dX5_sumOfCosts_24 : decode cX5_sumOfCosts 24 = .ok (.aload_n 0, 1) := by decide +kernel
theorem dX5_sumOfCosts_25 : decode cX5_sumOfCosts 25 = .ok (.getfield 14, 3) := by decide +kernel
theorem dX5_sumOfCosts_28 : decode cX5_sumOfCosts 28 = .ok (.iload_n 2, 1) := by decide +kernel
theorem dX5_sumOfCosts_29 : decode cX5_sumOfCosts 29 = .ok (.invokevirtual 39, 3) := by decide +kernel
theorem dX5_sumOfCosts_32 : decode cX5_sumOfCosts 32 = .ok (.isub, 1) := by decide +kernel
theorem dX5_sumOfCosts_33 : decode cX5_sumOfCosts 33 = .ok (.aload_n 0, 1) := by decide +kernel
theorem dX5_sumOfCosts_34 : decode cX5_sumOfCosts 34 = .ok (.getfield 23, 3) := by decide +kernel
theorem dX5_sumOfCosts_37 : decode cX5_sumOfCosts 37 = .ok (.iload_n 2, 1) := by decide +kernel
theorem dX5_sumOfCosts_38 : decode cX5_sumOfCosts 38 = .ok (.invokevirtual 39, 3) := by decide +kernel
theorem dX5_sumOfCosts_41 : decode cX5_sumOfCosts 41 = .ok (.invokestatic 43, 3) := by decide +kernel
theorem dX5_sumOfCosts_44 : decode cX5_sumOfCosts 44 = .ok (.iadd, 1) := by decide +kernel
theorem dX5_sumOfCosts_45 : decode cX5_sumOfCosts 45 = .ok (.istore_n 1, 1) := by decide +kernel
theorem dX5_sumOfCosts_46 : decode cX5_sumOfCosts 46 = .ok (.iinc 2 1, 3) := by decide +kernel
theorem dX5_sumOfCosts_49 : decode cX5_sumOfCosts 49 = .ok (.goto (-45), 3) := by decide +kernel
theorem dX5_sumOfCosts_52 : decode cX5_sumOfCosts 52 = .ok (.iload_n 1, 1) := by decide +kernel
theorem dX5_sumOfCosts_53 : decode cX5_sumOfCosts 53 = .ok (.ireturn, 1) := by decide +kernel
theorem dX6_init_0 : decode cX6_init 0 = .ok (.aload_n 0, 1) := by decide +kernel
theorem dX6_init_1 : decode cX6_init 1 = .ok (.invokespecial 1, 3) := by decide +kernel
theorem dX6_init_4 : decode cX6_init 4 = .ok (.aload_n 0, 1) := by decide +kernel
theorem dX6_init_5 : decode cX6_init 5 = .ok (.iconst 0, 1) := by decide +kernel
theorem dX6_init_6 : decode cX6_init 6 = .ok (.iload_n 1, 1) := by decide +kernel
theorem dX6_init_7 : decode cX6_init 7 = .ok (.invokestatic 7, 3) := by decide +kernel
theorem dX6_init_10 : decode cX6_init 10 = .ok (.newarray .int, 2) := by decide +kernel
theorem dX6_init_12 : decode cX6_init 12 = .ok (.putfield 13, 3) := by decide +kernel
theorem dX6_init_15 : decode cX6_init 15 = .ok (.aload_n 0, 1) := by decide +kernel
theorem dX6_init_16 : decode cX6_init 16 = .ok (.iconst 0, 1) := by decide +kernel
theorem dX6_init_17 : decode cX6_init 17 = .ok (.putfield 19, 3) := by decide +kernel
theorem dX6_init_20 : decode cX6_init 20 = .ok (.return_, 1) := by decide +kernel
theorem dX6_has_0 : decode cX6_has 0 = .ok (.iload_n 1, 1) := by decide +kernel
theorem dX6_has_1 : decode cX6_has 1 = .ok (.ifCond .lt 24, 3) := by decide +kernel
theorem dX6_has_4 : decode cX6_has 4 = .ok (.iload_n 1, 1) := by decide +kernel
theorem dX6_has_5 : decode cX6_has 5 = .ok (.aload_n 0, 1) := by decide +kernel
theorem dX6_has_6 : decode cX6_has 6 = .ok (.getfield 19, 3) := by decide +kernel
theorem dX6_has_9 : decode cX6_has 9 = .ok (.if_icmp .ge 16, 3) := by decide +kernel
theorem dX6_has_12 : decode cX6_has 12 = .ok (.iload_n 1, 1) := by decide +kernel
theorem dX6_has_13 : decode cX6_has 13 = .ok (.aload_n 0, 1) := by decide +kernel
theorem dX6_has_14 : decode cX6_has 14 = .ok (.getfield 13, 3) := by decide +kernel
theorem dX6_has_17 : decode cX6_has 17 = .ok (.arraylength, 1) := by decide +kernel
theorem dX6_has_18 : decode cX6_has 18 = .ok (.if_icmp .ge 7, 3) := by decide +kernel
theorem dX6_has_21 : decode cX6_has 21 = .ok (.iconst 1, 1) := by decide +kernel
theorem dX6_has_22 : decode cX6_has 22 = .ok (.goto 4, 3) := by decide +kernel
theorem dX6_has_25 : decode cX6_has 25 = .ok (.iconst 0, 1) := by decide +kernel
theorem dX6_has_26 : decode cX6_has 26 = .ok (.ireturn, 1) := by decide +kernel
theorem dX6_item_0 : decode cX6_item 0 = .ok (.aload_n 0, 1) := by decide +kernel
theorem dX6_item_1 : decode cX6_item 1 = .ok (.iload_n 1, 1) := by decide +kernel
theorem dX6_item_2 : decode cX6_item 2 = .ok (.invokevirtual 23, 3) := by decide +kernel
theorem dX6_item_5 : decode cX6_item 5 = .ok (.ifCond .eq 12, 3) := by decide +kernel
theorem dX6_item_8 : decode cX6_item 8 = .ok (.aload_n 0, 1) := by decide +kernel
theorem dX6_item_9 : decode cX6_item 9 = .ok (.getfield 13, 3) := by decide +kernel
theorem dX6_item_12 : decode cX6_item 12 = .ok (.iload_n 1, 1) := by decide +kernel
theorem dX6_item_13 : decode cX6_item 13 = .ok (.iaload, 1) := by decide +kernel
theorem dX6_item_14 : decode cX6_item 14 = .ok (.goto 4, 3) := by decide +kernel
theorem dX6_item_17 : decode cX6_item 17 = .ok (.iconst 0, 1) := by decide +kernel
theorem dX6_item_18 : decode cX6_item 18 = .ok (.ireturn, 1) := by decide +kernel
theorem dX6_put_0 : decode cX6_put 0 = .ok (.aload_n 0, 1) := by decide +kernel
theorem dX6_put_1 : decode cX6_put 1 = .ok (.iload_n 1, 1) := by decide +kernel
theorem dX6_put_2 : decode cX6_put 2 = .ok (.invokevirtual 23, 3) := by decide +kernel
theorem dX6_put_5 : decode cX6_put 5 = .ok (.ifCond .eq 10, 3) := by decide +kernel
theorem dX6_put_8 : decode cX6_put 8 = .ok (.aload_n 0, 1) := by decide +kernel
theorem dX6_put_9 : decode cX6_put 9 = .ok (.getfield 13, 3) := by decide +kernel
theorem dX6_put_12 : decode cX6_put 12 = .ok (.iload_n 1, 1) := by decide +kernel
theorem dX6_put_13 : decode cX6_put 13 = .ok (.iload_n 2, 1) := by decide +kernel
theorem dX6_put_14 : decode cX6_put 14 = .ok (.iastore, 1) := by decide +kernel
theorem dX6_put_15 : decode cX6_put 15 = .ok (.return_, 1) := by decide +kernel
theorem dX6_push_0 : decode cX6_push 0 = .ok (.aload_n 0, 1) := by decide +kernel
theorem dX6_push_1 : decode cX6_push 1 = .ok (.getfield 19, 3) := by decide +kernel
theorem dX6_push_4 : decode cX6_push 4 = .ok (.ifCond .lt 35, 3) := by decide +kernel
theorem dX6_push_7 : decode cX6_push 7 = .ok (.aload_n 0, 1) := by decide +kernel
theorem dX6_push_8 : decode cX6_push 8 = .ok (.getfield 19, 3) := by decide +kernel
theorem dX6_push_11 : decode cX6_push 11 = .ok (.aload_n 0, 1) := by decide +kernel
theorem dX6_push_12 : decode cX6_push 12 = .ok (.getfield 13, 3) := by decide +kernel
theorem dX6_push_15 : decode cX6_push 15 = .ok (.arraylength, 1) := by decide +kernel
theorem dX6_push_16 : decode cX6_push 16 = .ok (.if_icmp .ge 23, 3) := by decide +kernel
theorem dX6_push_19 : decode cX6_push 19 = .ok (.aload_n 0, 1) := by decide +kernel
theorem dX6_push_20 : decode cX6_push 20 = .ok (.getfield 13, 3) := by decide +kernel
theorem dX6_push_23 : decode cX6_push 23 = .ok (.aload_n 0, 1) := by decide +kernel
theorem dX6_push_24 : decode cX6_push 24 = .ok (.getfield 19, 3) := by decide +kernel
theorem dX6_push_27 : decode cX6_push 27 = .ok (.iload_n 1, 1) := by decide +kernel
theorem dX6_push_28 : decode cX6_push 28 = .ok (.iastore, 1) := by decide +kernel
theorem dX6_push_29 : decode cX6_push 29 = .ok (.aload_n 0, 1) := by decide +kernel
theorem dX6_push_30 : decode cX6_push 30 = .ok (.dup, 1) := by decide +kernel
theorem dX6_push_31 : decode cX6_push 31 = .ok (.getfield 19, 3) := by decide +kernel
theorem dX6_push_34 : decode cX6_push 34 = .ok (.iconst 1, 1) := by decide +kernel
theorem dX6_push_35 : decode cX6_push 35 = .ok (.iadd, 1) := by decide +kernel
theorem dX6_push_36 : decode cX6_push 36 = .ok (.putfield 19, 3) := by decide +kernel
theorem dX6_push_39 : decode cX6_push 39 = .ok (.return_, 1) := by decide +kernel
theorem dX6_drop_0 : decode cX6_drop 0 = .ok (.aload_n 0, 1) := by decide +kernel
theorem dX6_drop_1 : decode cX6_drop 1 = .ok (.dup, 1) := by decide +kernel
theorem dX6_drop_2 : decode cX6_drop 2 = .ok (.getfield 19, 3) := by decide +kernel
theorem dX6_drop_5 : decode cX6_drop 5 = .ok (.iconst 0, 1) := by decide +kernel
theorem dX6_drop_6 : decode cX6_drop 6 = .ok (.iload_n 1, 1) := by decide +kernel
theorem dX6_drop_7 : decode cX6_drop 7 = .ok (.aload_n 0, 1) := by decide +kernel
theorem dX6_drop_8 : decode cX6_drop 8 = .ok (.getfield 19, 3) := by decide +kernel
theorem dX6_drop_11 : decode cX6_drop 11 = .ok (.invokestatic 27, 3) := by decide +kernel
theorem dX6_drop_14 : decode cX6_drop 14 = .ok (.invokestatic 7, 3) := by decide +kernel
theorem dX6_drop_17 : decode cX6_drop 17 = .ok (.isub, 1) := by decide +kernel
theorem dX6_drop_18 : decode cX6_drop 18 = .ok (.putfield 19, 3) := by decide +kernel
theorem dX6_drop_21 : decode cX6_drop 21 = .ok (.return_, 1) := by decide +kernel
theorem dX6_clear_0 : decode cX6_clear 0 = .ok (.aload_n 0, 1) := by decide +kernel
theorem dX6_clear_1 : decode cX6_clear 1 = .ok (.iconst 0, 1) := by decide +kernel
theorem dX6_clear_2 : decode cX6_clear 2 = .ok (.putfield 19, 3) := by decide +kernel
theorem dX6_clear_5 : decode cX6_clear 5 = .ok (.return_, 1) := by decide +kernel
theorem dX6_take_0 : decode cX6_take 0 = .ok (.aload_n 1, 1) := by decide +kernel
theorem dX6_take_1 : decode cX6_take 1 = .ok (.getfield 19, 3) := by decide +kernel
theorem dX6_take_4 : decode cX6_take 4 = .ok (.aload_n 1, 1) := by decide +kernel
theorem dX6_take_5 : decode cX6_take 5 = .ok (.getfield 13, 3) := by decide +kernel
theorem dX6_take_8 : decode cX6_take 8 = .ok (.arraylength, 1) := by decide +kernel
theorem dX6_take_9 : decode cX6_take 9 = .ok (.aload_n 0, 1) := by decide +kernel
theorem dX6_take_10 : decode cX6_take 10 = .ok (.getfield 13, 3) := by decide +kernel
theorem dX6_take_13 : decode cX6_take 13 = .ok (.arraylength, 1) := by decide +kernel
theorem dX6_take_14 : decode cX6_take 14 = .ok (.invokestatic 27, 3) := by decide +kernel
theorem dX6_take_17 : decode cX6_take 17 = .ok (.invokestatic 27, 3) := by decide +kernel
theorem dX6_take_20 : decode cX6_take 20 = .ok (.istore_n 2, 1) := by decide +kernel
theorem dX6_take_21 : decode cX6_take 21 = .ok (.aload_n 1, 1) := by decide +kernel
theorem dX6_take_22 : decode cX6_take 22 = .ok (.getfield 13, 3) := by decide +kernel
theorem dX6_take_25 : decode cX6_take 25 = .ok (.iconst 0, 1) := by decide +kernel
theorem dX6_take_26 : decode cX6_take 26 = .ok (.aload_n 0, 1) := by decide +kernel
theorem dX6_take_27 : decode cX6_take 27 = .ok (.getfield 13, 3) := by decide +kernel
theorem dX6_take_30 : decode cX6_take 30 = .ok (.iconst 0, 1) := by decide +kernel
theorem dX6_take_31 : decode cX6_take 31 = .ok (.iload_n 2, 1) := by decide +kernel
theorem dX6_take_32 : decode cX6_take 32 = .ok (.invokestatic 30, 3) := by decide +kernel
theorem dX6_take_35 : decode cX6_take 35 = .ok (.aload_n 0, 1) := by decide +kernel
theorem dX6_take_36 : decode cX6_take 36 = .ok (.iload_n 2, 1) := by decide +kernel
theorem dX6_take_37 : decode cX6_take 37 = .ok (.putfield 19, 3) := by decide +kernel
theorem dX6_take_40 : decode cX6_take 40 = .ok (.return_, 1) := by decide +kernel
theorem dX6_same_0 : decode cX6_same 0 = .ok (.aload_n 0, 1) := by decide +kernel
theorem dX6_same_1 : decode cX6_same 1 = .ok (.getfield 19, 3) := by decide +kernel
theorem dX6_same_4 : decode cX6_same 4 = .ok (.aload_n 1, 1) := by decide +kernel
theorem dX6_same_5 : decode cX6_same 5 = .ok (.getfield 19, 3) := by decide +kernel
theorem dX6_same_8 : decode cX6_same 8 = .ok (.if_icmp .eq 5, 3) := by decide +kernel
theorem dX6_same_11 : decode cX6_same 11 = .ok (.iconst 0, 1) := by decide +kernel
theorem dX6_same_12 : decode cX6_same 12 = .ok (.ireturn, 1) := by decide +kernel
theorem dX6_same_13 : decode cX6_same 13 = .ok (.iconst 0, 1) := by decide +kernel
theorem dX6_same_14 : decode cX6_same 14 = .ok (.istore_n 2, 1) := by decide +kernel
theorem dX6_same_15 : decode cX6_same 15 = .ok (.iload_n 2, 1) := by decide +kernel
theorem dX6_same_16 : decode cX6_same 16 = .ok (.aload_n 0, 1) := by decide +kernel
theorem dX6_same_17 : decode cX6_same 17 = .ok (.getfield 19, 3) := by decide +kernel
theorem dX6_same_20 : decode cX6_same 20 = .ok (.if_icmp .ge 24, 3) := by decide +kernel
theorem dX6_same_23 : decode cX6_same 23 = .ok (.aload_n 0, 1) := by decide +kernel
theorem dX6_same_24 : decode cX6_same 24 = .ok (.iload_n 2, 1) := by decide +kernel
theorem dX6_same_25 : decode cX6_same 25 = .ok (.invokevirtual 36, 3) := by decide +kernel
theorem dX6_same_28 : decode cX6_same 28 = .ok (.aload_n 1, 1) := by decide +kernel
theorem dX6_same_29 : decode cX6_same 29 = .ok (.iload_n 2, 1) := by decide +kernel
theorem dX6_same_30 : decode cX6_same 30 = .ok (.invokevirtual 36, 3) := by decide +kernel
theorem dX6_same_33 : decode cX6_same 33 = .ok (.if_icmp .eq 5, 3) := by decide +kernel
theorem dX6_same_36 : decode cX6_same 36 = .ok (.iconst 0, 1) := by decide +kernel
theorem dX6_same_37 : decode cX6_same 37 = .ok (.ireturn, 1) := by decide +kernel
theorem dX6_same_38 : decode cX6_same 38 = .ok (.iinc 2 1, 3) := by decide +kernel
theorem dX6_same_41 : decode cX6_same 41 = .ok (.goto (-26), 3) := by decide +kernel
theorem dX6_same_44 : decode cX6_same 44 = .ok (.iconst 1, 1) := by decide +kernel
theorem dX6_same_45 : decode cX6_same 45 = .ok (.ireturn, 1) := by decide +kernel
theorem dX7_init_0 : decode cX7_init 0 = .ok (.aload_n 0, 1) := by decide +kernel
theorem dX7_init_1 : decode cX7_init 1 = .ok (.invokespecial 3, 3) := by decide +kernel
theorem dX7_init_4 : decode cX7_init 4 = .ok (.aload_n 0, 1) := by decide +kernel
theorem dX7_init_5 : decode cX7_init 5 = .ok (.new 9, 3) := by decide +kernel
theorem dX7_init_8 : decode cX7_init 8 = .ok (.dup, 1) := by decide +kernel
theorem dX7_init_9 : decode cX7_init 9 = .ok (.invokespecial 11, 3) := by decide +kernel
theorem dX7_init_12 : decode cX7_init 12 = .ok (.putfield 12, 3) := by decide +kernel
theorem dX7_init_15 : decode cX7_init 15 = .ok (.aload_n 0, 1) := by decide +kernel
theorem dX7_init_16 : decode cX7_init 16 = .ok (.new 18, 3) := by decide +kernel
theorem dX7_init_19 : decode cX7_init 19 = .ok (.dup, 1) := by decide +kernel
theorem dX7_init_20 : decode cX7_init 20 = .ok (.sipush 400, 3) := by decide +kernel
theorem dX7_init_23 : decode cX7_init 23 = .ok (.invokespecial 20, 3) := by decide +kernel
theorem dX7_init_26 : decode cX7_init 26 = .ok (.putfield 23, 3) := by decide +kernel
theorem dX7_init_29 : decode cX7_init 29 = .ok (.aload_n 0, 1) := by decide +kernel
theorem dX7_init_30 : decode cX7_init 30 = .ok (.new 27, 3) := by decide +kernel
theorem dX7_init_33 : decode cX7_init 33 = .ok (.dup, 1) := by decide +kernel
theorem dX7_init_34 : decode cX7_init 34 = .ok (.invokespecial 29, 3) := by decide +kernel
theorem dX7_init_37 : decode cX7_init 37 = .ok (.putfield 30, 3) := by decide +kernel
theorem dX7_init_40 : decode cX7_init 40 = .ok (.aload_n 0, 1) := by decide +kernel
theorem dX7_init_41 : decode cX7_init 41 = .ok (.new 18, 3) := by decide +kernel
theorem dX7_init_44 : decode cX7_init 44 = .ok (.dup, 1) := by decide +kernel
theorem dX7_init_45 : decode cX7_init 45 = .ok (.sipush 200, 3) := by decide +kernel
theorem dX7_init_48 : decode cX7_init 48 = .ok (.invokespecial 20, 3) := by decide +kernel
theorem dX7_init_51 : decode cX7_init 51 = .ok (.putfield 34, 3) := by decide +kernel
theorem dX7_init_54 : decode cX7_init 54 = .ok (.return_, 1) := by decide +kernel
theorem dX7_take_0 : decode cX7_take 0 = .ok (.aload_n 0, 1) := by decide +kernel
theorem dX7_take_1 : decode cX7_take 1 = .ok (.aload_n 1, 1) := by decide +kernel
theorem dX7_take_2 : decode cX7_take 2 = .ok (.invokevirtual 37, 3) := by decide +kernel
theorem dX7_take_5 : decode cX7_take 5 = .ok (.aload_n 0, 1) := by decide +kernel
theorem dX7_take_6 : decode cX7_take 6 = .ok (.getfield 12, 3) := by decide +kernel
theorem dX7_take_9 : decode cX7_take 9 = .ok (.aload_n 1, 1) := by decide +kernel
theorem dX7_take_10 : decode cX7_take 10 = .ok (.getfield 12, 3) := by decide +kernel
theorem dX7_take_13 : decode cX7_take 13 = .ok (.invokevirtual 41, 3) := by decide +kernel
theorem dX7_take_16 : decode cX7_take 16 = .ok (.aload_n 0, 1) := by decide +kernel
theorem dX7_take_17 : decode cX7_take 17 = .ok (.getfield 23, 3) := by decide +kernel
theorem dX7_take_20 : decode cX7_take 20 = .ok (.aload_n 1, 1) := by decide +kernel
theorem dX7_take_21 : decode cX7_take 21 = .ok (.getfield 23, 3) := by decide +kernel
theorem dX7_take_24 : decode cX7_take 24 = .ok (.invokevirtual 45, 3) := by decide +kernel
theorem dX7_take_27 : decode cX7_take 27 = .ok (.aload_n 0, 1) := by decide +kernel
theorem dX7_take_28 : decode cX7_take 28 = .ok (.getfield 30, 3) := by decide +kernel
theorem dX7_take_31 : decode cX7_take 31 = .ok (.aload_n 1, 1) := by decide +kernel
theorem dX7_take_32 : decode cX7_take 32 = .ok (.getfield 30, 3) := by decide +kernel
theorem dX7_take_35 : decode cX7_take 35 = .ok (.invokevirtual 48, 3) := by decide +kernel
theorem dX7_take_38 : decode cX7_take 38 = .ok (.aload_n 0, 1) := by decide +kernel
theorem dX7_take_39 : decode cX7_take 39 = .ok (.getfield 34, 3) := by decide +kernel
theorem dX7_take_42 : decode cX7_take 42 = .ok (.aload_n 1, 1) := by decide +kernel
theorem dX7_take_43 : decode cX7_take 43 = .ok (.getfield 34, 3) := by decide +kernel
theorem dX7_take_46 : decode cX7_take 46 = .ok (.invokevirtual 45, 3) := by decide +kernel
theorem dX7_take_49 : decode cX7_take 49 = .ok (.return_, 1) := by decide +kernel
theorem dX7_takeSettings_0 : decode cX7_takeSettings 0 = .ok (.aload_n 0, 1) := by decide +kernel
theorem dX7_takeSettings_1 : decode cX7_takeSettings 1 = .ok (.aload_n 1, 1) := by decide +kernel
theorem dX7_takeSettings_2 : decode cX7_takeSettings 2 = .ok (.getfield 51, 3) := by decide +kernel
theorem dX7_takeSettings_5 : decode cX7_takeSettings 5 = .ok (.putfield 51, 3) := by decide +kernel
theorem dX7_takeSettings_8 : decode cX7_takeSettings 8 = .ok (.aload_n 0, 1) := by decide +kernel
theorem dX7_takeSettings_9 : decode cX7_takeSettings 9 = .ok (.aload_n 1, 1) := by decide +kernel
theorem dX7_takeSettings_10 : decode cX7_takeSettings 10 = .ok (.getfield 55, 3) := by decide +kernel
theorem dX7_takeSettings_13 : decode cX7_takeSettings 13 = .ok (.putfield 55, 3) := by decide +kernel
theorem dX7_takeSettings_16 : decode cX7_takeSettings 16 = .ok (.aload_n 0, 1) := by decide +kernel
theorem dX7_takeSettings_17 : decode cX7_takeSettings 17 = .ok (.aload_n 1, 1) := by decide +kernel
theorem dX7_takeSettings_18 : decode cX7_takeSettings 18 = .ok (.getfield 59, 3) := by decide +kernel
theorem dX7_takeSettings_21 : decode cX7_takeSettings 21 = .ok (.putfield 59, 3) := by decide +kernel
theorem dX7_takeSettings_24 : decode cX7_takeSettings 24 = .ok (.aload_n 0, 1) := by decide +kernel
theorem dX7_takeSettings_25 : decode cX7_takeSettings 25 = .ok (.aload_n 1, 1) := by decide +kernel
theorem dX7_takeSettings_26 : decode cX7_takeSettings 26 = .ok (.getfield 62, 3) := by decide +kernel
theorem dX7_takeSettings_29 : decode cX7_takeSettings 29 = .ok (.putfield 62, 3) := by decide +kernel
theorem dX7_takeSettings_32 : decode cX7_takeSettings 32 = .ok (.return_, 1) := by decide +kernel
theorem dX7_increase_0 : decode cX7_increase 0 = .ok (.iconst 0, 1) := by decide +kernel
theorem dX7_increase_1 : decode cX7_increase 1 = .ok (.istore 4, 2) := by decide +kernel
theorem dX7_increase_3 : decode cX7_increase 3 = .ok (.iload 4, 2) := by decide +kernel
theorem dX7_increase_5 : decode cX7_increase 5 = .ok (.aload_n 0, 1) := by decide +kernel
theorem dX7_increase_6 : decode cX7_increase 6 = .ok (.getfield 51, 3) := by decide +kernel
theorem dX7_increase_9 : decode cX7_increase 9 = .ok (.if_icmp .gt 54, 3) := by decide +kernel
theorem dX7_increase_12 : decode cX7_increase 12 = .ok (.iload 4, 2) := by decide +kernel
theorem dX7_increase_14 : decode cX7_increase 14 = .ok (.iload_n 2, 1) := by decide +kernel
theorem dX7_increase_15 : decode cX7_increase 15 = .ok (.if_icmp .gt 48, 3) := by decide +kernel
theorem dX7_increase_18 : decode cX7_increase 18 = .ok (.aload_n 0, 1) := by decide +kernel
theorem dX7_increase_19 : decode cX7_increase 19 = .ok (.getfield 12, 3) := by decide +kernel
theorem dX7_increase_22 : decode cX7_increase 22 = .ok (.aload_n 1, 1) := by decide +kernel
theorem dX7_increase_23 : decode cX7_increase 23 = .ok (.iload_n 2, 1) := by decide +kernel
theorem dX7_increase_24 : decode cX7_increase 24 = .ok (.iload 4, 2) := by decide +kernel
theorem dX7_increase_26 : decode cX7_increase 26 = .ok (.invokestatic 65, 3) := by decide +kernel
theorem dX7_increase_29 : decode cX7_increase 29 = .ok (.invokevirtual 69, 3) := by decide +kernel
theorem dX7_increase_32 : decode cX7_increase 32 = .ok (.istore 5, 2) := by decide +kernel
theorem dX7_increase_34 : decode cX7_increase 34 = .ok (.iload 5, 2) := by decide +kernel
theorem dX7_increase_36 : decode cX7_increase 36 = .ok (.ifCond .lt 21, 3) := by decide +kernel
theorem dX7_increase_39 : decode cX7_increase 39 = .ok (.aload_n 0, 1) := by decide +kernel
theorem dX7_increase_40 : decode cX7_increase 40 = .ok (.getfield 12, 3) := by decide +kernel
theorem dX7_increase_43 : decode cX7_increase 43 = .ok (.iload 5, 2) := by decide +kernel
theorem dX7_increase_45 : decode cX7_increase 45 = .ok (.iload_n 3, 1) := by decide +kernel
theorem dX7_increase_46 : decode cX7_increase 46 = .ok (.aload_n 0, 1) := by decide +kernel
theorem dX7_increase_47 : decode cX7_increase 47 = .ok (.getfield 59, 3) := by decide +kernel
theorem dX7_increase_50 : decode cX7_increase 50 = .ok (.aload_n 0, 1) := by decide +kernel
theorem dX7_increase_51 : decode cX7_increase 51 = .ok (.getfield 62, 3) := by decide +kernel
theorem dX7_increase_54 : decode cX7_increase 54 = .ok (.invokevirtual 73, 3) := by decide +kernel
theorem dX7_increase_57 : decode cX7_increase 57 = .ok (.iinc 4 1, 3) := by decide +kernel
theorem dX7_increase_60 : decode cX7_increase 60 = .ok (.goto (-57), 3) := by decide +kernel
theorem dX7_increase_63 : decode cX7_increase 63 = .ok (.return_, 1) := by decide +kernel
theorem dX8_init_0 : decode cX8_init 0 = .ok (.aload_n 0, 1) := by decide +kernel
theorem dX8_init_1 : decode cX8_init 1 = .ok (.invokespecial 3, 3) := by decide +kernel
theorem dX8_init_4 : decode cX8_init 4 = .ok (.aload_n 0, 1) := by decide +kernel
theorem dX8_init_5 : decode cX8_init 5 = .ok (.new 9, 3) := by decide +kernel
theorem dX8_init_8 : decode cX8_init 8 = .ok (.dup, 1) := by decide +kernel
theorem dX8_init_9 : decode cX8_init 9 = .ok (.invokespecial 11, 3) := by decide +kernel
theorem dX8_init_12 : decode cX8_init 12 = .ok (.putfield 12, 3) := by decide +kernel
theorem dX8_init_15 : decode cX8_init 15 = .ok (.aload_n 0, 1) := by decide +kernel
theorem dX8_init_16 : decode cX8_init 16 = .ok (.new 9, 3) := by decide +kernel
theorem dX8_init_19 : decode cX8_init 19 = .ok (.dup, 1) := by decide +kernel
theorem dX8_init_20 : decode cX8_init 20 = .ok (.invokespecial 11, 3) := by decide +kernel
theorem dX8_init_23 : decode cX8_init 23 = .ok (.putfield 16, 3) := by decide +kernel
theorem dX8_init_26 : decode cX8_init 26 = .ok (.aload_n 0, 1) := by decide +kernel
theorem dX8_init_27 : decode cX8_init 27 = .ok (.iconst 4, 1) := by decide +kernel
theorem dX8_init_28 : decode cX8_init 28 = .ok (.anewarray 9, 3) := by decide +kernel
theorem dX8_init_31 : decode cX8_init 31 = .ok (.putfield 19, 3) := by decide +kernel
theorem dX8_init_34 : decode cX8_init 34 = .ok (.iconst 0, 1) := by decide +kernel
theorem dX8_init_35 : decode cX8_init 35 = .ok (.istore_n 2, 1) := by decide +kernel
theorem dX8_init_36 : decode cX8_init 36 = .ok (.iload_n 2, 1) := by decide +kernel
theorem dX8_init_37 : decode cX8_init 37 = .ok (.aload_n 0, 1) := by decide +kernel
theorem dX8_init_38 : decode cX8_init 38 = .ok (.getfield 19, 3) := by decide +kernel
theorem dX8_init_41 : decode cX8_init 41 = .ok (.arraylength, 1) := by decide +kernel
theorem dX8_init_42 : decode cX8_init 42 = .ok (.if_icmp .ge 22, 3) := by decide +kernel
theorem dX8_init_45 : decode cX8_init 45 = .ok (.aload_n 0, 1) := by decide +kernel
theorem dX8_init_46 : decode cX8_init 46 = .ok (.getfield 19, 3) := by decide +kernel
theorem dX8_init_49 : decode cX8_init 49 = .ok (.iload_n 2, 1) := by decide +kernel
theorem dX8_init_50 : decode cX8_init 50 = .ok (.new 9, 3) := by decide +kernel
theorem dX8_init_53 : decode cX8_init 53 = .ok (.dup, 1) := by decide +kernel
theorem dX8_init_54 : decode cX8_init 54 = .ok (.invokespecial 11, 3) := by decide +kernel
theorem dX8_init_57 : decode cX8_init 57 = .ok (.aastore, 1) := by decide +kernel
theorem dX8_init_58 : decode cX8_init 58 = .ok (.iinc 2 1, 3) := by decide +kernel
theorem dX8_init_61 : decode cX8_init 61 = .ok (.goto (-25), 3) := by decide +kernel
theorem dX8_init_64 : decode cX8_init 64 = .ok (.aload_n 0, 1) := by decide +kernel
theorem dX8_init_65 : decode cX8_init 65 = .ok (.iconst 0, 1) := by decide +kernel
theorem dX8_init_66 : decode cX8_init 66 = .ok (.putfield 23, 3) := by decide +kernel
theorem dX8_init_69 : decode cX8_init 69 = .ok (.aload_n 0, 1) := by decide +kernel
theorem dX8_init_70 : decode cX8_init 70 = .ok (.new 27, 3) := by decide +kernel
theorem dX8_init_73 : decode cX8_init 73 = .ok (.dup, 1) := by decide +kernel
theorem dX8_init_74 : decode cX8_init 74 = .ok (.sipush 200, 3) := by decide +kernel
theorem dX8_init_77 : decode cX8_init 77 = .ok (.invokespecial 29, 3) := by decide +kernel
theorem dX8_init_80 : decode cX8_init 80 = .ok (.putfield 32, 3) := by decide +kernel
theorem dX8_init_83 : decode cX8_init 83 = .ok (.aload_n 0, 1) := by decide +kernel
theorem dX8_init_84 : decode cX8_init 84 = .ok (.new 36, 3) := by decide +kernel
theorem dX8_init_87 : decode cX8_init 87 = .ok (.dup, 1) := by decide +kernel
theorem dX8_init_88 : decode cX8_init 88 = .ok (.invokespecial 38, 3) := by decide +kernel
theorem dX8_init_91 : decode cX8_init 91 = .ok (.putfield 39, 3) := by decide +kernel
theorem dX8_init_94 : decode cX8_init 94 = .ok (.aload_n 0, 1) := by decide +kernel
theorem dX8_init_95 : decode cX8_init 95 = .ok (.new 43, 3) := by decide +kernel
theorem dX8_init_98 : decode cX8_init 98 = .ok (.dup, 1) := by decide +kernel
theorem dX8_init_99 : decode cX8_init 99 = .ok (.invokespecial 45, 3) := by decide +kernel
theorem dX8_init_102 : decode cX8_init 102 = .ok (.putfield 46, 3) := by decide +kernel
theorem dX8_init_105 : decode cX8_init 105 = .ok (.aload_n 0, 1) := by decide +kernel
theorem dX8_init_106 : decode cX8_init 106 = .ok (.new 50, 3) := by decide +kernel
theorem dX8_init_109 : decode cX8_init 109 = .ok (.dup, 1) := by decide +kernel
theorem dX8_init_110 : decode cX8_init 110 = .ok (.invokespecial 52, 3) := by decide +kernel
theorem dX8_init_113 : decode cX8_init 113 = .ok (.putfield 53, 3) := by decide +kernel
theorem dX8_init_116 : decode cX8_init 116 = .ok (.aload_n 0, 1) := by decide +kernel
theorem dX8_init_117 : decode cX8_init 117 = .ok (.new 57, 3) := by decide +kernel
theorem dX8_init_120 : decode cX8_init 120 = .ok (.dup, 1) := by decide +kernel
theorem dX8_init_121 : decode cX8_init 121 = .ok (.invokespecial 59, 3) := by decide +kernel
theorem dX8_init_124 : decode cX8_init 124 = .ok (.putfield 60, 3) := by decide +kernel
theorem dX8_init_127 : decode cX8_init 127 = .ok (.aload_n 0, 1) := by decide +kernel
theorem dX8_init_128 : decode cX8_init 128 = .ok (.getfield 12, 3) := by decide +kernel
theorem dX8_init_131 : decode cX8_init 131 = .ok (.iconst 0, 1) := by decide +kernel
theorem dX8_init_132 : decode cX8_init 132 = .ok (.iload_n 1, 1) := by decide +kernel
theorem dX8_init_133 : decode cX8_init 133 = .ok (.iconst 3, 1) := by decide +kernel
theorem dX8_init_134 : decode cX8_init 134 = .ok (.invokestatic 64, 3) := by decide +kernel
theorem dX8_init_137 : decode cX8_init 137 = .ok (.invokestatic 70, 3) := by decide +kernel
theorem dX8_init_140 : decode cX8_init 140 = .ok (.putfield 73, 3) := by decide +kernel
theorem dX8_init_143 : decode cX8_init 143 = .ok (.aload_n 0, 1) := by decide +kernel
theorem dX8_init_144 : decode cX8_init 144 = .ok (.getfield 12, 3) := by decide +kernel
theorem dX8_init_147 : decode cX8_init 147 = .ok (.iconst 1, 1) := by decide +kernel
theorem dX8_init_148 : decode cX8_init 148 = .ok (.putfield 76, 3) := by decide +kernel
theorem dX8_init_151 : decode cX8_init 151 = .ok (.aload_n 0, 1) := by decide +kernel
theorem dX8_init_152 : decode cX8_init 152 = .ok (.getfield 12, 3) := by decide +kernel
theorem dX8_init_155 : decode cX8_init 155 = .ok (.sipush 200, 3) := by decide +kernel
theorem dX8_init_158 : decode cX8_init 158 = .ok (.putfield 79, 3) := by decide +kernel
theorem dX8_init_161 : decode cX8_init 161 = .ok (.return_, 1) := by decide +kernel
theorem dX8_setOrder_0 : decode cX8_setOrder 0 = .ok (.iload_n 1, 1) := by decide +kernel
theorem dX8_setOrder_1 : decode cX8_setOrder 1 = .ok (.ifCond .lt 8, 3) := by decide +kernel
theorem dX8_setOrder_4 : decode cX8_setOrder 4 = .ok (.iload_n 1, 1) := by decide +kernel
theorem dX8_setOrder_5 : decode cX8_setOrder 5 = .ok (.iconst 3, 1) := by decide +kernel
theorem dX8_setOrder_6 : decode cX8_setOrder 6 = .ok (.if_icmp .le 5, 3) := by decide +kernel
theorem dX8_setOrder_9 : decode cX8_setOrder 9 = .ok (.iconst (-1), 1) := by decide +kernel
theorem dX8_setOrder_10 : decode cX8_setOrder 10 = .ok (.ireturn, 1) := by decide +kernel
theorem dX8_setOrder_11 : decode cX8_setOrder 11 = .ok (.aload_n 0, 1) := by decide +kernel
theorem dX8_setOrder_12 : decode cX8_setOrder 12 = .ok (.invokevirtual 82, 3) := by decide +kernel
theorem dX8_setOrder_15 : decode cX8_setOrder 15 = .ok (.aload_n 0, 1) := by decide +kernel
theorem dX8_setOrder_16 : decode cX8_setOrder 16 = .ok (.getfield 12, 3) := by decide +kernel
theorem dX8_setOrder_19 : decode cX8_setOrder 19 = .ok (.getfield 73, 3) := by decide +kernel
theorem dX8_setOrder_22 : decode cX8_setOrder 22 = .ok (.istore_n 2, 1) := by decide +kernel
theorem dX8_setOrder_23 : decode cX8_setOrder 23 = .ok (.aload_n 0, 1) := by decide +kernel
theorem dX8_setOrder_24 : decode cX8_setOrder 24 = .ok (.getfield 12, 3) := by decide +kernel
theorem dX8_setOrder_27 : decode cX8_setOrder 27 = .ok (.iload_n 1, 1) := by decide +kernel
theorem dX8_setOrder_28 : decode cX8_setOrder 28 = .ok (.putfield 73, 3) := by decide +kernel
theorem dX8_setOrder_31 : decode cX8_setOrder 31 = .ok (.aload_n 0, 1) := by decide +kernel
theorem dX8_setOrder_32 : decode cX8_setOrder 32 = .ok (.getfield 12, 3) := by decide +kernel
theorem dX8_setOrder_35 : decode cX8_setOrder 35 = .ok (.getfield 85, 3) := by decide +kernel
theorem dX8_setOrder_38 : decode cX8_setOrder 38 = .ok (.invokevirtual 89, 3) := by decide +kernel
theorem dX8_setOrder_41 : decode cX8_setOrder 41 = .ok (.iload_n 2, 1) := by decide +kernel
theorem dX8_setOrder_42 : decode cX8_setOrder 42 = .ok (.ireturn, 1) := by decide +kernel
theorem dX8_setExclusion_0 : decode cX8_setExclusion 0 = .ok (.aload_n 0, 1) := by decide +kernel
theorem dX8_setExclusion_1 : decode cX8_setExclusion 1 = .ok (.invokevirtual 82, 3) := by decide +kernel
theorem dX8_setExclusion_4 : decode cX8_setExclusion 4 = .ok (.aload_n 0, 1) := by decide +kernel
theorem dX8_setExclusion_5 : decode cX8_setExclusion 5 = .ok (.getfield 12, 3) := by decide +kernel
theorem dX8_setExclusion_8 : decode cX8_setExclusion 8 = .ok (.getfield 94, 3) := by decide +kernel
theorem dX8_setExclusion_11 : decode cX8_setExclusion 11 = .ok (.ifCond .eq 7, 3) := by decide +kernel
theorem dX8_setExclusion_14 : decode cX8_setExclusion 14 = .ok (.iconst 1, 1) := by decide +kernel
theorem dX8_setExclusion_15 : decode cX8_setExclusion 15 = .ok (.goto 4, 3) := by decide +kernel
theorem dX8_setExclusion_18 : decode cX8_setExclusion 18 = .ok (.iconst 0, 1) := by decide +kernel
theorem dX8_setExclusion_19 : decode cX8_setExclusion 19 = .ok (.istore_n 2, 1) := by decide +kernel
theorem dX8_setExclusion_20 : decode cX8_setExclusion 20 = .ok (.aload_n 0, 1) := by decide +kernel
theorem dX8_setExclusion_21 : decode cX8_setExclusion 21 = .ok (.getfield 12, 3) := by decide +kernel
theorem dX8_setExclusion_24 : decode cX8_setExclusion 24 = .ok (.iload_n 1, 1) := by decide +kernel
theorem dX8_setExclusion_25 : decode cX8_setExclusion 25 = .ok (.putfield 94, 3) := by decide +kernel
theorem dX8_setExclusion_28 : decode cX8_setExclusion 28 = .ok (.iload_n 2, 1) := by decide +kernel
theorem dX8_setExclusion_29 : decode cX8_setExclusion 29 = .ok (.ireturn, 1) := by decide +kernel
theorem dX8_setStep_0 : decode cX8_setStep 0 = .ok (.iload_n 1, 1) := by decide +kernel
theorem dX8_setStep_1 : decode cX8_setStep 1 = .ok (.iconst 1, 1) := by decide +kernel
theorem dX8_setStep_2 : decode cX8_setStep 2 = .ok (.if_icmp .lt 9, 3) := by decide +kernel
theorem dX8_setStep_5 : decode cX8_setStep 5 = .ok (.iload_n 1, 1) := by decide +kernel
theorem dX8_setStep_6 : decode cX8_setStep 6 = .ok (.bipush 10, 2) := by decide +kernel
theorem dX8_setStep_8 : decode cX8_setStep 8 = .ok (.if_icmp .le 5, 3) := by decide +kernel
theorem dX8_setStep_11 : decode cX8_setStep 11 = .ok (.iconst (-1), 1) := by decide +kernel
theorem dX8_setStep_12 : decode cX8_setStep 12 = .ok (.ireturn, 1) := by decide +kernel
theorem dX8_setStep_13 : decode cX8_setStep 13 = .ok (.aload_n 0, 1) := by decide +kernel
theorem dX8_setStep_14 : decode cX8_setStep 14 = .ok (.invokevirtual 82, 3) := by decide +kernel
theorem dX8_setStep_17 : decode cX8_setStep 17 = .ok (.aload_n 0, 1) := by decide +kernel
theorem dX8_setStep_18 : decode cX8_setStep 18 = .ok (.getfield 12, 3) := by decide +kernel
theorem dX8_setStep_21 : decode cX8_setStep 21 = .ok (.getfield 76, 3) := by decide +kernel
theorem dX8_setStep_24 : decode cX8_setStep 24 = .ok (.istore_n 2, 1) := by decide +kernel
theorem dX8_setStep_25 : decode cX8_setStep 25 = .ok (.aload_n 0, 1) := by decide +kernel
theorem dX8_setStep_26 : decode cX8_setStep 26 = .ok (.getfield 12, 3) := by decide +kernel
theorem dX8_setStep_29 : decode cX8_setStep 29 = .ok (.iload_n 1, 1) := by decide +kernel
theorem dX8_setStep_30 : decode cX8_setStep 30 = .ok (.putfield 76, 3) := by decide +kernel
theorem dX8_setStep_33 : decode cX8_setStep 33 = .ok (.iload_n 2, 1) := by decide +kernel
theorem dX8_setStep_34 : decode cX8_setStep 34 = .ok (.ireturn, 1) := by decide +kernel
theorem dX8_setLimit_0 : decode cX8_setLimit 0 = .ok (.iload_n 1, 1) := by decide +kernel
theorem dX8_setLimit_1 : decode cX8_setLimit 1 = .ok (.bipush 20, 2) := by decide +kernel
theorem dX8_setLimit_3 : decode cX8_setLimit 3 = .ok (.if_icmp .lt 10, 3) := by decide +kernel
theorem dX8_setLimit_6 : decode cX8_setLimit 6 = .ok (.iload_n 1, 1) := by decide +kernel
theorem dX8_setLimit_7 : decode cX8_setLimit 7 = .ok (.sipush 1000, 3) := by decide +kernel
theorem dX8_setLimit_10 : decode cX8_setLimit 10 = .ok (.if_icmp .le 5, 3) := by decide +kernel
theorem dX8_setLimit_13 : decode cX8_setLimit 13 = .ok (.iconst (-1), 1) := by decide +kernel
theorem dX8_setLimit_14 : decode cX8_setLimit 14 = .ok (.ireturn, 1) := by decide +kernel
theorem dX8_setLimit_15 : decode cX8_setLimit 15 = .ok (.aload_n 0, 1) := by decide +kernel
theorem dX8_setLimit_16 : decode cX8_setLimit 16 = .ok (.invokevirtual 82, 3) := by decide +kernel
theorem dX8_setLimit_19 : decode cX8_setLimit 19 = .ok (.aload_n 0, 1) := by decide +kernel
theorem dX8_setLimit_20 : decode cX8_setLimit 20 = .ok (.getfield 12, 3) := by decide +kernel
theorem dX8_setLimit_23 : decode cX8_setLimit 23 = .ok (.getfield 79, 3) := by decide +kernel
theorem dX8_setLimit_26 : decode cX8_setLimit 26 = .ok (.istore_n 2, 1) := by decide +kernel
theorem dX8_setLimit_27 : decode cX8_setLimit 27 = .ok (.aload_n 0, 1) := by decide +kernel
theorem dX8_setLimit_28 : decode cX8_setLimit 28 = .ok (.getfield 12, 3) := by decide +kernel
theorem dX8_setLimit_31 : decode cX8_setLimit 31 = .ok (.iload_n 1, 1) := by decide +kernel
theorem dX8_setLimit_32 : decode cX8_setLimit 32 = .ok (.putfield 79, 3) := by decide +kernel
theorem dX8_setLimit_35 : decode cX8_setLimit 35 = .ok (.iload_n 2, 1) := by decide +kernel
theorem dX8_setLimit_36 : decode cX8_setLimit 36 = .ok (.ireturn, 1) := by decide +kernel
theorem dX8_forget_0 : decode cX8_forget 0 = .ok (.aload_n 0, 1) := by decide +kernel
theorem dX8_forget_1 : decode cX8_forget 1 = .ok (.invokevirtual 82, 3) := by decide +kernel
theorem dX8_forget_4 : decode cX8_forget 4 = .ok (.aload_n 0, 1) := by decide +kernel
theorem dX8_forget_5 : decode cX8_forget 5 = .ok (.invokevirtual 98, 3) := by decide +kernel
theorem dX8_forget_8 : decode cX8_forget 8 = .ok (.istore_n 1, 1) := by decide +kernel
theorem dX8_forget_9 : decode cX8_forget 9 = .ok (.aload_n 0, 1) := by decide +kernel
theorem dX8_forget_10 : decode cX8_forget 10 = .ok (.getfield 12, 3) := by decide +kernel
theorem dX8_forget_13 : decode cX8_forget 13 = .ok (.getfield 85, 3) := by decide +kernel
theorem dX8_forget_16 : decode cX8_forget 16 = .ok (.invokevirtual 89, 3) := by decide +kernel
theorem dX8_forget_19 : decode cX8_forget 19 = .ok (.iload_n 1, 1) := by decide +kernel
theorem dX8_forget_20 : decode cX8_forget 20 = .ok (.ireturn, 1) := by decide +kernel
theorem dX8_learn_0 : decode cX8_learn 0 = .ok (.aload_n 0, 1) := by decide +kernel
theorem dX8_learn_1 : decode cX8_learn 1 = .ok (.invokevirtual 82, 3) := by decide +kernel
theorem dX8_learn_4 : decode cX8_learn 4 = .ok (.iconst 0, 1) := by decide +kernel
theorem dX8_learn_5 : decode cX8_learn 5 = .ok (.istore_n 1, 1) := by decide +kernel
theorem dX8_learn_6 : decode cX8_learn 6 = .ok (.iload_n 1, 1) := by decide +kernel
theorem dX8_learn_7 : decode cX8_learn 7 = .ok (.aload_n 0, 1) := by decide +kernel
theorem dX8_learn_8 : decode cX8_learn 8 = .ok (.getfield 32, 3) := by decide +kernel
theorem dX8_learn_11 : decode cX8_learn 11 = .ok (.getfield 102, 3) := by decide +kernel
theorem dX8_learn_14 : decode cX8_learn 14 = .ok (.if_icmp .ge 29, 3) := by decide +kernel
theorem dX8_learn_17 : decode cX8_learn 17 = .ok (.aload_n 0, 1) := by decide +kernel
theorem dX8_learn_18 : decode cX8_learn 18 = .ok (.getfield 12, 3) := by decide +kernel
theorem dX8_learn_21 : decode cX8_learn 21 = .ok (.aload_n 0, 1) := by decide +kernel
theorem dX8_learn_22 : decode cX8_learn 22 = .ok (.getfield 32, 3) := by decide +kernel
theorem dX8_learn_25 : decode cX8_learn 25 = .ok (.iload_n 1, 1) := by decide +kernel
theorem dX8_learn_26 : decode cX8_learn 26 = .ok (.aload_n 0, 1) := by decide +kernel
theorem dX8_learn_27 : decode cX8_learn 27 = .ok (.getfield 32, 3) := by decide +kernel
theorem dX8_learn_30 : decode cX8_learn 30 = .ok (.iload_n 1, 1) := by decide +kernel
theorem dX8_learn_31 : decode cX8_learn 31 = .ok (.invokevirtual 105, 3) := by decide +kernel
theorem dX8_learn_34 : decode cX8_learn 34 = .ok (.invokevirtual 109, 3) := by decide +kernel
theorem dX8_learn_37 : decode cX8_learn 37 = .ok (.iinc 1 1, 3) := by decide +kernel
theorem dX8_learn_40 : decode cX8_learn 40 = .ok (.goto (-34), 3) := by decide +kernel
theorem dX8_learn_43 : decode cX8_learn 43 = .ok (.aload_n 0, 1) := by decide +kernel
theorem dX8_learn_44 : decode cX8_learn 44 = .ok (.getfield 12, 3) := by decide +kernel
theorem dX8_learn_47 : decode cX8_learn 47 = .ok (.aload_n 0, 1) := by decide +kernel
theorem dX8_learn_48 : decode cX8_learn 48 = .ok (.getfield 32, 3) := by decide +kernel
theorem dX8_learn_51 : decode cX8_learn 51 = .ok (.aload_n 0, 1) := by decide +kernel
theorem dX8_learn_52 : decode cX8_learn 52 = .ok (.getfield 32, 3) := by decide +kernel
theorem dX8_learn_55 : decode cX8_learn 55 = .ok (.getfield 102, 3) := by decide +kernel
theorem dX8_learn_58 : decode cX8_learn 58 = .ok (.bipush 95, 2) := by decide +kernel
theorem dX8_learn_60 : decode cX8_learn 60 = .ok (.invokevirtual 109, 3) := by decide +kernel
theorem dX8_learn_63 : decode cX8_learn 63 = .ok (.aload_n 0, 1) := by decide +kernel
theorem dX8_learn_64 : decode cX8_learn 64 = .ok (.invokevirtual 98, 3) := by decide +kernel
theorem dX8_learn_67 : decode cX8_learn 67 = .ok (.ireturn, 1) := by decide +kernel
theorem dX8_contexts_0 : decode cX8_contexts 0 = .ok (.aload_n 0, 1) := by decide +kernel
theorem dX8_contexts_1 : decode cX8_contexts 1 = .ok (.getfield 12, 3) := by decide +kernel
theorem dX8_contexts_4 : decode cX8_contexts 4 = .ok (.getfield 85, 3) := by decide +kernel
theorem dX8_contexts_7 : decode cX8_contexts 7 = .ok (.getfield 113, 3) := by decide +kernel
theorem dX8_contexts_10 : decode cX8_contexts 10 = .ok (.ireturn, 1) := by decide +kernel
theorem dX8_count_0 : decode cX8_count 0 = .ok (.iload_n 1, 1) := by decide +kernel
theorem dX8_count_1 : decode cX8_count 1 = .ok (.ifCond .lt 18, 3) := by decide +kernel
theorem dX8_count_4 : decode cX8_count 4 = .ok (.iload_n 1, 1) := by decide +kernel
theorem dX8_count_5 : decode cX8_count 5 = .ok (.iconst 3, 1) := by decide +kernel
theorem dX8_count_6 : decode cX8_count 6 = .ok (.if_icmp .gt 13, 3) := by decide +kernel
theorem dX8_count_9 : decode cX8_count 9 = .ok (.iload_n 2, 1) := by decide +kernel
theorem dX8_count_10 : decode cX8_count 10 = .ok (.ifCond .lt 9, 3) := by decide +kernel
theorem dX8_count_13 : decode cX8_count 13 = .ok (.iload_n 2, 1) := by decide +kernel
theorem dX8_count_14 : decode cX8_count 14 = .ok (.bipush 96, 2) := by decide +kernel
theorem dX8_count_16 : decode cX8_count 16 = .ok (.if_icmp .lt 5, 3) := by decide +kernel
theorem dX8_count_19 : decode cX8_count 19 = .ok (.iconst (-1), 1) := by decide +kernel
theorem dX8_count_20 : decode cX8_count 20 = .ok (.ireturn, 1) := by decide +kernel
theorem dX8_count_21 : decode cX8_count 21 = .ok (.aload_n 0, 1) := by decide +kernel
theorem dX8_count_22 : decode cX8_count 22 = .ok (.iload_n 1, 1) := by decide +kernel
theorem dX8_count_23 : decode cX8_count 23 = .ok (.invokevirtual 116, 3) := by decide +kernel
theorem dX8_count_26 : decode cX8_count 26 = .ok (.istore_n 3, 1) := by decide +kernel
theorem dX8_count_27 : decode cX8_count 27 = .ok (.iload_n 3, 1) := by decide +kernel
theorem dX8_count_28 : decode cX8_count 28 = .ok (.ifCond .ge 8, 3) := by decide +kernel
theorem dX8_count_31 : decode cX8_count 31 = .ok (.bipush (-9), 2) := by decide +kernel
theorem dX8_count_33 : decode cX8_count 33 = .ok (.goto 15, 3) := by decide +kernel
theorem dX8_count_36 : decode cX8_count 36 = .ok (.aload_n 0, 1) := by decide +kernel
theorem dX8_count_37 : decode cX8_count 37 = .ok (.getfield 12, 3) := by decide +kernel
theorem dX8_count_40 : decode cX8_count 40 = .ok (.getfield 85, 3) := by decide +kernel
theorem dX8_count_43 : decode cX8_count 43 = .ok (.iload_n 3, 1) := by decide +kernel
theorem dX8_count_44 : decode cX8_count 44 = .ok (.iload_n 2, 1) := by decide +kernel
theorem dX8_count_45 : decode cX8_count 45 = .ok (.invokevirtual 119, 3) := by decide +kernel
theorem dX8_count_48 : decode cX8_count 48 = .ok (.ireturn, 1) := by decide +kernel
theorem dX8_weight_0 : decode cX8_weight 0 = .ok (.iload_n 1, 1) := by decide +kernel
theorem dX8_weight_1 : decode cX8_weight 1 = .ok (.ifCond .lt 8, 3) := by decide +kernel
theorem dX8_weight_4 : decode cX8_weight 4 = .ok (.iload_n 1, 1) := by decide +kernel
theorem dX8_weight_5 : decode cX8_weight 5 = .ok (.iconst 3, 1) := by decide +kernel
theorem dX8_weight_6 : decode cX8_weight 6 = .ok (.if_icmp .le 5, 3) := by decide +kernel
theorem dX8_weight_9 : decode cX8_weight 9 = .ok (.iconst (-1), 1) := by decide +kernel
theorem dX8_weight_10 : decode cX8_weight 10 = .ok (.ireturn, 1) := by decide +kernel
theorem dX8_weight_11 : decode cX8_weight 11 = .ok (.aload_n 0, 1) := by decide +kernel
theorem dX8_weight_12 : decode cX8_weight 12 = .ok (.iload_n 1, 1) := by decide +kernel
theorem dX8_weight_13 : decode cX8_weight 13 = .ok (.invokevirtual 116, 3) := by decide +kernel
theorem dX8_weight_16 : decode cX8_weight 16 = .ok (.istore_n 2, 1) := by decide +kernel
theorem dX8_weight_17 : decode cX8_weight 17 = .ok (.iload_n 2, 1) := by decide +kernel
theorem dX8_weight_18 : decode cX8_weight 18 = .ok (.ifCond .ge 8, 3) := by decide +kernel
theorem dX8_weight_21 : decode cX8_weight 21 = .ok (.bipush (-9), 2) := by decide +kernel
theorem dX8_weight_23 : decode cX8_weight 23 = .ok (.goto 14, 3) := by decide +kernel
theorem dX8_weight_26 : decode cX8_weight 26 = .ok (.aload_n 0, 1) := by decide +kernel
theorem dX8_weight_27 : decode cX8_weight 27 = .ok (.getfield 12, 3) := by decide +kernel
theorem dX8_weight_30 : decode cX8_weight 30 = .ok (.getfield 85, 3) := by decide +kernel
theorem dX8_weight_33 : decode cX8_weight 33 = .ok (.iload_n 2, 1) := by decide +kernel
theorem dX8_weight_34 : decode cX8_weight 34 = .ok (.invokevirtual 122, 3) := by decide +kernel
theorem dX8_weight_37 : decode cX8_weight 37 = .ok (.ireturn, 1) := by decide +kernel
theorem dX8_price_0 : decode cX8_price 0 = .ok (.iload_n 1, 1) := by decide +kernel
theorem dX8_price_1 : decode cX8_price 1 = .ok (.ifCond .lt 9, 3) := by decide +kernel
theorem dX8_price_4 : decode cX8_price 4 = .ok (.iload_n 1, 1) := by decide +kernel
theorem dX8_price_5 : decode cX8_price 5 = .ok (.bipush 96, 2) := by decide +kernel
theorem dX8_price_7 : decode cX8_price 7 = .ok (.if_icmp .lt 5, 3) := by decide +kernel
theorem dX8_price_10 : decode cX8_price 10 = .ok (.iconst (-1), 1) := by decide +kernel
theorem dX8_price_11 : decode cX8_price 11 = .ok (.ireturn, 1) := by decide +kernel
theorem dX8_price_12 : decode cX8_price 12 = .ok (.aload_n 0, 1) := by decide +kernel
theorem dX8_price_13 : decode cX8_price 13 = .ok (.aload_n 0, 1) := by decide +kernel
theorem dX8_price_14 : decode cX8_price 14 = .ok (.getfield 12, 3) := by decide +kernel
theorem dX8_price_17 : decode cX8_price 17 = .ok (.aload_n 0, 1) := by decide +kernel
theorem dX8_price_18 : decode cX8_price 18 = .ok (.getfield 32, 3) := by decide +kernel
theorem dX8_price_21 : decode cX8_price 21 = .ok (.aload_n 0, 1) := by decide +kernel
theorem dX8_price_22 : decode cX8_price 22 = .ok (.getfield 32, 3) := by decide +kernel
theorem dX8_price_25 : decode cX8_price 25 = .ok (.getfield 102, 3) := by decide +kernel
theorem dX8_price_28 : decode cX8_price 28 = .ok (.iload_n 1, 1) := by decide +kernel
theorem dX8_price_29 : decode cX8_price 29 = .ok (.invokevirtual 125, 3) := by decide +kernel
theorem dX8_price_32 : decode cX8_price 32 = .ok (.aload_n 0, 1) := by decide +kernel
theorem dX8_price_33 : decode cX8_price 33 = .ok (.getfield 46, 3) := by decide +kernel
theorem dX8_price_36 : decode cX8_price 36 = .ok (.invokevirtual 129, 3) := by decide +kernel
theorem dX8_price_39 : decode cX8_price 39 = .ok (.ireturn, 1) := by decide +kernel
theorem dX8_guess_0 : decode cX8_guess 0 = .ok (.iconst 0, 1) := by decide +kernel
theorem dX8_guess_1 : decode cX8_guess 1 = .ok (.istore_n 1, 1) := by decide +kernel
theorem dX8_guess_2 : decode cX8_guess 2 = .ok (.aload_n 0, 1) := by decide +kernel
theorem dX8_guess_3 : decode cX8_guess 3 = .ok (.iconst 0, 1) := by decide +kernel
theorem dX8_guess_4 : decode cX8_guess 4 = .ok (.invokevirtual 132, 3) := by decide +kernel
theorem dX8_guess_7 : decode cX8_guess 7 = .ok (.istore_n 2, 1) := by decide +kernel
theorem dX8_guess_8 : decode cX8_guess 8 = .ok (.iconst 1, 1) := by decide +kernel
theorem dX8_guess_9 : decode cX8_guess 9 = .ok (.istore_n 3, 1) := by decide +kernel
theorem dX8_guess_10 : decode cX8_guess 10 = .ok (.iload_n 3, 1) := by decide +kernel
theorem dX8_guess_11 : decode cX8_guess 11 = .ok (.bipush 96, 2) := by decide +kernel
theorem dX8_guess_13 : decode cX8_guess 13 = .ok (.if_icmp .ge 27, 3) := by decide +kernel
theorem dX8_guess_16 : decode cX8_guess 16 = .ok (.aload_n 0, 1) := by decide +kernel
theorem dX8_guess_17 : decode cX8_guess 17 = .ok (.iload_n 3, 1) := by decide +kernel
theorem dX8_guess_18 : decode cX8_guess 18 = .ok (.invokevirtual 132, 3) := by decide +kernel
theorem dX8_guess_21 : decode cX8_guess 21 = .ok (.istore 4, 2) := by decide +kernel
theorem dX8_guess_23 : decode cX8_guess 23 = .ok (.iload 4, 2) := by decide +kernel
theorem dX8_guess_25 : decode cX8_guess 25 = .ok (.iload_n 2, 1) := by decide +kernel
theorem dX8_guess_26 : decode cX8_guess 26 = .ok (.if_icmp .ge 8, 3) := by decide +kernel
theorem dX8_guess_29 : decode cX8_guess 29 = .ok (.iload 4, 2) := by decide +kernel
theorem dX8_guess_31 : decode cX8_guess 31 = .ok (.istore_n 2, 1) := by decide +kernel
theorem dX8_guess_32 : decode cX8_guess 32 = .ok (.iload_n 3, 1) := by decide +kernel
theorem dX8_guess_33 : decode cX8_guess 33 = .ok (.istore_n 1, 1) := by decide +kernel
theorem dX8_guess_34 : decode cX8_guess 34 = .ok (.iinc 3 1, 3) := by decide +kernel
theorem dX8_guess_37 : decode cX8_guess 37 = .ok (.goto (-27), 3) := by decide +kernel
theorem dX8_guess_40 : decode cX8_guess 40 = .ok (.iload_n 1, 1) := by decide +kernel
theorem dX8_guess_41 : decode cX8_guess 41 = .ok (.ireturn, 1) := by decide +kernel
theorem dX8_type_0 : decode cX8_type 0 = .ok (.iload_n 1, 1) := by decide +kernel
theorem dX8_type_1 : decode cX8_type 1 = .ok (.bipush 32, 2) := by decide +kernel
theorem dX8_type_3 : decode cX8_type 3 = .ok (.if_icmp .lt 9, 3) := by decide +kernel
theorem dX8_type_6 : decode cX8_type 6 = .ok (.iload_n 1, 1) := by decide +kernel
theorem dX8_type_7 : decode cX8_type 7 = .ok (.bipush 126, 2) := by decide +kernel
theorem dX8_type_9 : decode cX8_type 9 = .ok (.if_icmp .le 5, 3) := by decide +kernel
theorem dX8_type_12 : decode cX8_type 12 = .ok (.iconst (-1), 1) := by decide +kernel
theorem dX8_type_13 : decode cX8_type 13 = .ok (.ireturn, 1) := by decide +kernel
theorem dX8_type_14 : decode cX8_type 14 = .ok (.aload_n 0, 1) := by decide +kernel
theorem dX8_type_15 : decode cX8_type 15 = .ok (.getfield 32, 3) := by decide +kernel
theorem dX8_type_18 : decode cX8_type 18 = .ok (.getfield 102, 3) := by decide +kernel
theorem dX8_type_21 : decode cX8_type 21 = .ok (.sipush 200, 3) := by decide +kernel
theorem dX8_type_24 : decode cX8_type 24 = .ok (.if_icmp .lt 6, 3) := by decide +kernel
theorem dX8_type_27 : decode cX8_type 27 = .ok (.bipush (-3), 2) := by decide +kernel
theorem dX8_type_29 : decode cX8_type 29 = .ok (.ireturn, 1) := by decide +kernel
theorem dX8_type_30 : decode cX8_type 30 = .ok (.aload_n 0, 1) := by decide +kernel
theorem dX8_type_31 : decode cX8_type 31 = .ok (.getfield 32, 3) := by decide +kernel
theorem dX8_type_34 : decode cX8_type 34 = .ok (.iload_n 1, 1) := by decide +kernel
theorem dX8_type_35 : decode cX8_type 35 = .ok (.bipush 32, 2) := by decide +kernel
theorem dX8_type_37 : decode cX8_type 37 = .ok (.isub, 1) := by decide +kernel
theorem dX8_type_38 : decode cX8_type 38 = .ok (.invokevirtual 135, 3) := by decide +kernel
theorem dX8_type_41 : decode cX8_type 41 = .ok (.aload_n 0, 1) := by decide +kernel
theorem dX8_type_42 : decode cX8_type 42 = .ok (.getfield 32, 3) := by decide +kernel
theorem dX8_type_45 : decode cX8_type 45 = .ok (.getfield 102, 3) := by decide +kernel
theorem dX8_type_48 : decode cX8_type 48 = .ok (.ireturn, 1) := by decide +kernel
theorem dX8_remove_0 : decode cX8_remove 0 = .ok (.iload_n 1, 1) := by decide +kernel
theorem dX8_remove_1 : decode cX8_remove 1 = .ok (.ifCond .ge 5, 3) := by decide +kernel
theorem dX8_remove_4 : decode cX8_remove 4 = .ok (.iconst (-1), 1) := by decide +kernel
theorem dX8_remove_5 : decode cX8_remove 5 = .ok (.ireturn, 1) := by decide +kernel
theorem dX8_remove_6 : decode cX8_remove 6 = .ok (.aload_n 0, 1) := by decide +kernel
theorem dX8_remove_7 : decode cX8_remove 7 = .ok (.getfield 32, 3) := by decide +kernel
theorem dX8_remove_10 : decode cX8_remove 10 = .ok (.iload_n 1, 1) := by decide +kernel
theorem dX8_remove_11 : decode cX8_remove 11 = .ok (.invokevirtual 138, 3) := by decide +kernel
theorem dX8_remove_14 : decode cX8_remove 14 = .ok (.aload_n 0, 1) := by decide +kernel
theorem dX8_remove_15 : decode cX8_remove 15 = .ok (.getfield 32, 3) := by decide +kernel
theorem dX8_remove_18 : decode cX8_remove 18 = .ok (.getfield 102, 3) := by decide +kernel
theorem dX8_remove_21 : decode cX8_remove 21 = .ok (.ireturn, 1) := by decide +kernel
theorem dX8_encode_0 : decode cX8_encode 0 = .ok (.aload_n 0, 1) := by decide +kernel
theorem dX8_encode_1 : decode cX8_encode 1 = .ok (.aload_n 0, 1) := by decide +kernel
theorem dX8_encode_2 : decode cX8_encode 2 = .ok (.getfield 32, 3) := by decide +kernel
theorem dX8_encode_5 : decode cX8_encode 5 = .ok (.invokevirtual 141, 3) := by decide +kernel
theorem dX8_encode_8 : decode cX8_encode 8 = .ok (.aload_n 0, 1) := by decide +kernel
theorem dX8_encode_9 : decode cX8_encode 9 = .ok (.getfield 53, 3) := by decide +kernel
theorem dX8_encode_12 : decode cX8_encode 12 = .ok (.getfield 145, 3) := by decide +kernel
theorem dX8_encode_15 : decode cX8_encode 15 = .ok (.getfield 102, 3) := by decide +kernel
theorem dX8_encode_18 : decode cX8_encode 18 = .ok (.sipush 400, 3) := by decide +kernel
theorem dX8_encode_21 : decode cX8_encode 21 = .ok (.if_icmp .le 6, 3) := by decide +kernel
theorem dX8_encode_24 : decode cX8_encode 24 = .ok (.bipush (-3), 2) := by decide +kernel
theorem dX8_encode_26 : decode cX8_encode 26 = .ok (.ireturn, 1) := by decide +kernel
theorem dX8_encode_27 : decode cX8_encode 27 = .ok (.aload_n 0, 1) := by decide +kernel
theorem dX8_encode_28 : decode cX8_encode 28 = .ok (.invokevirtual 82, 3) := by decide +kernel
theorem dX8_encode_31 : decode cX8_encode 31 = .ok (.aload_n 0, 1) := by decide +kernel
theorem dX8_encode_32 : decode cX8_encode 32 = .ok (.getfield 12, 3) := by decide +kernel
theorem dX8_encode_35 : decode cX8_encode 35 = .ok (.getfield 85, 3) := by decide +kernel
theorem dX8_encode_38 : decode cX8_encode 38 = .ok (.aload_n 0, 1) := by decide +kernel
theorem dX8_encode_39 : decode cX8_encode 39 = .ok (.getfield 16, 3) := by decide +kernel
theorem dX8_encode_42 : decode cX8_encode 42 = .ok (.getfield 85, 3) := by decide +kernel
theorem dX8_encode_45 : decode cX8_encode 45 = .ok (.invokevirtual 148, 3) := by decide +kernel
theorem dX8_encode_48 : decode cX8_encode 48 = .ok (.aload_n 0, 1) := by decide +kernel
theorem dX8_encode_49 : decode cX8_encode 49 = .ok (.getfield 12, 3) := by decide +kernel
theorem dX8_encode_52 : decode cX8_encode 52 = .ok (.getfield 152, 3) := by decide +kernel
theorem dX8_encode_55 : decode cX8_encode 55 = .ok (.aload_n 0, 1) := by decide +kernel
theorem dX8_encode_56 : decode cX8_encode 56 = .ok (.getfield 16, 3) := by decide +kernel
theorem dX8_encode_59 : decode cX8_encode 59 = .ok (.getfield 152, 3) := by decide +kernel
theorem dX8_encode_62 : decode cX8_encode 62 = .ok (.invokevirtual 156, 3) := by decide +kernel
theorem dX8_encode_65 : decode cX8_encode 65 = .ok (.aload_n 0, 1) := by decide +kernel
theorem dX8_encode_66 : decode cX8_encode 66 = .ok (.getfield 12, 3) := by decide +kernel
theorem dX8_encode_69 : decode cX8_encode 69 = .ok (.getfield 161, 3) := by decide +kernel
theorem dX8_encode_72 : decode cX8_encode 72 = .ok (.aload_n 0, 1) := by decide +kernel
theorem dX8_encode_73 : decode cX8_encode 73 = .ok (.getfield 53, 3) := by decide +kernel
theorem dX8_encode_76 : decode cX8_encode 76 = .ok (.getfield 145, 3) := by decide +kernel
theorem dX8_encode_79 : decode cX8_encode 79 = .ok (.invokevirtual 164, 3) := by decide +kernel
theorem dX8_encode_82 : decode cX8_encode 82 = .ok (.aload_n 0, 1) := by decide +kernel
theorem dX8_encode_83 : decode cX8_encode 83 = .ok (.getfield 12, 3) := by decide +kernel
theorem dX8_encode_86 : decode cX8_encode 86 = .ok (.getfield 161, 3) := by decide +kernel
theorem dX8_encode_89 : decode cX8_encode 89 = .ok (.getfield 102, 3) := by decide +kernel
theorem dX8_encode_92 : decode cX8_encode 92 = .ok (.ireturn, 1) := by decide +kernel
theorem dX8_bytes_0 : decode cX8_bytes 0 = .ok (.aload_n 0, 1) := by decide +kernel
theorem dX8_bytes_1 : decode cX8_bytes 1 = .ok (.getfield 12, 3) := by decide +kernel
theorem dX8_bytes_4 : decode cX8_bytes 4 = .ok (.getfield 161, 3) := by decide +kernel
theorem dX8_bytes_7 : decode cX8_bytes 7 = .ok (.getfield 102, 3) := by decide +kernel
theorem dX8_bytes_10 : decode cX8_bytes 10 = .ok (.ireturn, 1) := by decide +kernel
theorem dX8_codeByte_0 : decode cX8_codeByte 0 = .ok (.aload_n 0, 1) := by decide +kernel
theorem dX8_codeByte_1 : decode cX8_codeByte 1 = .ok (.getfield 12, 3) := by decide +kernel
theorem dX8_codeByte_4 : decode cX8_codeByte 4 = .ok (.getfield 161, 3) := by decide +kernel
theorem dX8_codeByte_7 : decode cX8_codeByte 7 = .ok (.iload_n 1, 1) := by decide +kernel
theorem dX8_codeByte_8 : decode cX8_codeByte 8 = .ok (.invokevirtual 166, 3) := by decide +kernel
theorem dX8_codeByte_11 : decode cX8_codeByte 11 = .ok (.ifCond .eq 17, 3) := by decide +kernel
theorem dX8_codeByte_14 : decode cX8_codeByte 14 = .ok (.aload_n 0, 1) := by decide +kernel
theorem dX8_codeByte_15 : decode cX8_codeByte 15 = .ok (.getfield 12, 3) := by decide +kernel
theorem dX8_codeByte_18 : decode cX8_codeByte 18 = .ok (.getfield 161, 3) := by decide +kernel
theorem dX8_codeByte_21 : decode cX8_codeByte 21 = .ok (.iload_n 1, 1) := by decide +kernel
theorem dX8_codeByte_22 : decode cX8_codeByte 22 = .ok (.invokevirtual 105, 3) := by decide +kernel
theorem dX8_codeByte_25 : decode cX8_codeByte 25 = .ok (.goto 4, 3) := by decide +kernel
theorem dX8_codeByte_28 : decode cX8_codeByte 28 = .ok (.iconst (-1), 1) := by decide +kernel
theorem dX8_codeByte_29 : decode cX8_codeByte 29 = .ok (.ireturn, 1) := by decide +kernel
theorem dX8_longestCarry_0 : decode cX8_longestCarry 0 = .ok (.aload_n 0, 1) := by decide +kernel
theorem dX8_longestCarry_1 : decode cX8_longestCarry 1 = .ok (.getfield 12, 3) := by decide +kernel
theorem dX8_longestCarry_4 : decode cX8_longestCarry 4 = .ok (.getfield 152, 3) := by decide +kernel
theorem dX8_longestCarry_7 : decode cX8_longestCarry 7 = .ok (.getfield 170, 3) := by decide +kernel
theorem dX8_longestCarry_10 : decode cX8_longestCarry 10 = .ok (.ireturn, 1) := by decide +kernel
theorem dX8_decode_0 : decode cX8_decode 0 = .ok (.aload_n 0, 1) := by decide +kernel
theorem dX8_decode_1 : decode cX8_decode 1 = .ok (.invokevirtual 173, 3) := by decide +kernel
theorem dX8_decode_4 : decode cX8_decode 4 = .ok (.istore_n 1, 1) := by decide +kernel
theorem dX8_decode_5 : decode cX8_decode 5 = .ok (.iload_n 1, 1) := by decide +kernel
theorem dX8_decode_6 : decode cX8_decode 6 = .ok (.ifCond .ne 40, 3) := by decide +kernel
theorem dX8_decode_9 : decode cX8_decode 9 = .ok (.aload_n 0, 1) := by decide +kernel
theorem dX8_decode_10 : decode cX8_decode 10 = .ok (.aload_n 0, 1) := by decide +kernel
theorem dX8_decode_11 : decode cX8_decode 11 = .ok (.getfield 16, 3) := by decide +kernel
theorem dX8_decode_14 : decode cX8_decode 14 = .ok (.getfield 176, 3) := by decide +kernel
theorem dX8_decode_17 : decode cX8_decode 17 = .ok (.invokevirtual 141, 3) := by decide +kernel
theorem dX8_decode_20 : decode cX8_decode 20 = .ok (.aload_n 0, 1) := by decide +kernel
theorem dX8_decode_21 : decode cX8_decode 21 = .ok (.getfield 53, 3) := by decide +kernel
theorem dX8_decode_24 : decode cX8_decode 24 = .ok (.getfield 145, 3) := by decide +kernel
theorem dX8_decode_27 : decode cX8_decode 27 = .ok (.aload_n 0, 1) := by decide +kernel
theorem dX8_decode_28 : decode cX8_decode 28 = .ok (.getfield 12, 3) := by decide +kernel
theorem dX8_decode_31 : decode cX8_decode 31 = .ok (.getfield 161, 3) := by decide +kernel
theorem dX8_decode_34 : decode cX8_decode 34 = .ok (.invokevirtual 179, 3) := by decide +kernel
theorem dX8_decode_37 : decode cX8_decode 37 = .ok (.ifCond .eq 7, 3) := by decide +kernel
theorem dX8_decode_40 : decode cX8_decode 40 = .ok (.iconst 0, 1) := by decide +kernel
theorem dX8_decode_41 : decode cX8_decode 41 = .ok (.goto 4, 3) := by decide +kernel
theorem dX8_decode_44 : decode cX8_decode 44 = .ok (.iconst 3, 1) := by decide +kernel
theorem dX8_decode_45 : decode cX8_decode 45 = .ok (.istore_n 1, 1) := by decide +kernel
theorem dX8_decode_46 : decode cX8_decode 46 = .ok (.iload_n 1, 1) := by decide +kernel
theorem dX8_decode_47 : decode cX8_decode 47 = .ok (.ifCond .eq 8, 3) := by decide +kernel
theorem dX8_decode_50 : decode cX8_decode 50 = .ok (.bipush (-100), 2) := by decide +kernel
theorem dX8_decode_52 : decode cX8_decode 52 = .ok (.iload_n 1, 1) := by decide +kernel
theorem dX8_decode_53 : decode cX8_decode 53 = .ok (.isub, 1) := by decide +kernel
theorem dX8_decode_54 : decode cX8_decode 54 = .ok (.ireturn, 1) := by decide +kernel
theorem dX8_decode_55 : decode cX8_decode 55 = .ok (.aload_n 0, 1) := by decide +kernel
theorem dX8_decode_56 : decode cX8_decode 56 = .ok (.invokevirtual 82, 3) := by decide +kernel
theorem dX8_decode_59 : decode cX8_decode 59 = .ok (.aload_n 0, 1) := by decide +kernel
theorem dX8_decode_60 : decode cX8_decode 60 = .ok (.getfield 12, 3) := by decide +kernel
theorem dX8_decode_63 : decode cX8_decode 63 = .ok (.getfield 85, 3) := by decide +kernel
theorem dX8_decode_66 : decode cX8_decode 66 = .ok (.aload_n 0, 1) := by decide +kernel
theorem dX8_decode_67 : decode cX8_decode 67 = .ok (.getfield 16, 3) := by decide +kernel
theorem dX8_decode_70 : decode cX8_decode 70 = .ok (.getfield 85, 3) := by decide +kernel
theorem dX8_decode_73 : decode cX8_decode 73 = .ok (.invokevirtual 148, 3) := by decide +kernel
theorem dX8_decode_76 : decode cX8_decode 76 = .ok (.aload_n 0, 1) := by decide +kernel
theorem dX8_decode_77 : decode cX8_decode 77 = .ok (.getfield 12, 3) := by decide +kernel
theorem dX8_decode_80 : decode cX8_decode 80 = .ok (.getfield 176, 3) := by decide +kernel
theorem dX8_decode_83 : decode cX8_decode 83 = .ok (.aload_n 0, 1) := by decide +kernel
theorem dX8_decode_84 : decode cX8_decode 84 = .ok (.getfield 16, 3) := by decide +kernel
theorem dX8_decode_87 : decode cX8_decode 87 = .ok (.getfield 176, 3) := by decide +kernel
theorem dX8_decode_90 : decode cX8_decode 90 = .ok (.invokevirtual 164, 3) := by decide +kernel
theorem dX8_decode_93 : decode cX8_decode 93 = .ok (.aload_n 0, 1) := by decide +kernel
theorem dX8_decode_94 : decode cX8_decode 94 = .ok (.getfield 12, 3) := by decide +kernel
theorem dX8_decode_97 : decode cX8_decode 97 = .ok (.getfield 176, 3) := by decide +kernel
theorem dX8_decode_100 : decode cX8_decode 100 = .ok (.getfield 102, 3) := by decide +kernel
theorem dX8_decode_103 : decode cX8_decode 103 = .ok (.ireturn, 1) := by decide +kernel
theorem dX8_decoded_0 : decode cX8_decoded 0 = .ok (.iload_n 1, 1) := by decide +kernel
theorem dX8_decoded_1 : decode cX8_decoded 1 = .ok (.ifCond .ge 5, 3) := by decide +kernel
theorem dX8_decoded_4 : decode cX8_decoded 4 = .ok (.iconst (-1), 1) := by decide +kernel
theorem dX8_decoded_5 : decode cX8_decoded 5 = .ok (.ireturn, 1) := by decide +kernel
theorem dX8_decoded_6 : decode cX8_decoded 6 = .ok (.aload_n 0, 1) := by decide +kernel
theorem dX8_decoded_7 : decode cX8_decoded 7 = .ok (.getfield 12, 3) := by decide +kernel
theorem dX8_decoded_10 : decode cX8_decoded 10 = .ok (.getfield 176, 3) := by decide +kernel
theorem dX8_decoded_13 : decode cX8_decoded 13 = .ok (.iload_n 1, 1) := by decide +kernel
theorem dX8_decoded_14 : decode cX8_decoded 14 = .ok (.invokevirtual 166, 3) := by decide +kernel
theorem dX8_decoded_17 : decode cX8_decoded 17 = .ok (.ifCond .eq 20, 3) := by decide +kernel
theorem dX8_decoded_20 : decode cX8_decoded 20 = .ok (.aload_n 0, 1) := by decide +kernel
theorem dX8_decoded_21 : decode cX8_decoded 21 = .ok (.getfield 12, 3) := by decide +kernel
theorem dX8_decoded_24 : decode cX8_decoded 24 = .ok (.getfield 176, 3) := by decide +kernel
theorem dX8_decoded_27 : decode cX8_decoded 27 = .ok (.iload_n 1, 1) := by decide +kernel
theorem dX8_decoded_28 : decode cX8_decoded 28 = .ok (.invokevirtual 105, 3) := by decide +kernel
theorem dX8_decoded_31 : decode cX8_decoded 31 = .ok (.bipush 32, 2) := by decide +kernel
theorem dX8_decoded_33 : decode cX8_decoded 33 = .ok (.iadd, 1) := by decide +kernel
theorem dX8_decoded_34 : decode cX8_decoded 34 = .ok (.goto 5, 3) := by decide +kernel
theorem dX8_decoded_37 : decode cX8_decoded 37 = .ok (.bipush (-9), 2) := by decide +kernel
theorem dX8_decoded_39 : decode cX8_decoded 39 = .ok (.ireturn, 1) := by decide +kernel
theorem dX8_flip_0 : decode cX8_flip 0 = .ok (.aload_n 0, 1) := by decide +kernel
theorem dX8_flip_1 : decode cX8_flip 1 = .ok (.getfield 12, 3) := by decide +kernel
theorem dX8_flip_4 : decode cX8_flip 4 = .ok (.getfield 161, 3) := by decide +kernel
theorem dX8_flip_7 : decode cX8_flip 7 = .ok (.iload_n 1, 1) := by decide +kernel
theorem dX8_flip_8 : decode cX8_flip 8 = .ok (.invokevirtual 166, 3) := by decide +kernel
theorem dX8_flip_11 : decode cX8_flip 11 = .ok (.ifCond .eq 13, 3) := by decide +kernel
theorem dX8_flip_14 : decode cX8_flip 14 = .ok (.iload_n 2, 1) := by decide +kernel
theorem dX8_flip_15 : decode cX8_flip 15 = .ok (.ifCond .lt 9, 3) := by decide +kernel
theorem dX8_flip_18 : decode cX8_flip 18 = .ok (.iload_n 2, 1) := by decide +kernel
