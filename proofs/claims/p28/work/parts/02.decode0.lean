theorem dX0_init_0 : decode cX0_init 0 = .ok (.aload_n 0, 1) := by decide +kernel
theorem dX0_init_1 : decode cX0_init 1 = .ok (.invokespecial 3, 3) := by decide +kernel
theorem dX0_init_4 : decode cX0_init 4 = .ok (.aload_n 0, 1) := by decide +kernel
theorem dX0_init_5 : decode cX0_init 5 = .ok (.bipush 20, 2) := by decide +kernel
theorem dX0_init_7 : decode cX0_init 7 = .ok (.newarray .int, 2) := by decide +kernel
theorem dX0_init_9 : decode cX0_init 9 = .ok (.putfield 9, 3) := by decide +kernel
theorem dX0_init_12 : decode cX0_init 12 = .ok (.aload_n 0, 1) := by decide +kernel
theorem dX0_init_13 : decode cX0_init 13 = .ok (.iconst 3, 1) := by decide +kernel
theorem dX0_init_14 : decode cX0_init 14 = .ok (.newarray .int, 2) := by decide +kernel
theorem dX0_init_16 : decode cX0_init 16 = .ok (.putfield 15, 3) := by decide +kernel
theorem dX0_init_19 : decode cX0_init 19 = .ok (.aload_n 0, 1) := by decide +kernel
theorem dX0_init_20 : decode cX0_init 20 = .ok (.iconst 3, 1) := by decide +kernel
theorem dX0_init_21 : decode cX0_init 21 = .ok (.newarray .int, 2) := by decide +kernel
theorem dX0_init_23 : decode cX0_init 23 = .ok (.putfield 18, 3) := by decide +kernel
theorem dX0_init_26 : decode cX0_init 26 = .ok (.return_, 1) := by decide +kernel
theorem dX0_allowances_0 : decode cX0_allowances 0 = .ok (.iconst 0, 1) := by decide +kernel
theorem dX0_allowances_1 : decode cX0_allowances 1 = .ok (.istore_n 1, 1) := by decide +kernel
theorem dX0_allowances_2 : decode cX0_allowances 2 = .ok (.aload_n 0, 1) := by decide +kernel
theorem dX0_allowances_3 : decode cX0_allowances 3 = .ok (.getfield 9, 3) := by decide +kernel
theorem dX0_allowances_6 : decode cX0_allowances 6 = .ok (.astore_n 2, 1) := by decide +kernel
theorem dX0_allowances_7 : decode cX0_allowances 7 = .ok (.aload_n 2, 1) := by decide +kernel
theorem dX0_allowances_8 : decode cX0_allowances 8 = .ok (.arraylength, 1) := by decide +kernel
theorem dX0_allowances_9 : decode cX0_allowances 9 = .ok (.istore_n 3, 1) := by decide +kernel
theorem dX0_allowances_10 : decode cX0_allowances 10 = .ok (.iconst 0, 1) := by decide +kernel
theorem dX0_allowances_11 : decode cX0_allowances 11 = .ok (.istore 4, 2) := by decide +kernel
theorem dX0_allowances_13 : decode cX0_allowances 13 = .ok (.iload 4, 2) := by decide +kernel
theorem dX0_allowances_15 : decode cX0_allowances 15 = .ok (.iload_n 3, 1) := by decide +kernel
theorem dX0_allowances_16 : decode cX0_allowances 16 = .ok (.if_icmp .ge 20, 3) := by decide +kernel
theorem dX0_allowances_19 : decode cX0_allowances 19 = .ok (.aload_n 2, 1) := by decide +kernel
theorem dX0_allowances_20 : decode cX0_allowances 20 = .ok (.iload 4, 2) := by decide +kernel
theorem dX0_allowances_22 : decode cX0_allowances 22 = .ok (.iaload, 1) := by decide +kernel
theorem dX0_allowances_23 : decode cX0_allowances 23 = .ok (.istore 5, 2) := by decide +kernel
theorem dX0_allowances_25 : decode cX0_allowances 25 = .ok (.iload_n 1, 1) := by decide +kernel
theorem dX0_allowances_26 : decode cX0_allowances 26 = .ok (.iload 5, 2) := by decide +kernel
theorem dX0_allowances_28 : decode cX0_allowances 28 = .ok (.iadd, 1) := by decide +kernel
theorem dX0_allowances_29 : decode cX0_allowances 29 = .ok (.istore_n 1, 1) := by decide +kernel
theorem dX0_allowances_30 : decode cX0_allowances 30 = .ok (.iinc 4 1, 3) := by decide +kernel
theorem dX0_allowances_33 : decode cX0_allowances 33 = .ok (.goto (-20), 3) := by decide +kernel
theorem dX0_allowances_36 : decode cX0_allowances 36 = .ok (.iload_n 1, 1) := by decide +kernel
theorem dX0_allowances_37 : decode cX0_allowances 37 = .ok (.ireturn, 1) := by decide +kernel
theorem dX0_vintagesHeld_0 : decode cX0_vintagesHeld 0 = .ok (.iconst 0, 1) := by decide +kernel
theorem dX0_vintagesHeld_1 : decode cX0_vintagesHeld 1 = .ok (.istore_n 1, 1) := by decide +kernel
theorem dX0_vintagesHeld_2 : decode cX0_vintagesHeld 2 = .ok (.aload_n 0, 1) := by decide +kernel
theorem dX0_vintagesHeld_3 : decode cX0_vintagesHeld 3 = .ok (.getfield 9, 3) := by decide +kernel
theorem dX0_vintagesHeld_6 : decode cX0_vintagesHeld 6 = .ok (.astore_n 2, 1) := by decide +kernel
theorem dX0_vintagesHeld_7 : decode cX0_vintagesHeld 7 = .ok (.aload_n 2, 1) := by decide +kernel
theorem dX0_vintagesHeld_8 : decode cX0_vintagesHeld 8 = .ok (.arraylength, 1) := by decide +kernel
theorem dX0_vintagesHeld_9 : decode cX0_vintagesHeld 9 = .ok (.istore_n 3, 1) := by decide +kernel
theorem dX0_vintagesHeld_10 : decode cX0_vintagesHeld 10 = .ok (.iconst 0, 1) := by decide +kernel
theorem dX0_vintagesHeld_11 : decode cX0_vintagesHeld 11 = .ok (.istore 4, 2) := by decide +kernel
theorem dX0_vintagesHeld_13 : decode cX0_vintagesHeld 13 = .ok (.iload 4, 2) := by decide +kernel
theorem dX0_vintagesHeld_15 : decode cX0_vintagesHeld 15 = .ok (.iload_n 3, 1) := by decide +kernel
theorem dX0_vintagesHeld_16 : decode cX0_vintagesHeld 16 = .ok (.if_icmp .ge 23, 3) := by decide +kernel
theorem dX0_vintagesHeld_19 : decode cX0_vintagesHeld 19 = .ok (.aload_n 2, 1) := by decide +kernel
theorem dX0_vintagesHeld_20 : decode cX0_vintagesHeld 20 = .ok (.iload 4, 2) := by decide +kernel
theorem dX0_vintagesHeld_22 : decode cX0_vintagesHeld 22 = .ok (.iaload, 1) := by decide +kernel
theorem dX0_vintagesHeld_23 : decode cX0_vintagesHeld 23 = .ok (.istore 5, 2) := by decide +kernel
theorem dX0_vintagesHeld_25 : decode cX0_vintagesHeld 25 = .ok (.iload 5, 2) := by decide +kernel
theorem dX0_vintagesHeld_27 : decode cX0_vintagesHeld 27 = .ok (.ifCond .le 6, 3) := by decide +kernel
theorem dX0_vintagesHeld_30 : decode cX0_vintagesHeld 30 = .ok (.iinc 1 1, 3) := by decide +kernel
theorem dX0_vintagesHeld_33 : decode cX0_vintagesHeld 33 = .ok (.iinc 4 1, 3) := by decide +kernel
theorem dX0_vintagesHeld_36 : decode cX0_vintagesHeld 36 = .ok (.goto (-23), 3) := by decide +kernel
theorem dX0_vintagesHeld_39 : decode cX0_vintagesHeld 39 = .ok (.iload_n 1, 1) := by decide +kernel
theorem dX0_vintagesHeld_40 : decode cX0_vintagesHeld 40 = .ok (.ireturn, 1) := by decide +kernel
theorem dX0_oldestHeld_0 : decode cX0_oldestHeld 0 = .ok (.iconst 0, 1) := by decide +kernel
theorem dX0_oldestHeld_1 : decode cX0_oldestHeld 1 = .ok (.istore_n 1, 1) := by decide +kernel
theorem dX0_oldestHeld_2 : decode cX0_oldestHeld 2 = .ok (.iload_n 1, 1) := by decide +kernel
theorem dX0_oldestHeld_3 : decode cX0_oldestHeld 3 = .ok (.bipush 20, 2) := by decide +kernel
theorem dX0_oldestHeld_5 : decode cX0_oldestHeld 5 = .ok (.if_icmp .ge 20, 3) := by decide +kernel
theorem dX0_oldestHeld_8 : decode cX0_oldestHeld 8 = .ok (.aload_n 0, 1) := by decide +kernel
theorem dX0_oldestHeld_9 : decode cX0_oldestHeld 9 = .ok (.getfield 9, 3) := by decide +kernel
theorem dX0_oldestHeld_12 : decode cX0_oldestHeld 12 = .ok (.iload_n 1, 1) := by decide +kernel
theorem dX0_oldestHeld_13 : decode cX0_oldestHeld 13 = .ok (.iaload, 1) := by decide +kernel
theorem dX0_oldestHeld_14 : decode cX0_oldestHeld 14 = .ok (.ifCond .le 5, 3) := by decide +kernel
theorem dX0_oldestHeld_17 : decode cX0_oldestHeld 17 = .ok (.iload_n 1, 1) := by decide +kernel
theorem dX0_oldestHeld_18 : decode cX0_oldestHeld 18 = .ok (.ireturn, 1) := by decide +kernel
theorem dX0_oldestHeld_19 : decode cX0_oldestHeld 19 = .ok (.iinc 1 1, 3) := by decide +kernel
theorem dX0_oldestHeld_22 : decode cX0_oldestHeld 22 = .ok (.goto (-20), 3) := by decide +kernel
theorem dX0_oldestHeld_25 : decode cX0_oldestHeld 25 = .ok (.bipush (-5), 2) := by decide +kernel
theorem dX0_oldestHeld_27 : decode cX0_oldestHeld 27 = .ok (.ireturn, 1) := by decide +kernel
theorem dX0_newestHeld_0 : decode cX0_newestHeld 0 = .ok (.bipush 19, 2) := by decide +kernel
theorem dX0_newestHeld_2 : decode cX0_newestHeld 2 = .ok (.istore_n 1, 1) := by decide +kernel
theorem dX0_newestHeld_3 : decode cX0_newestHeld 3 = .ok (.iload_n 1, 1) := by decide +kernel
theorem dX0_newestHeld_4 : decode cX0_newestHeld 4 = .ok (.ifCond .lt 20, 3) := by decide +kernel
theorem dX0_newestHeld_7 : decode cX0_newestHeld 7 = .ok (.aload_n 0, 1) := by decide +kernel
theorem dX0_newestHeld_8 : decode cX0_newestHeld 8 = .ok (.getfield 9, 3) := by decide +kernel
theorem dX0_newestHeld_11 : decode cX0_newestHeld 11 = .ok (.iload_n 1, 1) := by decide +kernel
theorem dX0_newestHeld_12 : decode cX0_newestHeld 12 = .ok (.iaload, 1) := by decide +kernel
theorem dX0_newestHeld_13 : decode cX0_newestHeld 13 = .ok (.ifCond .le 5, 3) := by decide +kernel
theorem dX0_newestHeld_16 : decode cX0_newestHeld 16 = .ok (.iload_n 1, 1) := by decide +kernel
theorem dX0_newestHeld_17 : decode cX0_newestHeld 17 = .ok (.ireturn, 1) := by decide +kernel
theorem dX0_newestHeld_18 : decode cX0_newestHeld 18 = .ok (.iinc 1 (-1), 3) := by decide +kernel
theorem dX0_newestHeld_21 : decode cX0_newestHeld 21 = .ok (.goto (-18), 3) := by decide +kernel
theorem dX0_newestHeld_24 : decode cX0_newestHeld 24 = .ok (.bipush (-5), 2) := by decide +kernel
theorem dX0_newestHeld_26 : decode cX0_newestHeld 26 = .ok (.ireturn, 1) := by decide +kernel
theorem dX0_mayUse_0 : decode cX0_mayUse 0 = .ok (.iconst 0, 1) := by decide +kernel
theorem dX0_mayUse_1 : decode cX0_mayUse 1 = .ok (.aload_n 0, 1) := by decide +kernel
theorem dX0_mayUse_2 : decode cX0_mayUse 2 = .ok (.getfield 21, 3) := by decide +kernel
theorem dX0_mayUse_5 : decode cX0_mayUse 5 = .ok (.iload_n 2, 1) := by decide +kernel
theorem dX0_mayUse_6 : decode cX0_mayUse 6 = .ok (.imul, 1) := by decide +kernel
theorem dX0_mayUse_7 : decode cX0_mayUse 7 = .ok (.bipush 100, 2) := by decide +kernel
theorem dX0_mayUse_9 : decode cX0_mayUse 9 = .ok (.idiv, 1) := by decide +kernel
theorem dX0_mayUse_10 : decode cX0_mayUse 10 = .ok (.aload_n 0, 1) := by decide +kernel
theorem dX0_mayUse_11 : decode cX0_mayUse 11 = .ok (.getfield 18, 3) := by decide +kernel
theorem dX0_mayUse_14 : decode cX0_mayUse 14 = .ok (.iload_n 1, 1) := by decide +kernel
theorem dX0_mayUse_15 : decode cX0_mayUse 15 = .ok (.iaload, 1) := by decide +kernel
theorem dX0_mayUse_16 : decode cX0_mayUse 16 = .ok (.isub, 1) := by decide +kernel
theorem dX0_mayUse_17 : decode cX0_mayUse 17 = .ok (.invokestatic 25, 3) := by decide +kernel
theorem dX0_mayUse_20 : decode cX0_mayUse 20 = .ok (.ireturn, 1) := by decide +kernel
theorem dX0_canUse_0 : decode cX0_canUse 0 = .ok (.aload_n 0, 1) := by decide +kernel
theorem dX0_canUse_1 : decode cX0_canUse 1 = .ok (.getfield 15, 3) := by decide +kernel
theorem dX0_canUse_4 : decode cX0_canUse 4 = .ok (.iload_n 1, 1) := by decide +kernel
theorem dX0_canUse_5 : decode cX0_canUse 5 = .ok (.iaload, 1) := by decide +kernel
theorem dX0_canUse_6 : decode cX0_canUse 6 = .ok (.aload_n 0, 1) := by decide +kernel
theorem dX0_canUse_7 : decode cX0_canUse 7 = .ok (.iload_n 1, 1) := by decide +kernel
theorem dX0_canUse_8 : decode cX0_canUse 8 = .ok (.iload_n 2, 1) := by decide +kernel
theorem dX0_canUse_9 : decode cX0_canUse 9 = .ok (.invokevirtual 31, 3) := by decide +kernel
theorem dX0_canUse_12 : decode cX0_canUse 12 = .ok (.invokestatic 34, 3) := by decide +kernel
theorem dX0_canUse_15 : decode cX0_canUse 15 = .ok (.ireturn, 1) := by decide +kernel
theorem dX0_dueAtBest_0 : decode cX0_dueAtBest 0 = .ok (.aload_n 0, 1) := by decide +kernel
theorem dX0_dueAtBest_1 : decode cX0_dueAtBest 1 = .ok (.invokevirtual 37, 3) := by decide +kernel
theorem dX0_dueAtBest_4 : decode cX0_dueAtBest 4 = .ok (.istore_n 2, 1) := by decide +kernel
theorem dX0_dueAtBest_5 : decode cX0_dueAtBest 5 = .ok (.iconst 0, 1) := by decide +kernel
theorem dX0_dueAtBest_6 : decode cX0_dueAtBest 6 = .ok (.istore_n 3, 1) := by decide +kernel
theorem dX0_dueAtBest_7 : decode cX0_dueAtBest 7 = .ok (.iload_n 3, 1) := by decide +kernel
theorem dX0_dueAtBest_8 : decode cX0_dueAtBest 8 = .ok (.iconst 3, 1) := by decide +kernel
theorem dX0_dueAtBest_9 : decode cX0_dueAtBest 9 = .ok (.if_icmp .ge 20, 3) := by decide +kernel
theorem dX0_dueAtBest_12 : decode cX0_dueAtBest 12 = .ok (.iload_n 2, 1) := by decide +kernel
theorem dX0_dueAtBest_13 : decode cX0_dueAtBest 13 = .ok (.aload_n 0, 1) := by decide +kernel
theorem dX0_dueAtBest_14 : decode cX0_dueAtBest 14 = .ok (.iload_n 3, 1) := by decide +kernel
theorem dX0_dueAtBest_15 : decode cX0_dueAtBest 15 = .ok (.aload_n 1, 1) := by decide +kernel
theorem dX0_dueAtBest_16 : decode cX0_dueAtBest 16 = .ok (.iload_n 3, 1) := by decide +kernel
theorem dX0_dueAtBest_17 : decode cX0_dueAtBest 17 = .ok (.iaload, 1) := by decide +kernel
theorem dX0_dueAtBest_18 : decode cX0_dueAtBest 18 = .ok (.invokevirtual 41, 3) := by decide +kernel
theorem dX0_dueAtBest_21 : decode cX0_dueAtBest 21 = .ok (.iadd, 1) := by decide +kernel
theorem dX0_dueAtBest_22 : decode cX0_dueAtBest 22 = .ok (.istore_n 2, 1) := by decide +kernel
theorem dX0_dueAtBest_23 : decode cX0_dueAtBest 23 = .ok (.iinc 3 1, 3) := by decide +kernel
theorem dX0_dueAtBest_26 : decode cX0_dueAtBest 26 = .ok (.goto (-19), 3) := by decide +kernel
theorem dX0_dueAtBest_29 : decode cX0_dueAtBest 29 = .ok (.iconst 0, 1) := by decide +kernel
theorem dX0_dueAtBest_30 : decode cX0_dueAtBest 30 = .ok (.aload_n 0, 1) := by decide +kernel
theorem dX0_dueAtBest_31 : decode cX0_dueAtBest 31 = .ok (.getfield 44, 3) := by decide +kernel
theorem dX0_dueAtBest_34 : decode cX0_dueAtBest 34 = .ok (.iload_n 2, 1) := by decide +kernel
theorem dX0_dueAtBest_35 : decode cX0_dueAtBest 35 = .ok (.isub, 1) := by decide +kernel
theorem dX0_dueAtBest_36 : decode cX0_dueAtBest 36 = .ok (.invokestatic 25, 3) := by decide +kernel
theorem dX0_dueAtBest_39 : decode cX0_dueAtBest 39 = .ok (.ireturn, 1) := by decide +kernel
theorem dX0_closeYear_0 : decode cX0_closeYear 0 = .ok (.aload_n 0, 1) := by decide +kernel
theorem dX0_closeYear_1 : decode cX0_closeYear 1 = .ok (.getfield 47, 3) := by decide +kernel
theorem dX0_closeYear_4 : decode cX0_closeYear 4 = .ok (.bipush 9, 2) := by decide +kernel
theorem dX0_closeYear_6 : decode cX0_closeYear 6 = .ok (.iadd, 1) := by decide +kernel
theorem dX0_closeYear_7 : decode cX0_closeYear 7 = .ok (.bipush 10, 2) := by decide +kernel
theorem dX0_closeYear_9 : decode cX0_closeYear 9 = .ok (.idiv, 1) := by decide +kernel
theorem dX0_closeYear_10 : decode cX0_closeYear 10 = .ok (.istore_n 1, 1) := by decide +kernel
theorem dX0_closeYear_11 : decode cX0_closeYear 11 = .ok (.aload_n 0, 1) := by decide +kernel
theorem dX0_closeYear_12 : decode cX0_closeYear 12 = .ok (.aload_n 0, 1) := by decide +kernel
theorem dX0_closeYear_13 : decode cX0_closeYear 13 = .ok (.getfield 50, 3) := by decide +kernel
theorem dX0_closeYear_16 : decode cX0_closeYear 16 = .ok (.aload_n 0, 1) := by decide +kernel
theorem dX0_closeYear_17 : decode cX0_closeYear 17 = .ok (.getfield 47, 3) := by decide +kernel
theorem dX0_closeYear_20 : decode cX0_closeYear 20 = .ok (.iadd, 1) := by decide +kernel
theorem dX0_closeYear_21 : decode cX0_closeYear 21 = .ok (.iload_n 1, 1) := by decide +kernel
theorem dX0_closeYear_22 : decode cX0_closeYear 22 = .ok (.iadd, 1) := by decide +kernel
theorem dX0_closeYear_23 : decode cX0_closeYear 23 = .ok (.putfield 21, 3) := by decide +kernel
theorem dX0_closeYear_26 : decode cX0_closeYear 26 = .ok (.aload_n 0, 1) := by decide +kernel
theorem dX0_closeYear_27 : decode cX0_closeYear 27 = .ok (.dup, 1) := by decide +kernel
theorem dX0_closeYear_28 : decode cX0_closeYear 28 = .ok (.getfield 44, 3) := by decide +kernel
theorem dX0_closeYear_31 : decode cX0_closeYear 31 = .ok (.aload_n 0, 1) := by decide +kernel
theorem dX0_closeYear_32 : decode cX0_closeYear 32 = .ok (.getfield 21, 3) := by decide +kernel
theorem dX0_closeYear_35 : decode cX0_closeYear 35 = .ok (.iadd, 1) := by decide +kernel
theorem dX0_closeYear_36 : decode cX0_closeYear 36 = .ok (.putfield 44, 3) := by decide +kernel
theorem dX0_closeYear_39 : decode cX0_closeYear 39 = .ok (.aload_n 0, 1) := by decide +kernel
theorem dX0_closeYear_40 : decode cX0_closeYear 40 = .ok (.iconst 0, 1) := by decide +kernel
theorem dX0_closeYear_41 : decode cX0_closeYear 41 = .ok (.putfield 47, 3) := by decide +kernel
theorem dX0_closeYear_44 : decode cX0_closeYear 44 = .ok (.aload_n 0, 1) := by decide +kernel
theorem dX0_closeYear_45 : decode cX0_closeYear 45 = .ok (.iconst 0, 1) := by decide +kernel
theorem dX0_closeYear_46 : decode cX0_closeYear 46 = .ok (.putfield 50, 3) := by decide +kernel
theorem dX0_closeYear_49 : decode cX0_closeYear 49 = .ok (.iconst 0, 1) := by decide +kernel
theorem dX0_closeYear_50 : decode cX0_closeYear 50 = .ok (.istore_n 2, 1) := by decide +kernel
theorem dX0_closeYear_51 : decode cX0_closeYear 51 = .ok (.iload_n 2, 1) := by decide +kernel
theorem dX0_closeYear_52 : decode cX0_closeYear 52 = .ok (.iconst 3, 1) := by decide +kernel
theorem dX0_closeYear_53 : decode cX0_closeYear 53 = .ok (.if_icmp .ge 16, 3) := by decide +kernel
theorem dX0_closeYear_56 : decode cX0_closeYear 56 = .ok (.aload_n 0, 1) := by decide +kernel
theorem dX0_closeYear_57 : decode cX0_closeYear 57 = .ok (.getfield 18, 3) := by decide +kernel
theorem dX0_closeYear_60 : decode cX0_closeYear 60 = .ok (.iload_n 2, 1) := by decide +kernel
theorem dX0_closeYear_61 : decode cX0_closeYear 61 = .ok (.iconst 0, 1) := by decide +kernel
theorem dX0_closeYear_62 : decode cX0_closeYear 62 = .ok (.iastore, 1) := by decide +kernel
theorem dX0_closeYear_63 : decode cX0_closeYear 63 = .ok (.iinc 2 1, 3) := by decide +kernel
theorem dX0_closeYear_66 : decode cX0_closeYear 66 = .ok (.goto (-15), 3) := by decide +kernel
theorem dX0_closeYear_69 : decode cX0_closeYear 69 = .ok (.return_, 1) := by decide +kernel
theorem dX1_init_0 : decode cX1_init 0 = .ok (.aload_n 0, 1) := by decide +kernel
theorem dX1_init_1 : decode cX1_init 1 = .ok (.invokespecial 3, 3) := by decide +kernel
theorem dX1_init_4 : decode cX1_init 4 = .ok (.aload_n 0, 1) := by decide +kernel
theorem dX1_init_5 : decode cX1_init 5 = .ok (.iconst 4, 1) := by decide +kernel
theorem dX1_init_6 : decode cX1_init 6 = .ok (.anewarray 9, 3) := by decide +kernel
theorem dX1_init_9 : decode cX1_init 9 = .ok (.putfield 11, 3) := by decide +kernel
theorem dX1_init_12 : decode cX1_init 12 = .ok (.iconst 0, 1) := by decide +kernel
theorem dX1_init_13 : decode cX1_init 13 = .ok (.istore_n 1, 1) := by decide +kernel
theorem dX1_init_14 : decode cX1_init 14 = .ok (.iload_n 1, 1) := by decide +kernel
theorem dX1_init_15 : decode cX1_init 15 = .ok (.iconst 4, 1) := by decide +kernel
theorem dX1_init_16 : decode cX1_init 16 = .ok (.if_icmp .ge 22, 3) := by decide +kernel
theorem dX1_init_19 : decode cX1_init 19 = .ok (.aload_n 0, 1) := by decide +kernel
theorem dX1_init_20 : decode cX1_init 20 = .ok (.getfield 11, 3) := by decide +kernel
theorem dX1_init_23 : decode cX1_init 23 = .ok (.iload_n 1, 1) := by decide +kernel
theorem dX1_init_24 : decode cX1_init 24 = .ok (.new 9, 3) := by decide +kernel
theorem dX1_init_27 : decode cX1_init 27 = .ok (.dup, 1) := by decide +kernel
theorem dX1_init_28 : decode cX1_init 28 = .ok (.invokespecial 17, 3) := by decide +kernel
theorem dX1_init_31 : decode cX1_init 31 = .ok (.aastore, 1) := by decide +kernel
theorem dX1_init_32 : decode cX1_init 32 = .ok (.iinc 1 1, 3) := by decide +kernel
theorem dX1_init_35 : decode cX1_init 35 = .ok (.goto (-21), 3) := by decide +kernel
theorem dX1_init_38 : decode cX1_init 38 = .ok (.return_, 1) := by decide +kernel
theorem dX1_push_0 : decode cX1_push 0 = .ok (.aload_n 1, 1) := by decide +kernel
theorem dX1_push_1 : decode cX1_push 1 = .ok (.aload_n 0, 1) := by decide +kernel
theorem dX1_push_2 : decode cX1_push 2 = .ok (.getfield 11, 3) := by decide +kernel
theorem dX1_push_5 : decode cX1_push 5 = .ok (.aload_n 0, 1) := by decide +kernel
theorem dX1_push_6 : decode cX1_push 6 = .ok (.getfield 18, 3) := by decide +kernel
theorem dX1_push_9 : decode cX1_push 9 = .ok (.aaload, 1) := by decide +kernel
theorem dX1_push_10 : decode cX1_push 10 = .ok (.invokestatic 22, 3) := by decide +kernel
theorem dX1_push_13 : decode cX1_push 13 = .ok (.aload_n 0, 1) := by decide +kernel
theorem dX1_push_14 : decode cX1_push 14 = .ok (.aload_n 0, 1) := by decide +kernel
theorem dX1_push_15 : decode cX1_push 15 = .ok (.getfield 18, 3) := by decide +kernel
theorem dX1_push_18 : decode cX1_push 18 = .ok (.iconst 1, 1) := by decide +kernel
theorem dX1_push_19 : decode cX1_push 19 = .ok (.iadd, 1) := by decide +kernel
theorem dX1_push_20 : decode cX1_push 20 = .ok (.iconst 4, 1) := by decide +kernel
theorem dX1_push_21 : decode cX1_push 21 = .ok (.irem, 1) := by decide +kernel
theorem dX1_push_22 : decode cX1_push 22 = .ok (.putfield 18, 3) := by decide +kernel
theorem dX1_push_25 : decode cX1_push 25 = .ok (.aload_n 0, 1) := by decide +kernel
theorem dX1_push_26 : decode cX1_push 26 = .ok (.aload_n 0, 1) := by decide +kernel
theorem dX1_push_27 : decode cX1_push 27 = .ok (.getfield 26, 3) := by decide +kernel
theorem dX1_push_30 : decode cX1_push 30 = .ok (.iconst 1, 1) := by decide +kernel
theorem dX1_push_31 : decode cX1_push 31 = .ok (.iadd, 1) := by decide +kernel
theorem dX1_push_32 : decode cX1_push 32 = .ok (.iconst 4, 1) := by decide +kernel
theorem dX1_push_33 : decode cX1_push 33 = .ok (.invokestatic 29, 3) := by decide +kernel
theorem dX1_push_36 : decode cX1_push 36 = .ok (.putfield 26, 3) := by decide +kernel
theorem dX1_push_39 : decode cX1_push 39 = .ok (.return_, 1) := by decide +kernel
theorem dX1_popInto_0 : decode cX1_popInto 0 = .ok (.aload_n 0, 1) := by decide +kernel
theorem dX1_popInto_1 : decode cX1_popInto 1 = .ok (.aload_n 0, 1) := by decide +kernel
theorem dX1_popInto_2 : decode cX1_popInto 2 = .ok (.getfield 18, 3) := by decide +kernel
theorem dX1_popInto_5 : decode cX1_popInto 5 = .ok (.iconst 4, 1) := by decide +kernel
theorem dX1_popInto_6 : decode cX1_popInto 6 = .ok (.iadd, 1) := by decide +kernel
theorem dX1_popInto_7 : decode cX1_popInto 7 = .ok (.iconst 1, 1) := by decide +kernel
theorem dX1_popInto_8 : decode cX1_popInto 8 = .ok (.isub, 1) := by decide +kernel
theorem dX1_popInto_9 : decode cX1_popInto 9 = .ok (.iconst 4, 1) := by decide +kernel
theorem dX1_popInto_10 : decode cX1_popInto 10 = .ok (.irem, 1) := by decide +kernel
theorem dX1_popInto_11 : decode cX1_popInto 11 = .ok (.putfield 18, 3) := by decide +kernel
theorem dX1_popInto_14 : decode cX1_popInto 14 = .ok (.aload_n 0, 1) := by decide +kernel
theorem dX1_popInto_15 : decode cX1_popInto 15 = .ok (.dup, 1) := by decide +kernel
theorem dX1_popInto_16 : decode cX1_popInto 16 = .ok (.getfield 26, 3) := by decide +kernel
theorem dX1_popInto_19 : decode cX1_popInto 19 = .ok (.iconst 1, 1) := by decide +kernel
theorem dX1_popInto_20 : decode cX1_popInto 20 = .ok (.isub, 1) := by decide +kernel
theorem dX1_popInto_21 : decode cX1_popInto 21 = .ok (.putfield 26, 3) := by decide +kernel
theorem dX1_popInto_24 : decode cX1_popInto 24 = .ok (.aload_n 0, 1) := by decide +kernel
theorem dX1_popInto_25 : decode cX1_popInto 25 = .ok (.getfield 11, 3) := by decide +kernel
theorem dX1_popInto_28 : decode cX1_popInto 28 = .ok (.aload_n 0, 1) := by decide +kernel
theorem dX1_popInto_29 : decode cX1_popInto 29 = .ok (.getfield 18, 3) := by decide +kernel
theorem dX1_popInto_32 : decode cX1_popInto 32 = .ok (.aaload, 1) := by decide +kernel
theorem dX1_popInto_33 : decode cX1_popInto 33 = .ok (.aload_n 1, 1) := by decide +kernel
theorem dX1_popInto_34 : decode cX1_popInto 34 = .ok (.invokestatic 22, 3) := by decide +kernel
theorem dX1_popInto_37 : decode cX1_popInto 37 = .ok (.return_, 1) := by decide +kernel
theorem dX2_init_0 : decode cX2_init 0 = .ok (.aload_n 0, 1) := by decide +kernel
theorem dX2_init_1 : decode cX2_init 1 = .ok (.invokespecial 3, 3) := by decide +kernel
theorem dX2_init_4 : decode cX2_init 4 = .ok (.aload_n 0, 1) := by decide +kernel
theorem dX2_init_5 : decode cX2_init 5 = .ok (.getstatic 9, 3) := by decide +kernel
theorem dX2_init_8 : decode cX2_init 8 = .ok (.invokevirtual 13, 3) := by decide +kernel
theorem dX2_init_11 : decode cX2_init 11 = .ok (.checkcast 14, 3) := by decide +kernel
theorem dX2_init_14 : decode cX2_init 14 = .ok (.putfield 18, 3) := by decide +kernel
theorem dX2_init_17 : decode cX2_init 17 = .ok (.aload_n 0, 1) := by decide +kernel
theorem dX2_init_18 : decode cX2_init 18 = .ok (.bipush 8, 2) := by decide +kernel
theorem dX2_init_20 : decode cX2_init 20 = .ok (.anewarray 23, 3) := by decide +kernel
theorem dX2_init_23 : decode cX2_init 23 = .ok (.putfield 25, 3) := by decide +kernel
theorem dX2_init_26 : decode cX2_init 26 = .ok (.iconst 0, 1) := by decide +kernel
theorem dX2_init_27 : decode cX2_init 27 = .ok (.istore_n 1, 1) := by decide +kernel
theorem dX2_init_28 : decode cX2_init 28 = .ok (.iload_n 1, 1) := by decide +kernel
theorem dX2_init_29 : decode cX2_init 29 = .ok (.bipush 8, 2) := by decide +kernel
theorem dX2_init_31 : decode cX2_init 31 = .ok (.if_icmp .ge 22, 3) := by decide +kernel
theorem dX2_init_34 : decode cX2_init 34 = .ok (.aload_n 0, 1) := by decide +kernel
theorem dX2_init_35 : decode cX2_init 35 = .ok (.getfield 25, 3) := by decide +kernel
theorem dX2_init_38 : decode cX2_init 38 = .ok (.iload_n 1, 1) := by decide +kernel
theorem dX2_init_39 : decode cX2_init 39 = .ok (.new 23, 3) := by decide +kernel
theorem dX2_init_42 : decode cX2_init 42 = .ok (.dup, 1) := by decide +kernel
theorem dX2_init_43 : decode cX2_init 43 = .ok (.invokespecial 29, 3) := by decide +kernel
theorem dX2_init_46 : decode cX2_init 46 = .ok (.aastore, 1) := by decide +kernel
theorem dX2_init_47 : decode cX2_init 47 = .ok (.iinc 1 1, 3) := by decide +kernel
theorem dX2_init_50 : decode cX2_init 50 = .ok (.goto (-22), 3) := by decide +kernel
theorem dX2_init_53 : decode cX2_init 53 = .ok (.aload_n 0, 1) := by decide +kernel
theorem dX2_init_54 : decode cX2_init 54 = .ok (.bipush 20, 2) := by decide +kernel
theorem dX2_init_56 : decode cX2_init 56 = .ok (.newarray .int, 2) := by decide +kernel
theorem dX2_init_58 : decode cX2_init 58 = .ok (.putfield 30, 3) := by decide +kernel
theorem dX2_init_61 : decode cX2_init 61 = .ok (.aload_n 0, 1) := by decide +kernel
theorem dX2_init_62 : decode cX2_init 62 = .ok (.bipush 20, 2) := by decide +kernel
theorem dX2_init_64 : decode cX2_init 64 = .ok (.newarray .int, 2) := by decide +kernel
theorem dX2_init_66 : decode cX2_init 66 = .ok (.putfield 33, 3) := by decide +kernel
theorem dX2_init_69 : decode cX2_init 69 = .ok (.aload_n 0, 1) := by decide +kernel
theorem dX2_init_70 : decode cX2_init 70 = .ok (.bipush 20, 2) := by decide +kernel
theorem dX2_init_72 : decode cX2_init 72 = .ok (.newarray .int, 2) := by decide +kernel
theorem dX2_init_74 : decode cX2_init 74 = .ok (.putfield 36, 3) := by decide +kernel
theorem dX2_init_77 : decode cX2_init 77 = .ok (.aload_n 0, 1) := by decide +kernel
theorem dX2_init_78 : decode cX2_init 78 = .ok (.bipush 20, 2) := by decide +kernel
theorem dX2_init_80 : decode cX2_init 80 = .ok (.newarray .int, 2) := by decide +kernel
theorem dX2_init_82 : decode cX2_init 82 = .ok (.putfield 39, 3) := by decide +kernel
theorem dX2_init_85 : decode cX2_init 85 = .ok (.aload_n 0, 1) := by decide +kernel
theorem dX2_init_86 : decode cX2_init 86 = .ok (.iconst 3, 1) := by decide +kernel
theorem dX2_init_87 : decode cX2_init 87 = .ok (.newarray .int, 2) := by decide +kernel
theorem dX2_init_89 : decode cX2_init 89 = .ok (.putfield 42, 3) := by decide +kernel
theorem dX2_init_92 : decode cX2_init 92 = .ok (.aload_n 0, 1) := by decide +kernel
theorem dX2_init_93 : decode cX2_init 93 = .ok (.iconst 3, 1) := by decide +kernel
theorem dX2_init_94 : decode cX2_init 94 = .ok (.newarray .int, 2) := by decide +kernel
theorem dX2_init_96 : decode cX2_init 96 = .ok (.putfield 45, 3) := by decide +kernel
theorem dX2_init_99 : decode cX2_init 99 = .ok (.return_, 1) := by decide +kernel
theorem dX2_firmAt_0 : decode cX2_firmAt 0 = .ok (.iload_n 1, 1) := by decide +kernel
theorem dX2_firmAt_1 : decode cX2_firmAt 1 = .ok (.ifCond .lt 26, 3) := by decide +kernel
theorem dX2_firmAt_4 : decode cX2_firmAt 4 = .ok (.iload_n 1, 1) := by decide +kernel
theorem dX2_firmAt_5 : decode cX2_firmAt 5 = .ok (.aload_n 0, 1) := by decide +kernel
theorem dX2_firmAt_6 : decode cX2_firmAt 6 = .ok (.getfield 48, 3) := by decide +kernel
theorem dX2_firmAt_9 : decode cX2_firmAt 9 = .ok (.if_icmp .ge 18, 3) := by decide +kernel
theorem dX2_firmAt_12 : decode cX2_firmAt 12 = .ok (.iload_n 1, 1) := by decide +kernel
theorem dX2_firmAt_13 : decode cX2_firmAt 13 = .ok (.bipush 8, 2) := by decide +kernel
theorem dX2_firmAt_15 : decode cX2_firmAt 15 = .ok (.if_icmp .ge 12, 3) := by decide +kernel
theorem dX2_firmAt_18 : decode cX2_firmAt 18 = .ok (.aload_n 0, 1) := by decide +kernel
theorem dX2_firmAt_19 : decode cX2_firmAt 19 = .ok (.getfield 25, 3) := by decide +kernel
theorem dX2_firmAt_22 : decode cX2_firmAt 22 = .ok (.iload_n 1, 1) := by decide +kernel
theorem dX2_firmAt_23 : decode cX2_firmAt 23 = .ok (.aaload, 1) := by decide +kernel
theorem dX2_firmAt_24 : decode cX2_firmAt 24 = .ok (.goto 4, 3) := by decide +kernel
theorem dX2_firmAt_27 : decode cX2_firmAt 27 = .ok (.aconst_null, 1) := by decide +kernel
theorem dX2_firmAt_28 : decode cX2_firmAt 28 = .ok (.areturn, 1) := by decide +kernel
theorem dX2_year_0 : decode cX2_year 0 = .ok (.aload_n 0, 1) := by decide +kernel
theorem dX2_year_1 : decode cX2_year 1 = .ok (.getfield 52, 3) := by decide +kernel
theorem dX2_year_4 : decode cX2_year 4 = .ok (.bipush 12, 2) := by decide +kernel
theorem dX2_year_6 : decode cX2_year 6 = .ok (.idiv, 1) := by decide +kernel
theorem dX2_year_7 : decode cX2_year 7 = .ok (.ireturn, 1) := by decide +kernel
theorem dX2_moveError_0 : decode cX2_moveError 0 = .ok (.aload_n 0, 1) := by decide +kernel
theorem dX2_moveError_1 : decode cX2_moveError 1 = .ok (.iload_n 1, 1) := by decide +kernel
theorem dX2_moveError_2 : decode cX2_moveError 2 = .ok (.invokevirtual 55, 3) := by decide +kernel
theorem dX2_moveError_5 : decode cX2_moveError 5 = .ok (.astore 5, 2) := by decide +kernel
theorem dX2_moveError_7 : decode cX2_moveError 7 = .ok (.aload 5, 2) := by decide +kernel
theorem dX2_moveError_9 : decode cX2_moveError 9 = .ok (.ifnull 18, 3) := by decide +kernel
theorem dX2_moveError_12 : decode cX2_moveError 12 = .ok (.aload_n 0, 1) := by decide +kernel
theorem dX2_moveError_13 : decode cX2_moveError 13 = .ok (.iload_n 2, 1) := by decide +kernel
theorem dX2_moveError_14 : decode cX2_moveError 14 = .ok (.invokevirtual 55, 3) := by decide +kernel
theorem dX2_moveError_17 : decode cX2_moveError 17 = .ok (.ifnull 10, 3) := by decide +kernel
theorem dX2_moveError_20 : decode cX2_moveError 20 = .ok (.iload_n 3, 1) := by decide +kernel
theorem dX2_moveError_21 : decode cX2_moveError 21 = .ok (.invokestatic 59, 3) := by decide +kernel
theorem dX2_moveError_24 : decode cX2_moveError 24 = .ok (.ifCond .ne 5, 3) := by decide +kernel
theorem dX2_moveError_27 : decode cX2_moveError 27 = .ok (.iconst (-1), 1) := by decide +kernel
theorem dX2_moveError_28 : decode cX2_moveError 28 = .ok (.ireturn, 1) := by decide +kernel
theorem dX2_moveError_29 : decode cX2_moveError 29 = .ok (.iload 4, 2) := by decide +kernel
theorem dX2_moveError_31 : decode cX2_moveError 31 = .ok (.invokestatic 63, 3) := by decide +kernel
theorem dX2_moveError_34 : decode cX2_moveError 34 = .ok (.ifCond .eq 8, 3) := by decide +kernel
theorem dX2_moveError_37 : decode cX2_moveError 37 = .ok (.iload_n 1, 1) := by decide +kernel
theorem dX2_moveError_38 : decode cX2_moveError 38 = .ok (.iload_n 2, 1) := by decide +kernel
theorem dX2_moveError_39 : decode cX2_moveError 39 = .ok (.if_icmp .ne 6, 3) := by decide +kernel
theorem dX2_moveError_42 : decode cX2_moveError 42 = .ok (.bipush (-2), 2) := by decide +kernel
theorem dX2_moveError_44 : decode cX2_moveError 44 = .ok (.ireturn, 1) := by decide +kernel
theorem dX2_moveError_45 : decode cX2_moveError 45 = .ok (.aload 5, 2) := by decide +kernel
theorem dX2_moveError_47 : decode cX2_moveError 47 = .ok (.getfield 66, 3) := by decide +kernel
theorem dX2_moveError_50 : decode cX2_moveError 50 = .ok (.iload_n 3, 1) := by decide +kernel
theorem dX2_moveError_51 : decode cX2_moveError 51 = .ok (.iaload, 1) := by decide +kernel
theorem dX2_moveError_52 : decode cX2_moveError 52 = .ok (.iload 4, 2) := by decide +kernel
theorem dX2_moveError_54 : decode cX2_moveError 54 = .ok (.if_icmp .ge 8, 3) := by decide +kernel
theorem dX2_moveError_57 : decode cX2_moveError 57 = .ok (.bipush (-4), 2) := by decide +kernel
theorem dX2_moveError_59 : decode cX2_moveError 59 = .ok (.goto 4, 3) := by decide +kernel
theorem dX2_moveError_62 : decode cX2_moveError 62 = .ok (.iconst 0, 1) := by decide +kernel
theorem dX2_moveError_63 : decode cX2_moveError 63 = .ok (.ireturn, 1) := by decide +kernel
theorem dX2_move_0 : decode cX2_move 0 = .ok (.aload_n 0, 1) := by decide +kernel
theorem dX2_move_1 : decode cX2_move 1 = .ok (.iload_n 1, 1) := by decide +kernel
theorem dX2_move_2 : decode cX2_move 2 = .ok (.invokevirtual 55, 3) := by decide +kernel
theorem dX2_move_5 : decode cX2_move 5 = .ok (.astore 5, 2) := by decide +kernel
theorem dX2_move_7 : decode cX2_move 7 = .ok (.aload_n 0, 1) := by decide +kernel
theorem dX2_move_8 : decode cX2_move 8 = .ok (.iload_n 2, 1) := by decide +kernel
theorem dX2_move_9 : decode cX2_move 9 = .ok (.invokevirtual 55, 3) := by decide +kernel
theorem dX2_move_12 : decode cX2_move 12 = .ok (.astore 6, 2) := by decide +kernel
theorem dX2_move_14 : decode cX2_move 14 = .ok (.aload 5, 2) := by decide +kernel
theorem dX2_move_16 : decode cX2_move 16 = .ok (.ifnull 15, 3) := by decide +kernel
theorem dX2_move_19 : decode cX2_move 19 = .ok (.aload 6, 2) := by decide +kernel
theorem dX2_move_21 : decode cX2_move 21 = .ok (.ifnull 10, 3) := by decide +kernel
theorem dX2_move_24 : decode cX2_move 24 = .ok (.iload_n 3, 1) := by decide +kernel
theorem dX2_move_25 : decode cX2_move 25 = .ok (.invokestatic 59, 3) := by decide +kernel
theorem dX2_move_28 : decode cX2_move 28 = .ok (.ifCond .ne 5, 3) := by decide +kernel
theorem dX2_move_31 : decode cX2_move 31 = .ok (.iconst (-1), 1) := by decide +kernel
theorem dX2_move_32 : decode cX2_move 32 = .ok (.ireturn, 1) := by decide +kernel
theorem dX2_move_33 : decode cX2_move 33 = .ok (.aload 5, 2) := by decide +kernel
theorem dX2_move_35 : decode cX2_move 35 = .ok (.getfield 66, 3) := by decide +kernel
theorem dX2_move_38 : decode cX2_move 38 = .ok (.iload_n 3, 1) := by decide +kernel
theorem dX2_move_39 : decode cX2_move 39 = .ok (.dup2, 1) := by decide +kernel
theorem dX2_move_40 : decode cX2_move 40 = .ok (.iaload, 1) := by decide +kernel
theorem dX2_move_41 : decode cX2_move 41 = .ok (.iload 4, 2) := by decide +kernel
theorem dX2_move_43 : decode cX2_move 43 = .ok (.isub, 1) := by decide +kernel
theorem dX2_move_44 : decode cX2_move 44 = .ok (.iastore, 1) := by decide +kernel
theorem dX2_move_45 : decode cX2_move 45 = .ok (.aload 6, 2) := by decide +kernel
theorem dX2_move_47 : decode cX2_move 47 = .ok (.getfield 66, 3) := by decide +kernel
theorem dX2_move_50 : decode cX2_move 50 = .ok (.iload_n 3, 1) := by decide +kernel
theorem dX2_move_51 : decode cX2_move 51 = .ok (.dup2, 1) := by decide +kernel
theorem dX2_move_52 : decode cX2_move 52 = .ok (.iaload, 1) := by decide +kernel
theorem dX2_move_53 : decode cX2_move 53 = .ok (.iload 4, 2) := by decide +kernel
theorem dX2_move_55 : decode cX2_move 55 = .ok (.iadd, 1) := by decide +kernel
theorem dX2_move_56 : decode cX2_move 56 = .ok (.iastore, 1) := by decide +kernel
theorem dX2_move_57 : decode cX2_move 57 = .ok (.aload 5, 2) := by decide +kernel
theorem dX2_move_59 : decode cX2_move 59 = .ok (.getfield 66, 3) := by decide +kernel
theorem dX2_move_62 : decode cX2_move 62 = .ok (.iload_n 3, 1) := by decide +kernel
theorem dX2_move_63 : decode cX2_move 63 = .ok (.iaload, 1) := by decide +kernel
theorem dX2_move_64 : decode cX2_move 64 = .ok (.ireturn, 1) := by decide +kernel
theorem dX2_takeFrom_0 : decode cX2_takeFrom 0 = .ok (.iconst 0, 1) := by decide +kernel
theorem dX2_takeFrom_1 : decode cX2_takeFrom 1 = .ok (.istore_n 3, 1) := by decide +kernel
theorem dX2_takeFrom_2 : decode cX2_takeFrom 2 = .ok (.iload_n 3, 1) := by decide +kernel
theorem dX2_takeFrom_3 : decode cX2_takeFrom 3 = .ok (.bipush 20, 2) := by decide +kernel
theorem dX2_takeFrom_5 : decode cX2_takeFrom 5 = .ok (.if_icmp .ge 39, 3) := by decide +kernel
theorem dX2_takeFrom_8 : decode cX2_takeFrom 8 = .ok (.aload_n 2, 1) := by decide +kernel
theorem dX2_takeFrom_9 : decode cX2_takeFrom 9 = .ok (.getfield 69, 3) := by decide +kernel
theorem dX2_takeFrom_12 : decode cX2_takeFrom 12 = .ok (.iload_n 3, 1) := by decide +kernel
theorem dX2_takeFrom_13 : decode cX2_takeFrom 13 = .ok (.iaload, 1) := by decide +kernel
theorem dX2_takeFrom_14 : decode cX2_takeFrom 14 = .ok (.istore 4, 2) := by decide +kernel
theorem dX2_takeFrom_16 : decode cX2_takeFrom 16 = .ok (.aload_n 1, 1) := by decide +kernel
theorem dX2_takeFrom_17 : decode cX2_takeFrom 17 = .ok (.getfield 66, 3) := by decide +kernel
theorem dX2_takeFrom_20 : decode cX2_takeFrom 20 = .ok (.iload_n 3, 1) := by decide +kernel
theorem dX2_takeFrom_21 : decode cX2_takeFrom 21 = .ok (.dup2, 1) := by decide +kernel
theorem dX2_takeFrom_22 : decode cX2_takeFrom 22 = .ok (.iaload, 1) := by decide +kernel
theorem dX2_takeFrom_23 : decode cX2_takeFrom 23 = .ok (.iload 4, 2) := by decide +kernel
theorem dX2_takeFrom_25 : decode cX2_takeFrom 25 = .ok (.isub, 1) := by decide +kernel
theorem dX2_takeFrom_26 : decode cX2_takeFrom 26 = .ok (.iastore, 1) := by decide +kernel
theorem dX2_takeFrom_27 : decode cX2_takeFrom 27 = .ok (.aload_n 0, 1) := by decide +kernel
theorem dX2_takeFrom_28 : decode cX2_takeFrom 28 = .ok (.getfield 33, 3) := by decide +kernel
theorem dX2_takeFrom_31 : decode cX2_takeFrom 31 = .ok (.iload_n 3, 1) := by decide +kernel
theorem dX2_takeFrom_32 : decode cX2_takeFrom 32 = .ok (.dup2, 1) := by decide +kernel
theorem dX2_takeFrom_33 : decode cX2_takeFrom 33 = .ok (.iaload, 1) := by decide +kernel
theorem dX2_takeFrom_34 : decode cX2_takeFrom 34 = .ok (.iload 4, 2) := by decide +kernel
theorem dX2_takeFrom_36 : decode cX2_takeFrom 36 = .ok (.iadd, 1) := by decide +kernel
theorem dX2_takeFrom_37 : decode cX2_takeFrom 37 = .ok (.iastore, 1) := by decide +kernel
theorem dX2_takeFrom_38 : decode cX2_takeFrom 38 = .ok (.iinc 3 1, 3) := by decide +kernel
theorem dX2_takeFrom_41 : decode cX2_takeFrom 41 = .ok (.goto (-39), 3) := by decide +kernel
theorem dX2_takeFrom_44 : decode cX2_takeFrom 44 = .ok (.iconst 0, 1) := by decide +kernel
theorem dX2_takeFrom_45 : decode cX2_takeFrom 45 = .ok (.istore_n 3, 1) := by decide +kernel
theorem dX2_takeFrom_46 : decode cX2_takeFrom 46 = .ok (.iload_n 3, 1) := by decide +kernel
theorem dX2_takeFrom_47 : decode cX2_takeFrom 47 = .ok (.iconst 3, 1) := by decide +kernel
theorem dX2_takeFrom_48 : decode cX2_takeFrom 48 = .ok (.if_icmp .ge 50, 3) := by decide +kernel
theorem dX2_takeFrom_51 : decode cX2_takeFrom 51 = .ok (.aload_n 2, 1) := by decide +kernel
theorem dX2_takeFrom_52 : decode cX2_takeFrom 52 = .ok (.getfield 74, 3) := by decide +kernel
theorem dX2_takeFrom_55 : decode cX2_takeFrom 55 = .ok (.iload_n 3, 1) := by decide +kernel
theorem dX2_takeFrom_56 : decode cX2_takeFrom 56 = .ok (.iaload, 1) := by decide +kernel
theorem dX2_takeFrom_57 : decode cX2_takeFrom 57 = .ok (.istore 4, 2) := by decide +kernel
theorem dX2_takeFrom_59 : decode cX2_takeFrom 59 = .ok (.aload_n 1, 1) := by decide +kernel
theorem dX2_takeFrom_60 : decode cX2_takeFrom 60 = .ok (.getfield 77, 3) := by decide +kernel
theorem dX2_takeFrom_63 : decode cX2_takeFrom 63 = .ok (.iload_n 3, 1) := by decide +kernel
theorem dX2_takeFrom_64 : decode cX2_takeFrom 64 = .ok (.dup2, 1) := by decide +kernel
theorem dX2_takeFrom_65 : decode cX2_takeFrom 65 = .ok (.iaload, 1) := by decide +kernel
theorem dX2_takeFrom_66 : decode cX2_takeFrom 66 = .ok (.iload 4, 2) := by decide +kernel
theorem dX2_takeFrom_68 : decode cX2_takeFrom 68 = .ok (.isub, 1) := by decide +kernel
theorem dX2_takeFrom_69 : decode cX2_takeFrom 69 = .ok (.iastore, 1) := by decide +kernel
theorem dX2_takeFrom_70 : decode cX2_takeFrom 70 = .ok (.aload_n 1, 1) := by decide +kernel
theorem dX2_takeFrom_71 : decode cX2_takeFrom 71 = .ok (.getfield 80, 3) := by decide +kernel
theorem dX2_takeFrom_74 : decode cX2_takeFrom 74 = .ok (.iload_n 3, 1) := by decide +kernel
theorem dX2_takeFrom_75 : decode cX2_takeFrom 75 = .ok (.dup2, 1) := by decide +kernel
theorem dX2_takeFrom_76 : decode cX2_takeFrom 76 = .ok (.iaload, 1) := by decide +kernel
theorem dX2_takeFrom_77 : decode cX2_takeFrom 77 = .ok (.iload 4, 2) := by decide +kernel
theorem dX2_takeFrom_79 : decode cX2_takeFrom 79 = .ok (.iadd, 1) := by decide +kernel
theorem dX2_takeFrom_80 : decode cX2_takeFrom 80 = .ok (.iastore, 1) := by decide +kernel
theorem dX2_takeFrom_81 : decode cX2_takeFrom 81 = .ok (.aload_n 0, 1) := by decide +kernel
theorem dX2_takeFrom_82 : decode cX2_takeFrom 82 = .ok (.getfield 45, 3) := by decide +kernel
theorem dX2_takeFrom_85 : decode cX2_takeFrom 85 = .ok (.iload_n 3, 1) := by decide +kernel
theorem dX2_takeFrom_86 : decode cX2_takeFrom 86 = .ok (.dup2, 1) := by decide +kernel
theorem dX2_takeFrom_87 : decode cX2_takeFrom 87 = .ok (.iaload, 1) := by decide +kernel
theorem dX2_takeFrom_88 : decode cX2_takeFrom 88 = .ok (.iload 4, 2) := by decide +kernel
theorem dX2_takeFrom_90 : decode cX2_takeFrom 90 = .ok (.iadd, 1) := by decide +kernel
theorem dX2_takeFrom_91 : decode cX2_takeFrom 91 = .ok (.iastore, 1) := by decide +kernel
theorem dX2_takeFrom_92 : decode cX2_takeFrom 92 = .ok (.iinc 3 1, 3) := by decide +kernel
theorem dX2_takeFrom_95 : decode cX2_takeFrom 95 = .ok (.goto (-49), 3) := by decide +kernel
theorem dX2_takeFrom_98 : decode cX2_takeFrom 98 = .ok (.return_, 1) := by decide +kernel
theorem dX2_beginMonth_0 : decode cX2_beginMonth 0 = .ok (.aload_n 0, 1) := by decide +kernel
theorem dX2_beginMonth_1 : decode cX2_beginMonth 1 = .ok (.dup, 1) := by decide +kernel
theorem dX2_beginMonth_2 : decode cX2_beginMonth 2 = .ok (.getfield 52, 3) := by decide +kernel
theorem dX2_beginMonth_5 : decode cX2_beginMonth 5 = .ok (.iconst 1, 1) := by decide +kernel
theorem dX2_beginMonth_6 : decode cX2_beginMonth 6 = .ok (.iadd, 1) := by decide +kernel
theorem dX2_beginMonth_7 : decode cX2_beginMonth 7 = .ok (.putfield 52, 3) := by decide +kernel
theorem dX2_beginMonth_10 : decode cX2_beginMonth 10 = .ok (.aload_n 0, 1) := by decide +kernel
theorem dX2_beginMonth_11 : decode cX2_beginMonth 11 = .ok (.getfield 52, 3) := by decide +kernel
theorem dX2_beginMonth_14 : decode cX2_beginMonth 14 = .ok (.bipush 12, 2) := by decide +kernel
theorem dX2_beginMonth_16 : decode cX2_beginMonth 16 = .ok (.irem, 1) := by decide +kernel
theorem dX2_beginMonth_17 : decode cX2_beginMonth 17 = .ok (.ifCond .ne 7, 3) := by decide +kernel
theorem dX2_beginMonth_20 : decode cX2_beginMonth 20 = .ok (.aload_n 0, 1) := by decide +kernel
theorem dX2_beginMonth_21 : decode cX2_beginMonth 21 = .ok (.invokevirtual 83, 3) := by decide +kernel
theorem dX2_beginMonth_24 : decode cX2_beginMonth 24 = .ok (.aload_n 0, 1) := by decide +kernel
theorem dX2_beginMonth_25 : decode cX2_beginMonth 25 = .ok (.getfield 52, 3) := by decide +kernel
theorem dX2_beginMonth_28 : decode cX2_beginMonth 28 = .ok (.bipush 12, 2) := by decide +kernel
theorem dX2_beginMonth_30 : decode cX2_beginMonth 30 = .ok (.irem, 1) := by decide +kernel
theorem dX2_beginMonth_31 : decode cX2_beginMonth 31 = .ok (.iconst 4, 1) := by decide +kernel
theorem dX2_beginMonth_32 : decode cX2_beginMonth 32 = .ok (.if_icmp .ne 17, 3) := by decide +kernel
theorem dX2_beginMonth_35 : decode cX2_beginMonth 35 = .ok (.aload_n 0, 1) := by decide +kernel
theorem dX2_beginMonth_36 : decode cX2_beginMonth 36 = .ok (.invokevirtual 86, 3) := by decide +kernel
theorem dX2_beginMonth_39 : decode cX2_beginMonth 39 = .ok (.ifCond .eq 10, 3) := by decide +kernel
theorem dX2_beginMonth_42 : decode cX2_beginMonth 42 = .ok (.aload_n 0, 1) := by decide +kernel
theorem dX2_beginMonth_43 : decode cX2_beginMonth 43 = .ok (.invokevirtual 90, 3) := by decide +kernel
theorem dX2_beginMonth_46 : decode cX2_beginMonth 46 = .ok (.goto 4, 3) := by decide +kernel
theorem dX2_beginMonth_49 : decode cX2_beginMonth 49 = .ok (.iconst 0, 1) := by decide +kernel
theorem dX2_beginMonth_50 : decode cX2_beginMonth 50 = .ok (.ireturn, 1) := by decide +kernel
theorem dX2_beginYear_0 : decode cX2_beginYear 0 = .ok (.aload_n 0, 1) := by decide +kernel
theorem dX2_beginYear_1 : decode cX2_beginYear 1 = .ok (.getfield 25, 3) := by decide +kernel
theorem dX2_beginYear_4 : decode cX2_beginYear 4 = .ok (.astore_n 1, 1) := by decide +kernel
theorem dX2_beginYear_5 : decode cX2_beginYear 5 = .ok (.aload_n 1, 1) := by decide +kernel
theorem dX2_beginYear_6 : decode cX2_beginYear 6 = .ok (.arraylength, 1) := by decide +kernel
theorem dX2_beginYear_7 : decode cX2_beginYear 7 = .ok (.istore_n 2, 1) := by decide +kernel
theorem dX2_beginYear_8 : decode cX2_beginYear 8 = .ok (.iconst 0, 1) := by decide +kernel
theorem dX2_beginYear_9 : decode cX2_beginYear 9 = .ok (.istore_n 3, 1) := by decide +kernel
theorem dX2_beginYear_10 : decode cX2_beginYear 10 = .ok (.iload_n 3, 1) := by decide +kernel
theorem dX2_beginYear_11 : decode cX2_beginYear 11 = .ok (.iload_n 2, 1) := by decide +kernel
theorem dX2_beginYear_12 : decode cX2_beginYear 12 = .ok (.if_icmp .ge 19, 3) := by decide +kernel
theorem dX2_beginYear_15 : decode cX2_beginYear 15 = .ok (.aload_n 1, 1) := by decide +kernel
theorem dX2_beginYear_16 : decode cX2_beginYear 16 = .ok (.iload_n 3, 1) := by decide +kernel
theorem dX2_beginYear_17 : decode cX2_beginYear 17 = .ok (.aaload, 1) := by decide +kernel
theorem dX2_beginYear_18 : decode cX2_beginYear 18 = .ok (.astore 4, 2) := by decide +kernel
theorem dX2_beginYear_20 : decode cX2_beginYear 20 = .ok (.aload 4, 2) := by decide +kernel
theorem dX2_beginYear_22 : decode cX2_beginYear 22 = .ok (.invokevirtual 93, 3) := by decide +kernel
theorem dX2_beginYear_25 : decode cX2_beginYear 25 = .ok (.iinc 3 1, 3) := by decide +kernel
theorem dX2_beginYear_28 : decode cX2_beginYear 28 = .ok (.goto (-18), 3) := by decide +kernel
theorem dX2_beginYear_31 : decode cX2_beginYear 31 = .ok (.iconst 0, 1) := by decide +kernel
theorem dX2_beginYear_32 : decode cX2_beginYear 32 = .ok (.istore_n 1, 1) := by decide +kernel
theorem dX2_beginYear_33 : decode cX2_beginYear 33 = .ok (.iload_n 1, 1) := by decide +kernel
theorem dX2_beginYear_34 : decode cX2_beginYear 34 = .ok (.bipush 20, 2) := by decide +kernel
theorem dX2_beginYear_36 : decode cX2_beginYear 36 = .ok (.if_icmp .ge 29, 3) := by decide +kernel
theorem dX2_beginYear_39 : decode cX2_beginYear 39 = .ok (.aload_n 0, 1) := by decide +kernel
theorem dX2_beginYear_40 : decode cX2_beginYear 40 = .ok (.invokevirtual 86, 3) := by decide +kernel
theorem dX2_beginYear_43 : decode cX2_beginYear 43 = .ok (.iload_n 1, 1) := by decide +kernel
theorem dX2_beginYear_44 : decode cX2_beginYear 44 = .ok (.aload_n 0, 1) := by decide +kernel
theorem dX2_beginYear_45 : decode cX2_beginYear 45 = .ok (.getfield 18, 3) := by decide +kernel
theorem dX2_beginYear_48 : decode cX2_beginYear 48 = .ok (.iconst 3, 1) := by decide +kernel
theorem dX2_beginYear_49 : decode cX2_beginYear 49 = .ok (.iaload, 1) := by decide +kernel
theorem dX2_beginYear_50 : decode cX2_beginYear 50 = .ok (.iadd, 1) := by decide +kernel
theorem dX2_beginYear_51 : decode cX2_beginYear 51 = .ok (.if_icmp .le 8, 3) := by decide +kernel
theorem dX2_beginYear_54 : decode cX2_beginYear 54 = .ok (.aload_n 0, 1) := by decide +kernel
theorem dX2_beginYear_55 : decode cX2_beginYear 55 = .ok (.iload_n 1, 1) := by decide +kernel
theorem dX2_beginYear_56 : decode cX2_beginYear 56 = .ok (.invokevirtual 96, 3) := by decide +kernel
theorem dX2_beginYear_59 : decode cX2_beginYear 59 = .ok (.iinc 1 1, 3) := by decide +kernel
theorem dX2_beginYear_62 : decode cX2_beginYear 62 = .ok (.goto (-29), 3) := by decide +kernel
theorem dX2_beginYear_65 : decode cX2_beginYear 65 = .ok (.return_, 1) := by decide +kernel
theorem dX2_loseAll_0 : decode cX2_loseAll 0 = .ok (.aload_n 0, 1) := by decide +kernel
theorem dX2_loseAll_1 : decode cX2_loseAll 1 = .ok (.getfield 25, 3) := by decide +kernel
theorem dX2_loseAll_4 : decode cX2_loseAll 4 = .ok (.astore_n 2, 1) := by decide +kernel
theorem dX2_loseAll_5 : decode cX2_loseAll 5 = .ok (.aload_n 2, 1) := by decide +kernel
theorem dX2_loseAll_6 : decode cX2_loseAll 6 = .ok (.arraylength, 1) := by decide +kernel
theorem dX2_loseAll_7 : decode cX2_loseAll 7 = .ok (.istore_n 3, 1) := by decide +kernel
theorem dX2_loseAll_8 : decode cX2_loseAll 8 = .ok (.iconst 0, 1) := by decide +kernel
theorem dX2_loseAll_9 : decode cX2_loseAll 9 = .ok (.istore 4, 2) := by decide +kernel
theorem dX2_loseAll_11 : decode cX2_loseAll 11 = .ok (.iload 4, 2) := by decide +kernel
theorem dX2_loseAll_13 : decode cX2_loseAll 13 = .ok (.iload_n 3, 1) := by decide +kernel
theorem dX2_loseAll_14 : decode cX2_loseAll 14 = .ok (.if_icmp .ge 39, 3) := by decide +kernel
theorem dX2_loseAll_17 : decode cX2_loseAll 17 = .ok (.aload_n 2, 1) := by decide +kernel
theorem dX2_loseAll_18 : decode cX2_loseAll 18 = .ok (.iload 4, 2) := by decide +kernel
theorem dX2_loseAll_20 : decode cX2_loseAll 20 = .ok (.aaload, 1) := by decide +kernel
theorem dX2_loseAll_21 : decode cX2_loseAll 21 = .ok (.astore 5, 2) := by decide +kernel
theorem dX2_loseAll_23 : decode cX2_loseAll 23 = .ok (.aload_n 0, 1) := by decide +kernel
theorem dX2_loseAll_24 : decode cX2_loseAll 24 = .ok (.getfield 39, 3) := by decide +kernel
theorem dX2_loseAll_27 : decode cX2_loseAll 27 = .ok (.iload_n 1, 1) := by decide +kernel
theorem dX2_loseAll_28 : decode cX2_loseAll 28 = .ok (.dup2, 1) := by decide +kernel
theorem dX2_loseAll_29 : decode cX2_loseAll 29 = .ok (.iaload, 1) := by decide +kernel
theorem dX2_loseAll_30 : decode cX2_loseAll 30 = .ok (.aload 5, 2) := by decide +kernel
theorem dX2_loseAll_32 : decode cX2_loseAll 32 = .ok (.getfield 66, 3) := by decide +kernel
theorem dX2_loseAll_35 : decode cX2_loseAll 35 = .ok (.iload_n 1, 1) := by decide +kernel
theorem dX2_loseAll_36 : decode cX2_loseAll 36 = .ok (.iaload, 1) := by decide +kernel
theorem dX2_loseAll_37 : decode cX2_loseAll 37 = .ok (.iadd, 1) := by decide +kernel
theorem dX2_loseAll_38 : decode cX2_loseAll 38 = .ok (.iastore, 1) := by decide +kernel
theorem dX2_loseAll_39 : decode cX2_loseAll 39 = .ok (.aload 5, 2) := by decide +kernel
theorem dX2_loseAll_41 : decode cX2_loseAll 41 = .ok (.getfield 66, 3) := by decide +kernel
theorem dX2_loseAll_44 : decode cX2_loseAll 44 = .ok (.iload_n 1, 1) := by decide +kernel
theorem dX2_loseAll_45 : decode cX2_loseAll 45 = .ok (.iconst 0, 1) := by decide +kernel
theorem dX2_loseAll_46 : decode cX2_loseAll 46 = .ok (.iastore, 1) := by decide +kernel
theorem dX2_loseAll_47 : decode cX2_loseAll 47 = .ok (.iinc 4 1, 3) := by decide +kernel
theorem dX2_loseAll_50 : decode cX2_loseAll 50 = .ok (.goto (-39), 3) := by decide +kernel
theorem dX2_loseAll_53 : decode cX2_loseAll 53 = .ok (.return_, 1) := by decide +kernel
theorem dX2_fineAll_0 : decode cX2_fineAll 0 = .ok (.iconst 0, 1) := by decide +kernel
theorem dX2_fineAll_1 : decode cX2_fineAll 1 = .ok (.istore_n 1, 1) := by decide +kernel
theorem dX2_fineAll_2 : decode cX2_fineAll 2 = .ok (.aload_n 0, 1) := by decide +kernel
theorem dX2_fineAll_3 : decode cX2_fineAll 3 = .ok (.getfield 25, 3) := by decide +kernel
theorem dX2_fineAll_6 : decode cX2_fineAll 6 = .ok (.astore_n 2, 1) := by decide +kernel
theorem dX2_fineAll_7 : decode cX2_fineAll 7 = .ok (.aload_n 2, 1) := by decide +kernel
theorem dX2_fineAll_8 : decode cX2_fineAll 8 = .ok (.arraylength, 1) := by decide +kernel
theorem dX2_fineAll_9 : decode cX2_fineAll 9 = .ok (.istore_n 3, 1) := by decide +kernel
theorem dX2_fineAll_10 : decode cX2_fineAll 10 = .ok (.iconst 0, 1) := by decide +kernel
theorem dX2_fineAll_11 : decode cX2_fineAll 11 = .ok (.istore 4, 2) := by decide +kernel
theorem dX2_fineAll_13 : decode cX2_fineAll 13 = .ok (.iload 4, 2) := by decide +kernel
theorem dX2_fineAll_15 : decode cX2_fineAll 15 = .ok (.iload_n 3, 1) := by decide +kernel
theorem dX2_fineAll_16 : decode cX2_fineAll 16 = .ok (.if_icmp .ge 46, 3) := by decide +kernel
theorem dX2_fineAll_19 : decode cX2_fineAll 19 = .ok (.aload_n 2, 1) := by decide +kernel
theorem dX2_fineAll_20 : decode cX2_fineAll 20 = .ok (.iload 4, 2) := by decide +kernel
theorem dX2_fineAll_22 : decode cX2_fineAll 22 = .ok (.aaload, 1) := by decide +kernel
theorem dX2_fineAll_23 : decode cX2_fineAll 23 = .ok (.astore 5, 2) := by decide +kernel
theorem dX2_fineAll_25 : decode cX2_fineAll 25 = .ok (.aload 5, 2) := by decide +kernel
theorem dX2_fineAll_27 : decode cX2_fineAll 27 = .ok (.getfield 100, 3) := by decide +kernel
theorem dX2_fineAll_30 : decode cX2_fineAll 30 = .ok (.aload_n 0, 1) := by decide +kernel
theorem dX2_fineAll_31 : decode cX2_fineAll 31 = .ok (.getfield 18, 3) := by decide +kernel
theorem dX2_fineAll_34 : decode cX2_fineAll 34 = .ok (.iconst 4, 1) := by decide +kernel
theorem dX2_fineAll_35 : decode cX2_fineAll 35 = .ok (.iaload, 1) := by decide +kernel
theorem dX2_fineAll_36 : decode cX2_fineAll 36 = .ok (.imul, 1) := by decide +kernel
theorem dX2_fineAll_37 : decode cX2_fineAll 37 = .ok (.istore 6, 2) := by decide +kernel
theorem dX2_fineAll_39 : decode cX2_fineAll 39 = .ok (.aload 5, 2) := by decide +kernel
theorem dX2_fineAll_41 : decode cX2_fineAll 41 = .ok (.dup, 1) := by decide +kernel
theorem dX2_fineAll_42 : decode cX2_fineAll 42 = .ok (.getfield 103, 3) := by decide +kernel
theorem dX2_fineAll_45 : decode cX2_fineAll 45 = .ok (.iload 6, 2) := by decide +kernel
theorem dX2_fineAll_47 : decode cX2_fineAll 47 = .ok (.iadd, 1) := by decide +kernel
theorem dX2_fineAll_48 : decode cX2_fineAll 48 = .ok (.putfield 103, 3) := by decide +kernel
theorem dX2_fineAll_51 : decode cX2_fineAll 51 = .ok (.iload_n 1, 1) := by decide +kernel
theorem dX2_fineAll_52 : decode cX2_fineAll 52 = .ok (.iload 6, 2) := by decide +kernel
theorem dX2_fineAll_54 : decode cX2_fineAll 54 = .ok (.iadd, 1) := by decide +kernel
theorem dX2_fineAll_55 : decode cX2_fineAll 55 = .ok (.istore_n 1, 1) := by decide +kernel
theorem dX2_fineAll_56 : decode cX2_fineAll 56 = .ok (.iinc 4 1, 3) := by decide +kernel
theorem dX2_fineAll_59 : decode cX2_fineAll 59 = .ok (.goto (-46), 3) := by decide +kernel
theorem dX2_fineAll_62 : decode cX2_fineAll 62 = .ok (.iload_n 1, 1) := by decide +kernel
theorem dX2_fineAll_63 : decode cX2_fineAll 63 = .ok (.ireturn, 1) := by decide +kernel
theorem dX2_heldOf_0 : decode cX2_heldOf 0 = .ok (.iconst 0, 1) := by decide +kernel
theorem dX2_heldOf_1 : decode cX2_heldOf 1 = .ok (.istore_n 2, 1) := by decide +kernel
theorem dX2_heldOf_2 : decode cX2_heldOf 2 = .ok (.aload_n 0, 1) := by decide +kernel
theorem dX2_heldOf_3 : decode cX2_heldOf 3 = .ok (.getfield 25, 3) := by decide +kernel
theorem dX2_heldOf_6 : decode cX2_heldOf 6 = .ok (.astore_n 3, 1) := by decide +kernel
theorem dX2_heldOf_7 : decode cX2_heldOf 7 = .ok (.aload_n 3, 1) := by decide +kernel
theorem dX2_heldOf_8 : decode cX2_heldOf 8 = .ok (.arraylength, 1) := by decide +kernel
theorem dX2_heldOf_9 : decode cX2_heldOf 9 = .ok (.istore 4, 2) := by decide +kernel
theorem dX2_heldOf_11 : decode cX2_heldOf 11 = .ok (.iconst 0, 1) := by decide +kernel
theorem dX2_heldOf_12 : decode cX2_heldOf 12 = .ok (.istore 5, 2) := by decide +kernel
theorem dX2_heldOf_14 : decode cX2_heldOf 14 = .ok (.iload 5, 2) := by decide +kernel
theorem dX2_heldOf_16 : decode cX2_heldOf 16 = .ok (.iload 4, 2) := by decide +kernel
theorem dX2_heldOf_18 : decode cX2_heldOf 18 = .ok (.if_icmp .ge 25, 3) := by decide +kernel
theorem dX2_heldOf_21 : decode cX2_heldOf 21 = .ok (.aload_n 3, 1) := by decide +kernel
theorem dX2_heldOf_22 : decode cX2_heldOf 22 = .ok (.iload 5, 2) := by decide +kernel
theorem dX2_heldOf_24 : decode cX2_heldOf 24 = .ok (.aaload, 1) := by decide +kernel
theorem dX2_heldOf_25 : decode cX2_heldOf 25 = .ok (.astore 6, 2) := by decide +kernel
theorem dX2_heldOf_27 : decode cX2_heldOf 27 = .ok (.iload_n 2, 1) := by decide +kernel
theorem dX2_heldOf_28 : decode cX2_heldOf 28 = .ok (.aload 6, 2) := by decide +kernel
theorem dX2_heldOf_30 : decode cX2_heldOf 30 = .ok (.getfield 66, 3) := by decide +kernel
theorem dX2_heldOf_33 : decode cX2_heldOf 33 = .ok (.iload_n 1, 1) := by decide +kernel
theorem dX2_heldOf_34 : decode cX2_heldOf 34 = .ok (.iaload, 1) := by decide +kernel
theorem dX2_heldOf_35 : decode cX2_heldOf 35 = .ok (.iadd, 1) := by decide +kernel
theorem dX2_heldOf_36 : decode cX2_heldOf 36 = .ok (.istore_n 2, 1) := by decide +kernel
theorem dX2_heldOf_37 : decode cX2_heldOf 37 = .ok (.iinc 5 1, 3) := by decide +kernel
theorem dX2_heldOf_40 : decode cX2_heldOf 40 = .ok (.goto (-26), 3) := by decide +kernel
theorem dX2_heldOf_43 : decode cX2_heldOf 43 = .ok (.iload_n 2, 1) := by decide +kernel
theorem dX2_heldOf_44 : decode cX2_heldOf 44 = .ok (.ireturn, 1) := by decide +kernel
theorem dX2_holdersOf_0 : decode cX2_holdersOf 0 = .ok (.iconst 0, 1) := by decide +kernel
theorem dX2_holdersOf_1 : decode cX2_holdersOf 1 = .ok (.istore_n 2, 1) := by decide +kernel
theorem dX2_holdersOf_2 : decode cX2_holdersOf 2 = .ok (.aload_n 0, 1) := by decide +kernel
theorem dX2_holdersOf_3 : decode cX2_holdersOf 3 = .ok (.getfield 25, 3) := by decide +kernel
theorem dX2_holdersOf_6 : decode cX2_holdersOf 6 = .ok (.astore_n 3, 1) := by decide +kernel
theorem dX2_holdersOf_7 : decode cX2_holdersOf 7 = .ok (.aload_n 3, 1) := by decide +kernel
theorem dX2_holdersOf_8 : decode cX2_holdersOf 8 = .ok (.arraylength, 1) := by decide +kernel
theorem dX2_holdersOf_9 : decode cX2_holdersOf 9 = .ok (.istore 4, 2) := by decide +kernel
theorem dX2_holdersOf_11 : decode cX2_holdersOf 11 = .ok (.iconst 0, 1) := by decide +kernel
theorem dX2_holdersOf_12 : decode cX2_holdersOf 12 = .ok (.istore 5, 2) := by decide +kernel
theorem dX2_holdersOf_14 : decode cX2_holdersOf 14 = .ok (.iload 5, 2) := by decide +kernel
theorem dX2_holdersOf_16 : decode cX2_holdersOf 16 = .ok (.iload 4, 2) := by decide +kernel
theorem dX2_holdersOf_18 : decode cX2_holdersOf 18 = .ok (.if_icmp .ge 28, 3) := by decide +kernel
theorem dX2_holdersOf_21 : decode cX2_holdersOf 21 = .ok (.aload_n 3, 1) := by decide +kernel
theorem dX2_holdersOf_22 : decode cX2_holdersOf 22 = .ok (.iload 5, 2) := by decide +kernel
theorem dX2_holdersOf_24 : decode cX2_holdersOf 24 = .ok (.aaload, 1) := by decide +kernel
theorem dX2_holdersOf_25 : decode cX2_holdersOf 25 = .ok (.astore 6, 2) := by decide +kernel
theorem dX2_holdersOf_27 : decode cX2_holdersOf 27 = .ok (.aload 6, 2) := by decide +kernel
theorem dX2_holdersOf_29 : decode cX2_holdersOf 29 = .ok (.getfield 66, 3) := by decide +kernel
theorem dX2_holdersOf_32 : decode cX2_holdersOf 32 = .ok (.iload_n 1, 1) := by decide +kernel
theorem dX2_holdersOf_33 : decode cX2_holdersOf 33 = .ok (.iaload, 1) := by decide +kernel
theorem dX2_holdersOf_34 : decode cX2_holdersOf 34 = .ok (.ifCond .le 6, 3) := by decide +kernel
theorem dX2_holdersOf_37 : decode cX2_holdersOf 37 = .ok (.iinc 2 1, 3) := by decide +kernel
theorem dX2_holdersOf_40 : decode cX2_holdersOf 40 = .ok (.iinc 5 1, 3) := by decide +kernel
theorem dX2_holdersOf_43 : decode cX2_holdersOf 43 = .ok (.goto (-29), 3) := by decide +kernel
theorem dX2_holdersOf_46 : decode cX2_holdersOf 46 = .ok (.iload_n 2, 1) := by decide +kernel
theorem dX2_holdersOf_47 : decode cX2_holdersOf 47 = .ok (.ireturn, 1) := by decide +kernel
theorem dX2_offsetsHeldOf_0 : decode cX2_offsetsHeldOf 0 = .ok (.iconst 0, 1) := by decide +kernel
theorem dX2_offsetsHeldOf_1 : decode cX2_offsetsHeldOf 1 = .ok (.istore_n 2, 1) := by decide +kernel
theorem dX2_offsetsHeldOf_2 : decode cX2_offsetsHeldOf 2 = .ok (.aload_n 0, 1) := by decide +kernel
theorem dX2_offsetsHeldOf_3 : decode cX2_offsetsHeldOf 3 = .ok (.getfield 25, 3) := by decide +kernel
theorem dX2_offsetsHeldOf_6 : decode cX2_offsetsHeldOf 6 = .ok (.astore_n 3, 1) := by decide +kernel
theorem dX2_offsetsHeldOf_7 : decode cX2_offsetsHeldOf 7 = .ok (.aload_n 3, 1) := by decide +kernel
theorem dX2_offsetsHeldOf_8 : decode cX2_offsetsHeldOf 8 = .ok (.arraylength, 1) := by decide +kernel
theorem dX2_offsetsHeldOf_9 : decode cX2_offsetsHeldOf 9 = .ok (.istore 4, 2) := by decide +kernel
theorem dX2_offsetsHeldOf_11 : decode cX2_offsetsHeldOf 11 = .ok (.iconst 0, 1) := by decide +kernel
theorem dX2_offsetsHeldOf_12 : decode cX2_offsetsHeldOf 12 = .ok (.istore 5, 2) := by decide +kernel
theorem dX2_offsetsHeldOf_14 : decode cX2_offsetsHeldOf 14 = .ok (.iload 5, 2) := by decide +kernel
theorem dX2_offsetsHeldOf_16 : decode cX2_offsetsHeldOf 16 = .ok (.iload 4, 2) := by decide +kernel
theorem dX2_offsetsHeldOf_18 : decode cX2_offsetsHeldOf 18 = .ok (.if_icmp .ge 25, 3) := by decide +kernel
theorem dX2_offsetsHeldOf_21 : decode cX2_offsetsHeldOf 21 = .ok (.aload_n 3, 1) := by decide +kernel
theorem dX2_offsetsHeldOf_22 : decode cX2_offsetsHeldOf 22 = .ok (.iload 5, 2) := by decide +kernel
theorem dX2_offsetsHeldOf_24 : decode cX2_offsetsHeldOf 24 = .ok (.aaload, 1) := by decide +kernel
theorem dX2_offsetsHeldOf_25 : decode cX2_offsetsHeldOf 25 = .ok (.astore 6, 2) := by decide +kernel
theorem dX2_offsetsHeldOf_27 : decode cX2_offsetsHeldOf 27 = .ok (.iload_n 2, 1) := by decide +kernel
theorem dX2_offsetsHeldOf_28 : decode cX2_offsetsHeldOf 28 = .ok (.aload 6, 2) := by decide +kernel
theorem dX2_offsetsHeldOf_30 : decode cX2_offsetsHeldOf 30 = .ok (.getfield 77, 3) := by decide +kernel
theorem dX2_offsetsHeldOf_33 : decode cX2_offsetsHeldOf 33 = .ok (.iload_n 1, 1) := by decide +kernel
theorem dX2_offsetsHeldOf_34 : decode cX2_offsetsHeldOf 34 = .ok (.iaload, 1) := by decide +kernel
theorem dX2_offsetsHeldOf_35 : decode cX2_offsetsHeldOf 35 = .ok (.iadd, 1) := by decide +kernel
theorem dX2_offsetsHeldOf_36 : decode cX2_offsetsHeldOf 36 = .ok (.istore_n 2, 1) := by decide +kernel
theorem dX2_offsetsHeldOf_37 : decode cX2_offsetsHeldOf 37 = .ok (.iinc 5 1, 3) := by decide +kernel
theorem dX2_offsetsHeldOf_40 : decode cX2_offsetsHeldOf 40 = .ok (.goto (-26), 3) := by decide +kernel
theorem dX2_offsetsHeldOf_43 : decode cX2_offsetsHeldOf 43 = .ok (.iload_n 2, 1) := by decide +kernel
theorem dX2_offsetsHeldOf_44 : decode cX2_offsetsHeldOf 44 = .ok (.ireturn, 1) := by decide +kernel
theorem dX2_monthsUntilLost_0 : decode cX2_monthsUntilLost 0 = .ok (.aload_n 0, 1) := by decide +kernel
theorem dX2_monthsUntilLost_1 : decode cX2_monthsUntilLost 1 = .ok (.iload_n 1, 1) := by decide +kernel
theorem dX2_monthsUntilLost_2 : decode cX2_monthsUntilLost 2 = .ok (.invokevirtual 106, 3) := by decide +kernel
theorem dX2_monthsUntilLost_5 : decode cX2_monthsUntilLost 5 = .ok (.ifCond .ne 6, 3) := by decide +kernel
theorem dX2_monthsUntilLost_8 : decode cX2_monthsUntilLost 8 = .ok (.bipush (-5), 2) := by decide +kernel
theorem dX2_monthsUntilLost_10 : decode cX2_monthsUntilLost 10 = .ok (.ireturn, 1) := by decide +kernel
theorem dX2_monthsUntilLost_11 : decode cX2_monthsUntilLost 11 = .ok (.iload_n 1, 1) := by decide +kernel
theorem dX2_monthsUntilLost_12 : decode cX2_monthsUntilLost 12 = .ok (.aload_n 0, 1) := by decide +kernel
theorem dX2_monthsUntilLost_13 : decode cX2_monthsUntilLost 13 = .ok (.getfield 18, 3) := by decide +kernel
theorem dX2_monthsUntilLost_16 : decode cX2_monthsUntilLost 16 = .ok (.iconst 3, 1) := by decide +kernel
theorem dX2_monthsUntilLost_17 : decode cX2_monthsUntilLost 17 = .ok (.iaload, 1) := by decide +kernel
theorem dX2_monthsUntilLost_18 : decode cX2_monthsUntilLost 18 = .ok (.iadd, 1) := by decide +kernel
theorem dX2_monthsUntilLost_19 : decode cX2_monthsUntilLost 19 = .ok (.aload_n 0, 1) := by decide +kernel
theorem dX2_monthsUntilLost_20 : decode cX2_monthsUntilLost 20 = .ok (.invokevirtual 86, 3) := by decide +kernel
theorem dX2_monthsUntilLost_23 : decode cX2_monthsUntilLost 23 = .ok (.invokestatic 110, 3) := by decide +kernel
theorem dX2_monthsUntilLost_26 : decode cX2_monthsUntilLost 26 = .ok (.iconst 1, 1) := by decide +kernel
theorem dX2_monthsUntilLost_27 : decode cX2_monthsUntilLost 27 = .ok (.iadd, 1) := by decide +kernel
theorem dX2_monthsUntilLost_28 : decode cX2_monthsUntilLost 28 = .ok (.istore_n 2, 1) := by decide +kernel
theorem dX2_monthsUntilLost_29 : decode cX2_monthsUntilLost 29 = .ok (.iload_n 2, 1) := by decide +kernel
theorem dX2_monthsUntilLost_30 : decode cX2_monthsUntilLost 30 = .ok (.bipush 12, 2) := by decide +kernel
theorem dX2_monthsUntilLost_32 : decode cX2_monthsUntilLost 32 = .ok (.imul, 1) := by decide +kernel
theorem dX2_monthsUntilLost_33 : decode cX2_monthsUntilLost 33 = .ok (.aload_n 0, 1) := by decide +kernel
theorem dX2_monthsUntilLost_34 : decode cX2_monthsUntilLost 34 = .ok (.getfield 52, 3) := by decide +kernel
theorem dX2_monthsUntilLost_37 : decode cX2_monthsUntilLost 37 = .ok (.isub, 1) := by decide +kernel
theorem dX2_monthsUntilLost_38 : decode cX2_monthsUntilLost 38 = .ok (.ireturn, 1) := by decide +kernel
theorem dX2_holderAt_0 : decode cX2_holderAt 0 = .ok (.iconst 0, 1) := by decide +kernel
theorem dX2_holderAt_1 : decode cX2_holderAt 1 = .ok (.istore_n 3, 1) := by decide +kernel
theorem dX2_holderAt_2 : decode cX2_holderAt 2 = .ok (.iload_n 3, 1) := by decide +kernel
theorem dX2_holderAt_3 : decode cX2_holderAt 3 = .ok (.bipush 8, 2) := by decide +kernel
theorem dX2_holderAt_5 : decode cX2_holderAt 5 = .ok (.if_icmp .ge 35, 3) := by decide +kernel
theorem dX2_holderAt_8 : decode cX2_holderAt 8 = .ok (.aload_n 0, 1) := by decide +kernel
theorem dX2_holderAt_9 : decode cX2_holderAt 9 = .ok (.getfield 25, 3) := by decide +kernel
theorem dX2_holderAt_12 : decode cX2_holderAt 12 = .ok (.iload_n 3, 1) := by decide +kernel
theorem dX2_holderAt_13 : decode cX2_holderAt 13 = .ok (.aaload, 1) := by decide +kernel
theorem dX2_holderAt_14 : decode cX2_holderAt 14 = .ok (.getfield 66, 3) := by decide +kernel
theorem dX2_holderAt_17 : decode cX2_holderAt 17 = .ok (.iload_n 1, 1) := by decide +kernel
theorem dX2_holderAt_18 : decode cX2_holderAt 18 = .ok (.iaload, 1) := by decide +kernel
theorem dX2_holderAt_19 : decode cX2_holderAt 19 = .ok (.ifCond .le 15, 3) := by decide +kernel
theorem dX2_holderAt_22 : decode cX2_holderAt 22 = .ok (.aload_n 0, 1) := by decide +kernel
theorem dX2_holderAt_23 : decode cX2_holderAt 23 = .ok (.iload_n 1, 1) := by decide +kernel
theorem dX2_holderAt_24 : decode cX2_holderAt 24 = .ok (.iload_n 3, 1) := by decide +kernel
theorem dX2_holderAt_25 : decode cX2_holderAt 25 = .ok (.invokevirtual 116, 3) := by decide +kernel
theorem dX2_holderAt_28 : decode cX2_holderAt 28 = .ok (.iload_n 2, 1) := by decide +kernel
theorem dX2_holderAt_29 : decode cX2_holderAt 29 = .ok (.if_icmp .ne 5, 3) := by decide +kernel
theorem dX2_holderAt_32 : decode cX2_holderAt 32 = .ok (.iload_n 3, 1) := by decide +kernel
theorem dX2_holderAt_33 : decode cX2_holderAt 33 = .ok (.ireturn, 1) := by decide +kernel
theorem dX2_holderAt_34 : decode cX2_holderAt 34 = .ok (.iinc 3 1, 3) := by decide +kernel
theorem dX2_holderAt_37 : decode cX2_holderAt 37 = .ok (.goto (-35), 3) := by decide +kernel
theorem dX2_holderAt_40 : decode cX2_holderAt 40 = .ok (.bipush (-5), 2) := by decide +kernel
theorem dX2_holderAt_42 : decode cX2_holderAt 42 = .ok (.ireturn, 1) := by decide +kernel
theorem dX2_holdersAhead_0 : decode cX2_holdersAhead 0 = .ok (.aload_n 0, 1) := by decide +kernel
theorem dX2_holdersAhead_1 : decode cX2_holdersAhead 1 = .ok (.getfield 25, 3) := by decide +kernel
theorem dX2_holdersAhead_4 : decode cX2_holdersAhead 4 = .ok (.iload_n 2, 1) := by decide +kernel
theorem dX2_holdersAhead_5 : decode cX2_holdersAhead 5 = .ok (.aaload, 1) := by decide +kernel
theorem dX2_holdersAhead_6 : decode cX2_holdersAhead 6 = .ok (.getfield 66, 3) := by decide +kernel
theorem dX2_holdersAhead_9 : decode cX2_holdersAhead 9 = .ok (.iload_n 1, 1) := by decide +kernel
theorem dX2_holdersAhead_10 : decode cX2_holdersAhead 10 = .ok (.iaload, 1) := by decide +kernel
theorem dX2_holdersAhead_11 : decode cX2_holdersAhead 11 = .ok (.istore_n 3, 1) := by decide +kernel
theorem dX2_holdersAhead_12 : decode cX2_holdersAhead 12 = .ok (.iconst 0, 1) := by decide +kernel
theorem dX2_holdersAhead_13 : decode cX2_holdersAhead 13 = .ok (.istore 4, 2) := by decide +kernel
theorem dX2_holdersAhead_15 : decode cX2_holdersAhead 15 = .ok (.iconst 0, 1) := by decide +kernel
theorem dX2_holdersAhead_16 : decode cX2_holdersAhead 16 = .ok (.istore 5, 2) := by decide +kernel
theorem dX2_holdersAhead_18 : decode cX2_holdersAhead 18 = .ok (.iload 5, 2) := by decide +kernel
theorem dX2_holdersAhead_20 : decode cX2_holdersAhead 20 = .ok (.bipush 8, 2) := by decide +kernel
theorem dX2_holdersAhead_22 : decode cX2_holdersAhead 22 = .ok (.if_icmp .ge 44, 3) := by decide +kernel
theorem dX2_holdersAhead_25 : decode cX2_holdersAhead 25 = .ok (.aload_n 0, 1) := by decide +kernel
theorem dX2_holdersAhead_26 : decode cX2_holdersAhead 26 = .ok (.getfield 25, 3) := by decide +kernel
theorem dX2_holdersAhead_29 : decode cX2_holdersAhead 29 = .ok (.iload 5, 2) := by decide +kernel
theorem dX2_holdersAhead_31 : decode cX2_holdersAhead 31 = .ok (.aaload, 1) := by decide +kernel
theorem dX2_holdersAhead_32 : decode cX2_holdersAhead 32 = .ok (.getfield 66, 3) := by decide +kernel
theorem dX2_holdersAhead_35 : decode cX2_holdersAhead 35 = .ok (.iload_n 1, 1) := by decide +kernel
theorem dX2_holdersAhead_36 : decode cX2_holdersAhead 36 = .ok (.iaload, 1) := by decide +kernel
theorem dX2_holdersAhead_37 : decode cX2_holdersAhead 37 = .ok (.istore 6, 2) := by decide +kernel
theorem dX2_holdersAhead_39 : decode cX2_holdersAhead 39 = .ok (.iload 6, 2) := by decide +kernel
theorem dX2_holdersAhead_41 : decode cX2_holdersAhead 41 = .ok (.iload_n 3, 1) := by decide +kernel
theorem dX2_holdersAhead_42 : decode cX2_holdersAhead 42 = .ok (.if_icmp .gt 15, 3) := by decide +kernel
theorem dX2_holdersAhead_45 : decode cX2_holdersAhead 45 = .ok (.iload 6, 2) := by decide +kernel
theorem dX2_holdersAhead_47 : decode cX2_holdersAhead 47 = .ok (.iload_n 3, 1) := by decide +kernel
theorem dX2_holdersAhead_48 : decode cX2_holdersAhead 48 = .ok (.if_icmp .ne 12, 3) := by decide +kernel
theorem dX2_holdersAhead_51 : decode cX2_holdersAhead 51 = .ok (.iload 5, 2) := by decide +kernel
theorem dX2_holdersAhead_53 : decode cX2_holdersAhead 53 = .ok (.iload_n 2, 1) := by decide +kernel
theorem dX2_holdersAhead_54 : decode cX2_holdersAhead 54 = .ok (.if_icmp .ge 6, 3) := by decide +kernel
theorem dX2_holdersAhead_57 : decode cX2_holdersAhead 57 = .ok (.iinc 4 1, 3) := by decide +kernel
theorem dX2_holdersAhead_60 : decode cX2_holdersAhead 60 = .ok (.iinc 5 1, 3) := by decide +kernel
theorem dX2_holdersAhead_63 : decode cX2_holdersAhead 63 = .ok (.goto (-45), 3) := by decide +kernel
theorem dX2_holdersAhead_66 : decode cX2_holdersAhead 66 = .ok (.iload 4, 2) := by decide +kernel
theorem dX2_holdersAhead_68 : decode cX2_holdersAhead 68 = .ok (.ireturn, 1) := by decide +kernel
theorem dX2_allDue_0 : decode cX2_allDue 0 = .ok (.iconst 0, 1) := by decide +kernel
theorem dX2_allDue_1 : decode cX2_allDue 1 = .ok (.istore_n 1, 1) := by decide +kernel
theorem dX2_allDue_2 : decode cX2_allDue 2 = .ok (.aload_n 0, 1) := by decide +kernel
theorem dX2_allDue_3 : decode cX2_allDue 3 = .ok (.getfield 25, 3) := by decide +kernel
theorem dX2_allDue_6 : decode cX2_allDue 6 = .ok (.astore_n 2, 1) := by decide +kernel
theorem dX2_allDue_7 : decode cX2_allDue 7 = .ok (.aload_n 2, 1) := by decide +kernel
theorem dX2_allDue_8 : decode cX2_allDue 8 = .ok (.arraylength, 1) := by decide +kernel
theorem dX2_allDue_9 : decode cX2_allDue 9 = .ok (.istore_n 3, 1) := by decide +kernel
theorem dX2_allDue_10 : decode cX2_allDue 10 = .ok (.iconst 0, 1) := by decide +kernel
theorem dX2_allDue_11 : decode cX2_allDue 11 = .ok (.istore 4, 2) := by decide +kernel
theorem dX2_allDue_13 : decode cX2_allDue 13 = .ok (.iload 4, 2) := by decide +kernel
theorem dX2_allDue_15 : decode cX2_allDue 15 = .ok (.iload_n 3, 1) := by decide +kernel
theorem dX2_allDue_16 : decode cX2_allDue 16 = .ok (.if_icmp .ge 23, 3) := by decide +kernel
theorem dX2_allDue_19 : decode cX2_allDue 19 = .ok (.aload_n 2, 1) := by decide +kernel
theorem dX2_allDue_20 : decode cX2_allDue 20 = .ok (.iload 4, 2) := by decide +kernel
theorem dX2_allDue_22 : decode cX2_allDue 22 = .ok (.aaload, 1) := by decide +kernel
theorem dX2_allDue_23 : decode cX2_allDue 23 = .ok (.astore 5, 2) := by decide +kernel
theorem dX2_allDue_25 : decode cX2_allDue 25 = .ok (.iload_n 1, 1) := by decide +kernel
theorem dX2_allDue_26 : decode cX2_allDue 26 = .ok (.aload 5, 2) := by decide +kernel
theorem dX2_allDue_28 : decode cX2_allDue 28 = .ok (.getfield 100, 3) := by decide +kernel
theorem dX2_allDue_31 : decode cX2_allDue 31 = .ok (.iadd, 1) := by decide +kernel
theorem dX2_allDue_32 : decode cX2_allDue 32 = .ok (.istore_n 1, 1) := by decide +kernel
theorem dX2_allDue_33 : decode cX2_allDue 33 = .ok (.iinc 4 1, 3) := by decide +kernel
theorem dX2_allDue_36 : decode cX2_allDue 36 = .ok (.goto (-23), 3) := by decide +kernel
theorem dX2_allDue_39 : decode cX2_allDue 39 = .ok (.iload_n 1, 1) := by decide +kernel
theorem dX2_allDue_40 : decode cX2_allDue 40 = .ok (.ireturn, 1) := by decide +kernel
theorem dX2_allFines_0 : decode cX2_allFines 0 = .ok (.iconst 0, 1) := by decide +kernel
theorem dX2_allFines_1 : decode cX2_allFines 1 = .ok (.istore_n 1, 1) := by decide +kernel
theorem dX2_allFines_2 : decode cX2_allFines 2 = .ok (.aload_n 0, 1) := by decide +kernel
theorem dX2_allFines_3 : decode cX2_allFines 3 = .ok (.getfield 25, 3) := by decide +kernel
theorem dX2_allFines_6 : decode cX2_allFines 6 = .ok (.astore_n 2, 1) := by decide +kernel
theorem dX2_allFines_7 : decode cX2_allFines 7 = .ok (.aload_n 2, 1) := by decide +kernel
theorem dX2_allFines_8 : decode cX2_allFines 8 = .ok (.arraylength, 1) := by decide +kernel
theorem dX2_allFines_9 : decode cX2_allFines 9 = .ok (.istore_n 3, 1) := by decide +kernel
theorem dX2_allFines_10 : decode cX2_allFines 10 = .ok (.iconst 0, 1) := by decide +kernel
theorem dX2_allFines_11 : decode cX2_allFines 11 = .ok (.istore 4, 2) := by decide +kernel
theorem dX2_allFines_13 : decode cX2_allFines 13 = .ok (.iload 4, 2) := by decide +kernel
