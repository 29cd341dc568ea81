theorem dX2_allFines_15 : decode cX2_allFines 15 = .ok (.iload_n 3, 1) := by decide +kernel
theorem dX2_allFines_16 : decode cX2_allFines 16 = .ok (.if_icmp .ge 23, 3) := by decide +kernel
theorem dX2_allFines_19 : decode cX2_allFines 19 = .ok (.aload_n 2, 1) := by decide +kernel
theorem dX2_allFines_20 : decode cX2_allFines 20 = .ok (.iload 4, 2) := by decide +kernel
theorem dX2_allFines_22 : decode cX2_allFines 22 = .ok (.aaload, 1) := by decide +kernel
theorem dX2_allFines_23 : decode cX2_allFines 23 = .ok (.astore 5, 2) := by decide +kernel
theorem dX2_allFines_25 : decode cX2_allFines 25 = .ok (.iload_n 1, 1) := by decide +kernel
theorem dX2_allFines_26 : decode cX2_allFines 26 = .ok (.aload 5, 2) := by decide +kernel
theorem dX2_allFines_28 : decode cX2_allFines 28 = .ok (.getfield 103, 3) := by decide +kernel
theorem dX2_allFines_31 : decode cX2_allFines 31 = .ok (.iadd, 1) := by decide +kernel
theorem dX2_allFines_32 : decode cX2_allFines 32 = .ok (.istore_n 1, 1) := by decide +kernel
theorem dX2_allFines_33 : decode cX2_allFines 33 = .ok (.iinc 4 1, 3) := by decide +kernel
theorem dX2_allFines_36 : decode cX2_allFines 36 = .ok (.goto (-23), 3) := by decide +kernel
theorem dX2_allFines_39 : decode cX2_allFines 39 = .ok (.iload_n 1, 1) := by decide +kernel
theorem dX2_allFines_40 : decode cX2_allFines 40 = .ok (.ireturn, 1) := by decide +kernel
theorem dX2_allHeld_0 : decode cX2_allHeld 0 = .ok (.iconst 0, 1) := by decide +kernel
theorem dX2_allHeld_1 : decode cX2_allHeld 1 = .ok (.istore_n 1, 1) := by decide +kernel
theorem dX2_allHeld_2 : decode cX2_allHeld 2 = .ok (.aload_n 0, 1) := by decide +kernel
theorem dX2_allHeld_3 : decode cX2_allHeld 3 = .ok (.getfield 25, 3) := by decide +kernel
theorem dX2_allHeld_6 : decode cX2_allHeld 6 = .ok (.astore_n 2, 1) := by decide +kernel
theorem dX2_allHeld_7 : decode cX2_allHeld 7 = .ok (.aload_n 2, 1) := by decide +kernel
theorem dX2_allHeld_8 : decode cX2_allHeld 8 = .ok (.arraylength, 1) := by decide +kernel
theorem dX2_allHeld_9 : decode cX2_allHeld 9 = .ok (.istore_n 3, 1) := by decide +kernel
theorem dX2_allHeld_10 : decode cX2_allHeld 10 = .ok (.iconst 0, 1) := by decide +kernel
theorem dX2_allHeld_11 : decode cX2_allHeld 11 = .ok (.istore 4, 2) := by decide +kernel
theorem dX2_allHeld_13 : decode cX2_allHeld 13 = .ok (.iload 4, 2) := by decide +kernel
theorem dX2_allHeld_15 : decode cX2_allHeld 15 = .ok (.iload_n 3, 1) := by decide +kernel
theorem dX2_allHeld_16 : decode cX2_allHeld 16 = .ok (.if_icmp .ge 23, 3) := by decide +kernel
theorem dX2_allHeld_19 : decode cX2_allHeld 19 = .ok (.aload_n 2, 1) := by decide +kernel
theorem dX2_allHeld_20 : decode cX2_allHeld 20 = .ok (.iload 4, 2) := by decide +kernel
theorem dX2_allHeld_22 : decode cX2_allHeld 22 = .ok (.aaload, 1) := by decide +kernel
theorem dX2_allHeld_23 : decode cX2_allHeld 23 = .ok (.astore 5, 2) := by decide +kernel
theorem dX2_allHeld_25 : decode cX2_allHeld 25 = .ok (.iload_n 1, 1) := by decide +kernel
theorem dX2_allHeld_26 : decode cX2_allHeld 26 = .ok (.aload 5, 2) := by decide +kernel
theorem dX2_allHeld_28 : decode cX2_allHeld 28 = .ok (.invokevirtual 119, 3) := by decide +kernel
theorem dX2_allHeld_31 : decode cX2_allHeld 31 = .ok (.iadd, 1) := by decide +kernel
theorem dX2_allHeld_32 : decode cX2_allHeld 32 = .ok (.istore_n 1, 1) := by decide +kernel
theorem dX2_allHeld_33 : decode cX2_allHeld 33 = .ok (.iinc 4 1, 3) := by decide +kernel
theorem dX2_allHeld_36 : decode cX2_allHeld 36 = .ok (.goto (-23), 3) := by decide +kernel
theorem dX2_allHeld_39 : decode cX2_allHeld 39 = .ok (.iload_n 1, 1) := by decide +kernel
theorem dX2_allHeld_40 : decode cX2_allHeld 40 = .ok (.ireturn, 1) := by decide +kernel
theorem dX2_allLost_0 : decode cX2_allLost 0 = .ok (.iconst 0, 1) := by decide +kernel
theorem dX2_allLost_1 : decode cX2_allLost 1 = .ok (.istore_n 1, 1) := by decide +kernel
theorem dX2_allLost_2 : decode cX2_allLost 2 = .ok (.aload_n 0, 1) := by decide +kernel
theorem dX2_allLost_3 : decode cX2_allLost 3 = .ok (.getfield 39, 3) := by decide +kernel
theorem dX2_allLost_6 : decode cX2_allLost 6 = .ok (.astore_n 2, 1) := by decide +kernel
theorem dX2_allLost_7 : decode cX2_allLost 7 = .ok (.aload_n 2, 1) := by decide +kernel
theorem dX2_allLost_8 : decode cX2_allLost 8 = .ok (.arraylength, 1) := by decide +kernel
theorem dX2_allLost_9 : decode cX2_allLost 9 = .ok (.istore_n 3, 1) := by decide +kernel
theorem dX2_allLost_10 : decode cX2_allLost 10 = .ok (.iconst 0, 1) := by decide +kernel
theorem dX2_allLost_11 : decode cX2_allLost 11 = .ok (.istore 4, 2) := by decide +kernel
theorem dX2_allLost_13 : decode cX2_allLost 13 = .ok (.iload 4, 2) := by decide +kernel
theorem dX2_allLost_15 : decode cX2_allLost 15 = .ok (.iload_n 3, 1) := by decide +kernel
theorem dX2_allLost_16 : decode cX2_allLost 16 = .ok (.if_icmp .ge 20, 3) := by decide +kernel
theorem dX2_allLost_19 : decode cX2_allLost 19 = .ok (.aload_n 2, 1) := by decide +kernel
theorem dX2_allLost_20 : decode cX2_allLost 20 = .ok (.iload 4, 2) := by decide +kernel
theorem dX2_allLost_22 : decode cX2_allLost 22 = .ok (.iaload, 1) := by decide +kernel
theorem dX2_allLost_23 : decode cX2_allLost 23 = .ok (.istore 5, 2) := by decide +kernel
theorem dX2_allLost_25 : decode cX2_allLost 25 = .ok (.iload_n 1, 1) := by decide +kernel
theorem dX2_allLost_26 : decode cX2_allLost 26 = .ok (.iload 5, 2) := by decide +kernel
theorem dX2_allLost_28 : decode cX2_allLost 28 = .ok (.iadd, 1) := by decide +kernel
theorem dX2_allLost_29 : decode cX2_allLost 29 = .ok (.istore_n 1, 1) := by decide +kernel
theorem dX2_allLost_30 : decode cX2_allLost 30 = .ok (.iinc 4 1, 3) := by decide +kernel
theorem dX2_allLost_33 : decode cX2_allLost 33 = .ok (.goto (-20), 3) := by decide +kernel
theorem dX2_allLost_36 : decode cX2_allLost 36 = .ok (.iload_n 1, 1) := by decide +kernel
theorem dX2_allLost_37 : decode cX2_allLost 37 = .ok (.ireturn, 1) := by decide +kernel
theorem dX2_monthsUntilDeadline_0 : decode cX2_monthsUntilDeadline 0 = .ok (.aload_n 0, 1) := by decide +kernel
theorem dX2_monthsUntilDeadline_1 : decode cX2_monthsUntilDeadline 1 = .ok (.getfield 52, 3) := by decide +kernel
theorem dX2_monthsUntilDeadline_4 : decode cX2_monthsUntilDeadline 4 = .ok (.bipush 12, 2) := by decide +kernel
theorem dX2_monthsUntilDeadline_6 : decode cX2_monthsUntilDeadline 6 = .ok (.irem, 1) := by decide +kernel
theorem dX2_monthsUntilDeadline_7 : decode cX2_monthsUntilDeadline 7 = .ok (.istore_n 1, 1) := by decide +kernel
theorem dX2_monthsUntilDeadline_8 : decode cX2_monthsUntilDeadline 8 = .ok (.iload_n 1, 1) := by decide +kernel
theorem dX2_monthsUntilDeadline_9 : decode cX2_monthsUntilDeadline 9 = .ok (.iconst 4, 1) := by decide +kernel
theorem dX2_monthsUntilDeadline_10 : decode cX2_monthsUntilDeadline 10 = .ok (.if_icmp .ge 14, 3) := by decide +kernel
theorem dX2_monthsUntilDeadline_13 : decode cX2_monthsUntilDeadline 13 = .ok (.aload_n 0, 1) := by decide +kernel
theorem dX2_monthsUntilDeadline_14 : decode cX2_monthsUntilDeadline 14 = .ok (.invokevirtual 86, 3) := by decide +kernel
theorem dX2_monthsUntilDeadline_17 : decode cX2_monthsUntilDeadline 17 = .ok (.ifCond .eq 7, 3) := by decide +kernel
theorem dX2_monthsUntilDeadline_20 : decode cX2_monthsUntilDeadline 20 = .ok (.iconst 1, 1) := by decide +kernel
theorem dX2_monthsUntilDeadline_21 : decode cX2_monthsUntilDeadline 21 = .ok (.goto 4, 3) := by decide +kernel
theorem dX2_monthsUntilDeadline_24 : decode cX2_monthsUntilDeadline 24 = .ok (.iconst 0, 1) := by decide +kernel
theorem dX2_monthsUntilDeadline_25 : decode cX2_monthsUntilDeadline 25 = .ok (.istore_n 2, 1) := by decide +kernel
theorem dX2_monthsUntilDeadline_26 : decode cX2_monthsUntilDeadline 26 = .ok (.iload_n 2, 1) := by decide +kernel
theorem dX2_monthsUntilDeadline_27 : decode cX2_monthsUntilDeadline 27 = .ok (.ifCond .eq 9, 3) := by decide +kernel
theorem dX2_monthsUntilDeadline_30 : decode cX2_monthsUntilDeadline 30 = .ok (.iconst 4, 1) := by decide +kernel
theorem dX2_monthsUntilDeadline_31 : decode cX2_monthsUntilDeadline 31 = .ok (.iload_n 1, 1) := by decide +kernel
theorem dX2_monthsUntilDeadline_32 : decode cX2_monthsUntilDeadline 32 = .ok (.isub, 1) := by decide +kernel
theorem dX2_monthsUntilDeadline_33 : decode cX2_monthsUntilDeadline 33 = .ok (.goto 7, 3) := by decide +kernel
theorem dX2_monthsUntilDeadline_36 : decode cX2_monthsUntilDeadline 36 = .ok (.bipush 16, 2) := by decide +kernel
theorem dX2_monthsUntilDeadline_38 : decode cX2_monthsUntilDeadline 38 = .ok (.iload_n 1, 1) := by decide +kernel
theorem dX2_monthsUntilDeadline_39 : decode cX2_monthsUntilDeadline 39 = .ok (.isub, 1) := by decide +kernel
theorem dX2_monthsUntilDeadline_40 : decode cX2_monthsUntilDeadline 40 = .ok (.ireturn, 1) := by decide +kernel
theorem dX3_init_0 : decode cX3_init 0 = .ok (.aload_n 0, 1) := by decide +kernel
theorem dX3_init_1 : decode cX3_init 1 = .ok (.invokespecial 3, 3) := by decide +kernel
theorem dX3_init_4 : decode cX3_init 4 = .ok (.aload_n 0, 1) := by decide +kernel
theorem dX3_init_5 : decode cX3_init 5 = .ok (.bipush 20, 2) := by decide +kernel
theorem dX3_init_7 : decode cX3_init 7 = .ok (.newarray .int, 2) := by decide +kernel
theorem dX3_init_9 : decode cX3_init 9 = .ok (.putfield 9, 3) := by decide +kernel
theorem dX3_init_12 : decode cX3_init 12 = .ok (.aload_n 0, 1) := by decide +kernel
theorem dX3_init_13 : decode cX3_init 13 = .ok (.iconst 3, 1) := by decide +kernel
theorem dX3_init_14 : decode cX3_init 14 = .ok (.newarray .int, 2) := by decide +kernel
theorem dX3_init_16 : decode cX3_init 16 = .ok (.putfield 15, 3) := by decide +kernel
theorem dX3_init_19 : decode cX3_init 19 = .ok (.return_, 1) := by decide +kernel
theorem dX3_workOut_0 : decode cX3_workOut 0 = .ok (.aload_n 0, 1) := by decide +kernel
theorem dX3_workOut_1 : decode cX3_workOut 1 = .ok (.iload_n 3, 1) := by decide +kernel
theorem dX3_workOut_2 : decode cX3_workOut 2 = .ok (.putfield 18, 3) := by decide +kernel
theorem dX3_workOut_5 : decode cX3_workOut 5 = .ok (.aload_n 0, 1) := by decide +kernel
theorem dX3_workOut_6 : decode cX3_workOut 6 = .ok (.iconst 0, 1) := by decide +kernel
theorem dX3_workOut_7 : decode cX3_workOut 7 = .ok (.putfield 22, 3) := by decide +kernel
theorem dX3_workOut_10 : decode cX3_workOut 10 = .ok (.aload_n 0, 1) := by decide +kernel
theorem dX3_workOut_11 : decode cX3_workOut 11 = .ok (.iconst 0, 1) := by decide +kernel
theorem dX3_workOut_12 : decode cX3_workOut 12 = .ok (.putfield 25, 3) := by decide +kernel
theorem dX3_workOut_15 : decode cX3_workOut 15 = .ok (.aload_n 0, 1) := by decide +kernel
theorem dX3_workOut_16 : decode cX3_workOut 16 = .ok (.bipush (-5), 2) := by decide +kernel
theorem dX3_workOut_18 : decode cX3_workOut 18 = .ok (.putfield 28, 3) := by decide +kernel
theorem dX3_workOut_21 : decode cX3_workOut 21 = .ok (.iconst 2, 1) := by decide +kernel
theorem dX3_workOut_22 : decode cX3_workOut 22 = .ok (.istore 5, 2) := by decide +kernel
theorem dX3_workOut_24 : decode cX3_workOut 24 = .ok (.iload 5, 2) := by decide +kernel
theorem dX3_workOut_26 : decode cX3_workOut 26 = .ok (.ifCond .lt 63, 3) := by decide +kernel
theorem dX3_workOut_29 : decode cX3_workOut 29 = .ok (.iload 4, 2) := by decide +kernel
theorem dX3_workOut_31 : decode cX3_workOut 31 = .ok (.iconst 2, 1) := by decide +kernel
theorem dX3_workOut_32 : decode cX3_workOut 32 = .ok (.if_icmp .ne 16, 3) := by decide +kernel
theorem dX3_workOut_35 : decode cX3_workOut 35 = .ok (.aload_n 1, 1) := by decide +kernel
theorem dX3_workOut_36 : decode cX3_workOut 36 = .ok (.iload 5, 2) := by decide +kernel
theorem dX3_workOut_38 : decode cX3_workOut 38 = .ok (.aload_n 2, 1) := by decide +kernel
theorem dX3_workOut_39 : decode cX3_workOut 39 = .ok (.iload 5, 2) := by decide +kernel
theorem dX3_workOut_41 : decode cX3_workOut 41 = .ok (.iaload, 1) := by decide +kernel
theorem dX3_workOut_42 : decode cX3_workOut 42 = .ok (.invokevirtual 31, 3) := by decide +kernel
theorem dX3_workOut_45 : decode cX3_workOut 45 = .ok (.goto 4, 3) := by decide +kernel
theorem dX3_workOut_48 : decode cX3_workOut 48 = .ok (.iconst 0, 1) := by decide +kernel
theorem dX3_workOut_49 : decode cX3_workOut 49 = .ok (.istore 6, 2) := by decide +kernel
theorem dX3_workOut_51 : decode cX3_workOut 51 = .ok (.aload_n 0, 1) := by decide +kernel
theorem dX3_workOut_52 : decode cX3_workOut 52 = .ok (.getfield 15, 3) := by decide +kernel
theorem dX3_workOut_55 : decode cX3_workOut 55 = .ok (.iload 5, 2) := by decide +kernel
theorem dX3_workOut_57 : decode cX3_workOut 57 = .ok (.aload_n 0, 1) := by decide +kernel
theorem dX3_workOut_58 : decode cX3_workOut 58 = .ok (.getfield 18, 3) := by decide +kernel
theorem dX3_workOut_61 : decode cX3_workOut 61 = .ok (.iload 6, 2) := by decide +kernel
theorem dX3_workOut_63 : decode cX3_workOut 63 = .ok (.invokestatic 37, 3) := by decide +kernel
theorem dX3_workOut_66 : decode cX3_workOut 66 = .ok (.iastore, 1) := by decide +kernel
theorem dX3_workOut_67 : decode cX3_workOut 67 = .ok (.aload_n 0, 1) := by decide +kernel
theorem dX3_workOut_68 : decode cX3_workOut 68 = .ok (.dup, 1) := by decide +kernel
theorem dX3_workOut_69 : decode cX3_workOut 69 = .ok (.getfield 18, 3) := by decide +kernel
theorem dX3_workOut_72 : decode cX3_workOut 72 = .ok (.aload_n 0, 1) := by decide +kernel
theorem dX3_workOut_73 : decode cX3_workOut 73 = .ok (.getfield 15, 3) := by decide +kernel
theorem dX3_workOut_76 : decode cX3_workOut 76 = .ok (.iload 5, 2) := by decide +kernel
theorem dX3_workOut_78 : decode cX3_workOut 78 = .ok (.iaload, 1) := by decide +kernel
theorem dX3_workOut_79 : decode cX3_workOut 79 = .ok (.isub, 1) := by decide +kernel
theorem dX3_workOut_80 : decode cX3_workOut 80 = .ok (.putfield 18, 3) := by decide +kernel
theorem dX3_workOut_83 : decode cX3_workOut 83 = .ok (.iinc 5 (-1), 3) := by decide +kernel
theorem dX3_workOut_86 : decode cX3_workOut 86 = .ok (.goto (-62), 3) := by decide +kernel
theorem dX3_workOut_89 : decode cX3_workOut 89 = .ok (.iconst 0, 1) := by decide +kernel
theorem dX3_workOut_90 : decode cX3_workOut 90 = .ok (.istore 5, 2) := by decide +kernel
theorem dX3_workOut_92 : decode cX3_workOut 92 = .ok (.iload 5, 2) := by decide +kernel
theorem dX3_workOut_94 : decode cX3_workOut 94 = .ok (.bipush 20, 2) := by decide +kernel
theorem dX3_workOut_96 : decode cX3_workOut 96 = .ok (.if_icmp .ge 30, 3) := by decide +kernel
theorem dX3_workOut_99 : decode cX3_workOut 99 = .ok (.aload_n 0, 1) := by decide +kernel
theorem dX3_workOut_100 : decode cX3_workOut 100 = .ok (.aload_n 1, 1) := by decide +kernel
theorem dX3_workOut_101 : decode cX3_workOut 101 = .ok (.iload 4, 2) := by decide +kernel
theorem dX3_workOut_103 : decode cX3_workOut 103 = .ok (.iconst 1, 1) := by decide +kernel
theorem dX3_workOut_104 : decode cX3_workOut 104 = .ok (.if_icmp .ne 11, 3) := by decide +kernel
theorem dX3_workOut_107 : decode cX3_workOut 107 = .ok (.bipush 19, 2) := by decide +kernel
theorem dX3_workOut_109 : decode cX3_workOut 109 = .ok (.iload 5, 2) := by decide +kernel
theorem dX3_workOut_111 : decode cX3_workOut 111 = .ok (.isub, 1) := by decide +kernel
theorem dX3_workOut_112 : decode cX3_workOut 112 = .ok (.goto 5, 3) := by decide +kernel
theorem dX3_workOut_115 : decode cX3_workOut 115 = .ok (.iload 5, 2) := by decide +kernel
theorem dX3_workOut_117 : decode cX3_workOut 117 = .ok (.invokevirtual 42, 3) := by decide +kernel
theorem dX3_workOut_120 : decode cX3_workOut 120 = .ok (.iinc 5 1, 3) := by decide +kernel
theorem dX3_workOut_123 : decode cX3_workOut 123 = .ok (.goto (-31), 3) := by decide +kernel
theorem dX3_workOut_126 : decode cX3_workOut 126 = .ok (.return_, 1) := by decide +kernel
theorem dX3_takeVintage_0 : decode cX3_takeVintage 0 = .ok (.aload_n 0, 1) := by decide +kernel
theorem dX3_takeVintage_1 : decode cX3_takeVintage 1 = .ok (.getfield 18, 3) := by decide +kernel
theorem dX3_takeVintage_4 : decode cX3_takeVintage 4 = .ok (.aload_n 1, 1) := by decide +kernel
theorem dX3_takeVintage_5 : decode cX3_takeVintage 5 = .ok (.getfield 46, 3) := by decide +kernel
theorem dX3_takeVintage_8 : decode cX3_takeVintage 8 = .ok (.iload_n 2, 1) := by decide +kernel
theorem dX3_takeVintage_9 : decode cX3_takeVintage 9 = .ok (.iaload, 1) := by decide +kernel
theorem dX3_takeVintage_10 : decode cX3_takeVintage 10 = .ok (.invokestatic 37, 3) := by decide +kernel
theorem dX3_takeVintage_13 : decode cX3_takeVintage 13 = .ok (.istore_n 3, 1) := by decide +kernel
theorem dX3_takeVintage_14 : decode cX3_takeVintage 14 = .ok (.aload_n 0, 1) := by decide +kernel
theorem dX3_takeVintage_15 : decode cX3_takeVintage 15 = .ok (.getfield 9, 3) := by decide +kernel
theorem dX3_takeVintage_18 : decode cX3_takeVintage 18 = .ok (.iload_n 2, 1) := by decide +kernel
theorem dX3_takeVintage_19 : decode cX3_takeVintage 19 = .ok (.iload_n 3, 1) := by decide +kernel
theorem dX3_takeVintage_20 : decode cX3_takeVintage 20 = .ok (.iastore, 1) := by decide +kernel
theorem dX3_takeVintage_21 : decode cX3_takeVintage 21 = .ok (.iload_n 3, 1) := by decide +kernel
theorem dX3_takeVintage_22 : decode cX3_takeVintage 22 = .ok (.ifCond .ne 4, 3) := by decide +kernel
theorem dX3_takeVintage_25 : decode cX3_takeVintage 25 = .ok (.return_, 1) := by decide +kernel
theorem dX3_takeVintage_26 : decode cX3_takeVintage 26 = .ok (.aload_n 0, 1) := by decide +kernel
theorem dX3_takeVintage_27 : decode cX3_takeVintage 27 = .ok (.getfield 25, 3) := by decide +kernel
theorem dX3_takeVintage_30 : decode cX3_takeVintage 30 = .ok (.ifCond .ne 8, 3) := by decide +kernel
theorem dX3_takeVintage_33 : decode cX3_takeVintage 33 = .ok (.aload_n 0, 1) := by decide +kernel
theorem dX3_takeVintage_34 : decode cX3_takeVintage 34 = .ok (.iload_n 2, 1) := by decide +kernel
theorem dX3_takeVintage_35 : decode cX3_takeVintage 35 = .ok (.putfield 28, 3) := by decide +kernel
theorem dX3_takeVintage_38 : decode cX3_takeVintage 38 = .ok (.aload_n 0, 1) := by decide +kernel
theorem dX3_takeVintage_39 : decode cX3_takeVintage 39 = .ok (.dup, 1) := by decide +kernel
theorem dX3_takeVintage_40 : decode cX3_takeVintage 40 = .ok (.getfield 25, 3) := by decide +kernel
theorem dX3_takeVintage_43 : decode cX3_takeVintage 43 = .ok (.iconst 1, 1) := by decide +kernel
theorem dX3_takeVintage_44 : decode cX3_takeVintage 44 = .ok (.iadd, 1) := by decide +kernel
theorem dX3_takeVintage_45 : decode cX3_takeVintage 45 = .ok (.putfield 25, 3) := by decide +kernel
theorem dX3_takeVintage_48 : decode cX3_takeVintage 48 = .ok (.aload_n 0, 1) := by decide +kernel
theorem dX3_takeVintage_49 : decode cX3_takeVintage 49 = .ok (.dup, 1) := by decide +kernel
theorem dX3_takeVintage_50 : decode cX3_takeVintage 50 = .ok (.getfield 22, 3) := by decide +kernel
theorem dX3_takeVintage_53 : decode cX3_takeVintage 53 = .ok (.iload_n 3, 1) := by decide +kernel
theorem dX3_takeVintage_54 : decode cX3_takeVintage 54 = .ok (.iadd, 1) := by decide +kernel
theorem dX3_takeVintage_55 : decode cX3_takeVintage 55 = .ok (.putfield 22, 3) := by decide +kernel
theorem dX3_takeVintage_58 : decode cX3_takeVintage 58 = .ok (.aload_n 0, 1) := by decide +kernel
theorem dX3_takeVintage_59 : decode cX3_takeVintage 59 = .ok (.dup, 1) := by decide +kernel
theorem dX3_takeVintage_60 : decode cX3_takeVintage 60 = .ok (.getfield 18, 3) := by decide +kernel
theorem dX3_takeVintage_63 : decode cX3_takeVintage 63 = .ok (.iload_n 3, 1) := by decide +kernel
theorem dX3_takeVintage_64 : decode cX3_takeVintage 64 = .ok (.isub, 1) := by decide +kernel
theorem dX3_takeVintage_65 : decode cX3_takeVintage 65 = .ok (.putfield 18, 3) := by decide +kernel
theorem dX3_takeVintage_68 : decode cX3_takeVintage 68 = .ok (.return_, 1) := by decide +kernel
theorem dX4_init_0 : decode cX4_init 0 = .ok (.aload_n 0, 1) := by decide +kernel
theorem dX4_init_1 : decode cX4_init 1 = .ok (.invokespecial 3, 3) := by decide +kernel
theorem dX4_init_4 : decode cX4_init 4 = .ok (.aload_n 0, 1) := by decide +kernel
theorem dX4_init_5 : decode cX4_init 5 = .ok (.bipush 60, 2) := by decide +kernel
theorem dX4_init_7 : decode cX4_init 7 = .ok (.newarray .char, 2) := by decide +kernel
theorem dX4_init_9 : decode cX4_init 9 = .ok (.putfield 9, 3) := by decide +kernel
theorem dX4_init_12 : decode cX4_init 12 = .ok (.aload_n 0, 1) := by decide +kernel
theorem dX4_init_13 : decode cX4_init 13 = .ok (.bipush 8, 2) := by decide +kernel
theorem dX4_init_15 : decode cX4_init 15 = .ok (.newarray .int, 2) := by decide +kernel
theorem dX4_init_17 : decode cX4_init 17 = .ok (.putfield 15, 3) := by decide +kernel
theorem dX4_init_20 : decode cX4_init 20 = .ok (.aload_n 0, 1) := by decide +kernel
theorem dX4_init_21 : decode cX4_init 21 = .ok (.bipush 8, 2) := by decide +kernel
theorem dX4_init_23 : decode cX4_init 23 = .ok (.newarray .int, 2) := by decide +kernel
theorem dX4_init_25 : decode cX4_init 25 = .ok (.putfield 19, 3) := by decide +kernel
theorem dX4_init_28 : decode cX4_init 28 = .ok (.aload_n 0, 1) := by decide +kernel
theorem dX4_init_29 : decode cX4_init 29 = .ok (.bipush 8, 2) := by decide +kernel
theorem dX4_init_31 : decode cX4_init 31 = .ok (.newarray .int, 2) := by decide +kernel
theorem dX4_init_33 : decode cX4_init 33 = .ok (.putfield 22, 3) := by decide +kernel
theorem dX4_init_36 : decode cX4_init 36 = .ok (.aload_n 0, 1) := by decide +kernel
theorem dX4_init_37 : decode cX4_init 37 = .ok (.bipush 8, 2) := by decide +kernel
theorem dX4_init_39 : decode cX4_init 39 = .ok (.newarray .int, 2) := by decide +kernel
theorem dX4_init_41 : decode cX4_init 41 = .ok (.putfield 25, 3) := by decide +kernel
theorem dX4_init_44 : decode cX4_init 44 = .ok (.return_, 1) := by decide +kernel
theorem dX5_init_0 : decode cX5_init 0 = .ok (.aload_n 0, 1) := by decide +kernel
theorem dX5_init_1 : decode cX5_init 1 = .ok (.invokespecial 3, 3) := by decide +kernel
theorem dX5_init_4 : decode cX5_init 4 = .ok (.aload_n 0, 1) := by decide +kernel
theorem dX5_init_5 : decode cX5_init 5 = .ok (.new 9, 3) := by decide +kernel
theorem dX5_init_8 : decode cX5_init 8 = .ok (.dup, 1) := by decide +kernel
theorem dX5_init_9 : decode cX5_init 9 = .ok (.invokespecial 11, 3) := by decide +kernel
theorem dX5_init_12 : decode cX5_init 12 = .ok (.putfield 12, 3) := by decide +kernel
theorem dX5_init_15 : decode cX5_init 15 = .ok (.aload_n 0, 1) := by decide +kernel
theorem dX5_init_16 : decode cX5_init 16 = .ok (.new 9, 3) := by decide +kernel
theorem dX5_init_19 : decode cX5_init 19 = .ok (.dup, 1) := by decide +kernel
theorem dX5_init_20 : decode cX5_init 20 = .ok (.invokespecial 11, 3) := by decide +kernel
theorem dX5_init_23 : decode cX5_init 23 = .ok (.putfield 16, 3) := by decide +kernel
theorem dX5_init_26 : decode cX5_init 26 = .ok (.aload_n 0, 1) := by decide +kernel
theorem dX5_init_27 : decode cX5_init 27 = .ok (.new 9, 3) := by decide +kernel
theorem dX5_init_30 : decode cX5_init 30 = .ok (.dup, 1) := by decide +kernel
theorem dX5_init_31 : decode cX5_init 31 = .ok (.invokespecial 11, 3) := by decide +kernel
theorem dX5_init_34 : decode cX5_init 34 = .ok (.putfield 19, 3) := by decide +kernel
theorem dX5_init_37 : decode cX5_init 37 = .ok (.aload_n 0, 1) := by decide +kernel
theorem dX5_init_38 : decode cX5_init 38 = .ok (.new 22, 3) := by decide +kernel
theorem dX5_init_41 : decode cX5_init 41 = .ok (.dup, 1) := by decide +kernel
theorem dX5_init_42 : decode cX5_init 42 = .ok (.invokespecial 24, 3) := by decide +kernel
theorem dX5_init_45 : decode cX5_init 45 = .ok (.putfield 25, 3) := by decide +kernel
theorem dX5_init_48 : decode cX5_init 48 = .ok (.aload_n 0, 1) := by decide +kernel
theorem dX5_init_49 : decode cX5_init 49 = .ok (.new 29, 3) := by decide +kernel
theorem dX5_init_52 : decode cX5_init 52 = .ok (.dup, 1) := by decide +kernel
theorem dX5_init_53 : decode cX5_init 53 = .ok (.invokespecial 31, 3) := by decide +kernel
theorem dX5_init_56 : decode cX5_init 56 = .ok (.putfield 32, 3) := by decide +kernel
theorem dX5_init_59 : decode cX5_init 59 = .ok (.aload_n 0, 1) := by decide +kernel
theorem dX5_init_60 : decode cX5_init 60 = .ok (.new 36, 3) := by decide +kernel
theorem dX5_init_63 : decode cX5_init 63 = .ok (.dup, 1) := by decide +kernel
theorem dX5_init_64 : decode cX5_init 64 = .ok (.invokespecial 38, 3) := by decide +kernel
theorem dX5_init_67 : decode cX5_init 67 = .ok (.putfield 39, 3) := by decide +kernel
theorem dX5_init_70 : decode cX5_init 70 = .ok (.aload_n 0, 1) := by decide +kernel
theorem dX5_init_71 : decode cX5_init 71 = .ok (.iconst 0, 1) := by decide +kernel
theorem dX5_init_72 : decode cX5_init 72 = .ok (.putfield 43, 3) := by decide +kernel
theorem dX5_init_75 : decode cX5_init 75 = .ok (.return_, 1) := by decide +kernel
theorem dX5_addFirm_0 : decode cX5_addFirm 0 = .ok (.aload_n 0, 1) := by decide +kernel
theorem dX5_addFirm_1 : decode cX5_addFirm 1 = .ok (.getfield 12, 3) := by decide +kernel
theorem dX5_addFirm_4 : decode cX5_addFirm 4 = .ok (.getfield 47, 3) := by decide +kernel
theorem dX5_addFirm_7 : decode cX5_addFirm 7 = .ok (.bipush 8, 2) := by decide +kernel
theorem dX5_addFirm_9 : decode cX5_addFirm 9 = .ok (.if_icmp .lt 6, 3) := by decide +kernel
theorem dX5_addFirm_12 : decode cX5_addFirm 12 = .ok (.bipush (-3), 2) := by decide +kernel
theorem dX5_addFirm_14 : decode cX5_addFirm 14 = .ok (.ireturn, 1) := by decide +kernel
theorem dX5_addFirm_15 : decode cX5_addFirm 15 = .ok (.aload_n 0, 1) := by decide +kernel
theorem dX5_addFirm_16 : decode cX5_addFirm 16 = .ok (.getfield 25, 3) := by decide +kernel
theorem dX5_addFirm_19 : decode cX5_addFirm 19 = .ok (.aload_n 0, 1) := by decide +kernel
theorem dX5_addFirm_20 : decode cX5_addFirm 20 = .ok (.getfield 12, 3) := by decide +kernel
theorem dX5_addFirm_23 : decode cX5_addFirm 23 = .ok (.invokevirtual 51, 3) := by decide +kernel
theorem dX5_addFirm_26 : decode cX5_addFirm 26 = .ok (.aload_n 0, 1) := by decide +kernel
theorem dX5_addFirm_27 : decode cX5_addFirm 27 = .ok (.getfield 12, 3) := by decide +kernel
theorem dX5_addFirm_30 : decode cX5_addFirm 30 = .ok (.dup, 1) := by decide +kernel
theorem dX5_addFirm_31 : decode cX5_addFirm 31 = .ok (.getfield 47, 3) := by decide +kernel
theorem dX5_addFirm_34 : decode cX5_addFirm 34 = .ok (.iconst 1, 1) := by decide +kernel
theorem dX5_addFirm_35 : decode cX5_addFirm 35 = .ok (.iadd, 1) := by decide +kernel
theorem dX5_addFirm_36 : decode cX5_addFirm 36 = .ok (.putfield 47, 3) := by decide +kernel
theorem dX5_addFirm_39 : decode cX5_addFirm 39 = .ok (.aload_n 0, 1) := by decide +kernel
theorem dX5_addFirm_40 : decode cX5_addFirm 40 = .ok (.getfield 12, 3) := by decide +kernel
theorem dX5_addFirm_43 : decode cX5_addFirm 43 = .ok (.getfield 47, 3) := by decide +kernel
theorem dX5_addFirm_46 : decode cX5_addFirm 46 = .ok (.iconst 1, 1) := by decide +kernel
theorem dX5_addFirm_47 : decode cX5_addFirm 47 = .ok (.isub, 1) := by decide +kernel
theorem dX5_addFirm_48 : decode cX5_addFirm 48 = .ok (.ireturn, 1) := by decide +kernel
theorem dX5_set_0 : decode cX5_set 0 = .ok (.iload_n 1, 1) := by decide +kernel
theorem dX5_set_1 : decode cX5_set 1 = .ok (.ifCond .lt 26, 3) := by decide +kernel
theorem dX5_set_4 : decode cX5_set 4 = .ok (.iload_n 1, 1) := by decide +kernel
theorem dX5_set_5 : decode cX5_set 5 = .ok (.iconst 5, 1) := by decide +kernel
theorem dX5_set_6 : decode cX5_set 6 = .ok (.if_icmp .ge 21, 3) := by decide +kernel
theorem dX5_set_9 : decode cX5_set 9 = .ok (.iload_n 2, 1) := by decide +kernel
theorem dX5_set_10 : decode cX5_set 10 = .ok (.getstatic 55, 3) := by decide +kernel
theorem dX5_set_13 : decode cX5_set 13 = .ok (.iload_n 1, 1) := by decide +kernel
theorem dX5_set_14 : decode cX5_set 14 = .ok (.iaload, 1) := by decide +kernel
theorem dX5_set_15 : decode cX5_set 15 = .ok (.if_icmp .lt 12, 3) := by decide +kernel
theorem dX5_set_18 : decode cX5_set 18 = .ok (.iload_n 2, 1) := by decide +kernel
theorem dX5_set_19 : decode cX5_set 19 = .ok (.getstatic 59, 3) := by decide +kernel
theorem dX5_set_22 : decode cX5_set 22 = .ok (.iload_n 1, 1) := by decide +kernel
theorem dX5_set_23 : decode cX5_set 23 = .ok (.iaload, 1) := by decide +kernel
theorem dX5_set_24 : decode cX5_set 24 = .ok (.if_icmp .le 6, 3) := by decide +kernel
theorem dX5_set_27 : decode cX5_set 27 = .ok (.bipush (-2), 2) := by decide +kernel
theorem dX5_set_29 : decode cX5_set 29 = .ok (.ireturn, 1) := by decide +kernel
theorem dX5_set_30 : decode cX5_set 30 = .ok (.aload_n 0, 1) := by decide +kernel
theorem dX5_set_31 : decode cX5_set 31 = .ok (.getfield 12, 3) := by decide +kernel
theorem dX5_set_34 : decode cX5_set 34 = .ok (.getfield 62, 3) := by decide +kernel
theorem dX5_set_37 : decode cX5_set 37 = .ok (.iload_n 1, 1) := by decide +kernel
theorem dX5_set_38 : decode cX5_set 38 = .ok (.iaload, 1) := by decide +kernel
theorem dX5_set_39 : decode cX5_set 39 = .ok (.istore_n 3, 1) := by decide +kernel
theorem dX5_set_40 : decode cX5_set 40 = .ok (.iload_n 2, 1) := by decide +kernel
theorem dX5_set_41 : decode cX5_set 41 = .ok (.iload_n 3, 1) := by decide +kernel
theorem dX5_set_42 : decode cX5_set 42 = .ok (.if_icmp .ne 6, 3) := by decide +kernel
theorem dX5_set_45 : decode cX5_set 45 = .ok (.bipush (-5), 2) := by decide +kernel
theorem dX5_set_47 : decode cX5_set 47 = .ok (.ireturn, 1) := by decide +kernel
theorem dX5_set_48 : decode cX5_set 48 = .ok (.aload_n 0, 1) := by decide +kernel
theorem dX5_set_49 : decode cX5_set 49 = .ok (.getfield 25, 3) := by decide +kernel
theorem dX5_set_52 : decode cX5_set 52 = .ok (.aload_n 0, 1) := by decide +kernel
theorem dX5_set_53 : decode cX5_set 53 = .ok (.getfield 12, 3) := by decide +kernel
theorem dX5_set_56 : decode cX5_set 56 = .ok (.invokevirtual 51, 3) := by decide +kernel
theorem dX5_set_59 : decode cX5_set 59 = .ok (.aload_n 0, 1) := by decide +kernel
theorem dX5_set_60 : decode cX5_set 60 = .ok (.getfield 12, 3) := by decide +kernel
theorem dX5_set_63 : decode cX5_set 63 = .ok (.getfield 62, 3) := by decide +kernel
theorem dX5_set_66 : decode cX5_set 66 = .ok (.iload_n 1, 1) := by decide +kernel
theorem dX5_set_67 : decode cX5_set 67 = .ok (.iload_n 2, 1) := by decide +kernel
theorem dX5_set_68 : decode cX5_set 68 = .ok (.iastore, 1) := by decide +kernel
theorem dX5_set_69 : decode cX5_set 69 = .ok (.iload_n 3, 1) := by decide +kernel
theorem dX5_set_70 : decode cX5_set 70 = .ok (.ireturn, 1) := by decide +kernel
theorem dX5_issue_0 : decode cX5_issue 0 = .ok (.aload_n 0, 1) := by decide +kernel
theorem dX5_issue_1 : decode cX5_issue 1 = .ok (.getfield 12, 3) := by decide +kernel
theorem dX5_issue_4 : decode cX5_issue 4 = .ok (.iload_n 1, 1) := by decide +kernel
theorem dX5_issue_5 : decode cX5_issue 5 = .ok (.invokevirtual 65, 3) := by decide +kernel
theorem dX5_issue_8 : decode cX5_issue 8 = .ok (.astore_n 3, 1) := by decide +kernel
theorem dX5_issue_9 : decode cX5_issue 9 = .ok (.aload_n 3, 1) := by decide +kernel
theorem dX5_issue_10 : decode cX5_issue 10 = .ok (.ifnonnull 5, 3) := by decide +kernel
theorem dX5_issue_13 : decode cX5_issue 13 = .ok (.iconst (-1), 1) := by decide +kernel
theorem dX5_issue_14 : decode cX5_issue 14 = .ok (.ireturn, 1) := by decide +kernel
theorem dX5_issue_15 : decode cX5_issue 15 = .ok (.iload_n 2, 1) := by decide +kernel
theorem dX5_issue_16 : decode cX5_issue 16 = .ok (.invokestatic 69, 3) := by decide +kernel
theorem dX5_issue_19 : decode cX5_issue 19 = .ok (.ifCond .ne 6, 3) := by decide +kernel
theorem dX5_issue_22 : decode cX5_issue 22 = .ok (.bipush (-2), 2) := by decide +kernel
theorem dX5_issue_24 : decode cX5_issue 24 = .ok (.ireturn, 1) := by decide +kernel
theorem dX5_issue_25 : decode cX5_issue 25 = .ok (.aload_n 0, 1) := by decide +kernel
theorem dX5_issue_26 : decode cX5_issue 26 = .ok (.getfield 25, 3) := by decide +kernel
theorem dX5_issue_29 : decode cX5_issue 29 = .ok (.aload_n 0, 1) := by decide +kernel
theorem dX5_issue_30 : decode cX5_issue 30 = .ok (.getfield 12, 3) := by decide +kernel
theorem dX5_issue_33 : decode cX5_issue 33 = .ok (.invokevirtual 51, 3) := by decide +kernel
theorem dX5_issue_36 : decode cX5_issue 36 = .ok (.aload_n 0, 1) := by decide +kernel
theorem dX5_issue_37 : decode cX5_issue 37 = .ok (.getfield 12, 3) := by decide +kernel
theorem dX5_issue_40 : decode cX5_issue 40 = .ok (.invokevirtual 73, 3) := by decide +kernel
theorem dX5_issue_43 : decode cX5_issue 43 = .ok (.istore 4, 2) := by decide +kernel
theorem dX5_issue_45 : decode cX5_issue 45 = .ok (.aload_n 3, 1) := by decide +kernel
theorem dX5_issue_46 : decode cX5_issue 46 = .ok (.getfield 77, 3) := by decide +kernel
theorem dX5_issue_49 : decode cX5_issue 49 = .ok (.iload 4, 2) := by decide +kernel
theorem dX5_issue_51 : decode cX5_issue 51 = .ok (.dup2, 1) := by decide +kernel
theorem dX5_issue_52 : decode cX5_issue 52 = .ok (.iaload, 1) := by decide +kernel
theorem dX5_issue_53 : decode cX5_issue 53 = .ok (.iload_n 2, 1) := by decide +kernel
theorem dX5_issue_54 : decode cX5_issue 54 = .ok (.iadd, 1) := by decide +kernel
theorem dX5_issue_55 : decode cX5_issue 55 = .ok (.iastore, 1) := by decide +kernel
theorem dX5_issue_56 : decode cX5_issue 56 = .ok (.aload_n 0, 1) := by decide +kernel
theorem dX5_issue_57 : decode cX5_issue 57 = .ok (.getfield 12, 3) := by decide +kernel
theorem dX5_issue_60 : decode cX5_issue 60 = .ok (.getfield 82, 3) := by decide +kernel
theorem dX5_issue_63 : decode cX5_issue 63 = .ok (.iload 4, 2) := by decide +kernel
theorem dX5_issue_65 : decode cX5_issue 65 = .ok (.dup2, 1) := by decide +kernel
theorem dX5_issue_66 : decode cX5_issue 66 = .ok (.iaload, 1) := by decide +kernel
theorem dX5_issue_67 : decode cX5_issue 67 = .ok (.iload_n 2, 1) := by decide +kernel
theorem dX5_issue_68 : decode cX5_issue 68 = .ok (.iadd, 1) := by decide +kernel
theorem dX5_issue_69 : decode cX5_issue 69 = .ok (.iastore, 1) := by decide +kernel
theorem dX5_issue_70 : decode cX5_issue 70 = .ok (.aload_n 3, 1) := by decide +kernel
theorem dX5_issue_71 : decode cX5_issue 71 = .ok (.getfield 77, 3) := by decide +kernel
theorem dX5_issue_74 : decode cX5_issue 74 = .ok (.iload 4, 2) := by decide +kernel
theorem dX5_issue_76 : decode cX5_issue 76 = .ok (.iaload, 1) := by decide +kernel
theorem dX5_issue_77 : decode cX5_issue 77 = .ok (.ireturn, 1) := by decide +kernel
theorem dX5_issueOffsets_0 : decode cX5_issueOffsets 0 = .ok (.aload_n 0, 1) := by decide +kernel
theorem dX5_issueOffsets_1 : decode cX5_issueOffsets 1 = .ok (.getfield 12, 3) := by decide +kernel
theorem dX5_issueOffsets_4 : decode cX5_issueOffsets 4 = .ok (.iload_n 1, 1) := by decide +kernel
theorem dX5_issueOffsets_5 : decode cX5_issueOffsets 5 = .ok (.invokevirtual 65, 3) := by decide +kernel
theorem dX5_issueOffsets_8 : decode cX5_issueOffsets 8 = .ok (.astore 4, 2) := by decide +kernel
theorem dX5_issueOffsets_10 : decode cX5_issueOffsets 10 = .ok (.aload 4, 2) := by decide +kernel
theorem dX5_issueOffsets_12 : decode cX5_issueOffsets 12 = .ok (.ifnull 10, 3) := by decide +kernel
theorem dX5_issueOffsets_15 : decode cX5_issueOffsets 15 = .ok (.iload_n 2, 1) := by decide +kernel
theorem dX5_issueOffsets_16 : decode cX5_issueOffsets 16 = .ok (.invokestatic 85, 3) := by decide +kernel
theorem dX5_issueOffsets_19 : decode cX5_issueOffsets 19 = .ok (.ifCond .ne 5, 3) := by decide +kernel
theorem dX5_issueOffsets_22 : decode cX5_issueOffsets 22 = .ok (.iconst (-1), 1) := by decide +kernel
theorem dX5_issueOffsets_23 : decode cX5_issueOffsets 23 = .ok (.ireturn, 1) := by decide +kernel
theorem dX5_issueOffsets_24 : decode cX5_issueOffsets 24 = .ok (.iload_n 3, 1) := by decide +kernel
theorem dX5_issueOffsets_25 : decode cX5_issueOffsets 25 = .ok (.invokestatic 69, 3) := by decide +kernel
theorem dX5_issueOffsets_28 : decode cX5_issueOffsets 28 = .ok (.ifCond .ne 6, 3) := by decide +kernel
theorem dX5_issueOffsets_31 : decode cX5_issueOffsets 31 = .ok (.bipush (-2), 2) := by decide +kernel
theorem dX5_issueOffsets_33 : decode cX5_issueOffsets 33 = .ok (.ireturn, 1) := by decide +kernel
theorem dX5_issueOffsets_34 : decode cX5_issueOffsets 34 = .ok (.aload_n 0, 1) := by decide +kernel
theorem dX5_issueOffsets_35 : decode cX5_issueOffsets 35 = .ok (.getfield 25, 3) := by decide +kernel
theorem dX5_issueOffsets_38 : decode cX5_issueOffsets 38 = .ok (.aload_n 0, 1) := by decide +kernel
theorem dX5_issueOffsets_39 : decode cX5_issueOffsets 39 = .ok (.getfield 12, 3) := by decide +kernel
theorem dX5_issueOffsets_42 : decode cX5_issueOffsets 42 = .ok (.invokevirtual 51, 3) := by decide +kernel
theorem dX5_issueOffsets_45 : decode cX5_issueOffsets 45 = .ok (.aload 4, 2) := by decide +kernel
theorem dX5_issueOffsets_47 : decode cX5_issueOffsets 47 = .ok (.getfield 88, 3) := by decide +kernel
theorem dX5_issueOffsets_50 : decode cX5_issueOffsets 50 = .ok (.iload_n 2, 1) := by decide +kernel
theorem dX5_issueOffsets_51 : decode cX5_issueOffsets 51 = .ok (.dup2, 1) := by decide +kernel
theorem dX5_issueOffsets_52 : decode cX5_issueOffsets 52 = .ok (.iaload, 1) := by decide +kernel
theorem dX5_issueOffsets_53 : decode cX5_issueOffsets 53 = .ok (.iload_n 3, 1) := by decide +kernel
theorem dX5_issueOffsets_54 : decode cX5_issueOffsets 54 = .ok (.iadd, 1) := by decide +kernel
theorem dX5_issueOffsets_55 : decode cX5_issueOffsets 55 = .ok (.iastore, 1) := by decide +kernel
theorem dX5_issueOffsets_56 : decode cX5_issueOffsets 56 = .ok (.aload_n 0, 1) := by decide +kernel
theorem dX5_issueOffsets_57 : decode cX5_issueOffsets 57 = .ok (.getfield 12, 3) := by decide +kernel
theorem dX5_issueOffsets_60 : decode cX5_issueOffsets 60 = .ok (.getfield 91, 3) := by decide +kernel
theorem dX5_issueOffsets_63 : decode cX5_issueOffsets 63 = .ok (.iload_n 2, 1) := by decide +kernel
theorem dX5_issueOffsets_64 : decode cX5_issueOffsets 64 = .ok (.dup2, 1) := by decide +kernel
theorem dX5_issueOffsets_65 : decode cX5_issueOffsets 65 = .ok (.iaload, 1) := by decide +kernel
theorem dX5_issueOffsets_66 : decode cX5_issueOffsets 66 = .ok (.iload_n 3, 1) := by decide +kernel
theorem dX5_issueOffsets_67 : decode cX5_issueOffsets 67 = .ok (.iadd, 1) := by decide +kernel
theorem dX5_issueOffsets_68 : decode cX5_issueOffsets 68 = .ok (.iastore, 1) := by decide +kernel
theorem dX5_issueOffsets_69 : decode cX5_issueOffsets 69 = .ok (.aload 4, 2) := by decide +kernel
theorem dX5_issueOffsets_71 : decode cX5_issueOffsets 71 = .ok (.getfield 88, 3) := by decide +kernel
theorem dX5_issueOffsets_74 : decode cX5_issueOffsets 74 = .ok (.iload_n 2, 1) := by decide +kernel
theorem dX5_issueOffsets_75 : decode cX5_issueOffsets 75 = .ok (.iaload, 1) := by decide +kernel
theorem dX5_issueOffsets_76 : decode cX5_issueOffsets 76 = .ok (.ireturn, 1) := by decide +kernel
theorem dX5_transfer_0 : decode cX5_transfer 0 = .ok (.aload_n 0, 1) := by decide +kernel
theorem dX5_transfer_1 : decode cX5_transfer 1 = .ok (.getfield 12, 3) := by decide +kernel
theorem dX5_transfer_4 : decode cX5_transfer 4 = .ok (.iload_n 1, 1) := by decide +kernel
theorem dX5_transfer_5 : decode cX5_transfer 5 = .ok (.iload_n 2, 1) := by decide +kernel
theorem dX5_transfer_6 : decode cX5_transfer 6 = .ok (.iload_n 3, 1) := by decide +kernel
theorem dX5_transfer_7 : decode cX5_transfer 7 = .ok (.iload 4, 2) := by decide +kernel
theorem dX5_transfer_9 : decode cX5_transfer 9 = .ok (.invokevirtual 94, 3) := by decide +kernel
theorem dX5_transfer_12 : decode cX5_transfer 12 = .ok (.istore 5, 2) := by decide +kernel
theorem dX5_transfer_14 : decode cX5_transfer 14 = .ok (.iload 5, 2) := by decide +kernel
theorem dX5_transfer_16 : decode cX5_transfer 16 = .ok (.ifCond .eq 6, 3) := by decide +kernel
theorem dX5_transfer_19 : decode cX5_transfer 19 = .ok (.iload 5, 2) := by decide +kernel
theorem dX5_transfer_21 : decode cX5_transfer 21 = .ok (.ireturn, 1) := by decide +kernel
theorem dX5_transfer_22 : decode cX5_transfer 22 = .ok (.aload_n 0, 1) := by decide +kernel
theorem dX5_transfer_23 : decode cX5_transfer 23 = .ok (.getfield 25, 3) := by decide +kernel
theorem dX5_transfer_26 : decode cX5_transfer 26 = .ok (.aload_n 0, 1) := by decide +kernel
theorem dX5_transfer_27 : decode cX5_transfer 27 = .ok (.getfield 12, 3) := by decide +kernel
theorem dX5_transfer_30 : decode cX5_transfer 30 = .ok (.invokevirtual 51, 3) := by decide +kernel
theorem dX5_transfer_33 : decode cX5_transfer 33 = .ok (.aload_n 0, 1) := by decide +kernel
theorem dX5_transfer_34 : decode cX5_transfer 34 = .ok (.getfield 12, 3) := by decide +kernel
theorem dX5_transfer_37 : decode cX5_transfer 37 = .ok (.iload_n 1, 1) := by decide +kernel
theorem dX5_transfer_38 : decode cX5_transfer 38 = .ok (.iload_n 2, 1) := by decide +kernel
theorem dX5_transfer_39 : decode cX5_transfer 39 = .ok (.iload_n 3, 1) := by decide +kernel
theorem dX5_transfer_40 : decode cX5_transfer 40 = .ok (.iload 4, 2) := by decide +kernel
theorem dX5_transfer_42 : decode cX5_transfer 42 = .ok (.invokevirtual 98, 3) := by decide +kernel
theorem dX5_transfer_45 : decode cX5_transfer 45 = .ok (.ireturn, 1) := by decide +kernel
theorem dX5_transferOffsets_0 : decode cX5_transferOffsets 0 = .ok (.aload_n 0, 1) := by decide +kernel
theorem dX5_transferOffsets_1 : decode cX5_transferOffsets 1 = .ok (.getfield 12, 3) := by decide +kernel
theorem dX5_transferOffsets_4 : decode cX5_transferOffsets 4 = .ok (.iload_n 1, 1) := by decide +kernel
theorem dX5_transferOffsets_5 : decode cX5_transferOffsets 5 = .ok (.invokevirtual 65, 3) := by decide +kernel
theorem dX5_transferOffsets_8 : decode cX5_transferOffsets 8 = .ok (.astore 5, 2) := by decide +kernel
theorem dX5_transferOffsets_10 : decode cX5_transferOffsets 10 = .ok (.aload_n 0, 1) := by decide +kernel
theorem dX5_transferOffsets_11 : decode cX5_transferOffsets 11 = .ok (.getfield 12, 3) := by decide +kernel
theorem dX5_transferOffsets_14 : decode cX5_transferOffsets 14 = .ok (.iload_n 2, 1) := by decide +kernel
theorem dX5_transferOffsets_15 : decode cX5_transferOffsets 15 = .ok (.invokevirtual 65, 3) := by decide +kernel
theorem dX5_transferOffsets_18 : decode cX5_transferOffsets 18 = .ok (.astore 6, 2) := by decide +kernel
theorem dX5_transferOffsets_20 : decode cX5_transferOffsets 20 = .ok (.aload 5, 2) := by decide +kernel
theorem dX5_transferOffsets_22 : decode cX5_transferOffsets 22 = .ok (.ifnull 15, 3) := by decide +kernel
theorem dX5_transferOffsets_25 : decode cX5_transferOffsets 25 = .ok (.aload 6, 2) := by decide +kernel
theorem dX5_transferOffsets_27 : decode cX5_transferOffsets 27 = .ok (.ifnull 10, 3) := by decide +kernel
theorem dX5_transferOffsets_30 : decode cX5_transferOffsets 30 = .ok (.iload_n 3, 1) := by decide +kernel
theorem dX5_transferOffsets_31 : decode cX5_transferOffsets 31 = .ok (.invokestatic 85, 3) := by decide +kernel
theorem dX5_transferOffsets_34 : decode cX5_transferOffsets 34 = .ok (.ifCond .ne 5, 3) := by decide +kernel
theorem dX5_transferOffsets_37 : decode cX5_transferOffsets 37 = .ok (.iconst (-1), 1) := by decide +kernel
theorem dX5_transferOffsets_38 : decode cX5_transferOffsets 38 = .ok (.ireturn, 1) := by decide +kernel
theorem dX5_transferOffsets_39 : decode cX5_transferOffsets 39 = .ok (.iload 4, 2) := by decide +kernel
theorem dX5_transferOffsets_41 : decode cX5_transferOffsets 41 = .ok (.invokestatic 69, 3) := by decide +kernel
theorem dX5_transferOffsets_44 : decode cX5_transferOffsets 44 = .ok (.ifCond .eq 8, 3) := by decide +kernel
theorem dX5_transferOffsets_47 : decode cX5_transferOffsets 47 = .ok (.iload_n 1, 1) := by decide +kernel
theorem dX5_transferOffsets_48 : decode cX5_transferOffsets 48 = .ok (.iload_n 2, 1) := by decide +kernel
theorem dX5_transferOffsets_49 : decode cX5_transferOffsets 49 = .ok (.if_icmp .ne 6, 3) := by decide +kernel
theorem dX5_transferOffsets_52 : decode cX5_transferOffsets 52 = .ok (.bipush (-2), 2) := by decide +kernel
theorem dX5_transferOffsets_54 : decode cX5_transferOffsets 54 = .ok (.ireturn, 1) := by decide +kernel
theorem dX5_transferOffsets_55 : decode cX5_transferOffsets 55 = .ok (.aload 5, 2) := by decide +kernel
theorem dX5_transferOffsets_57 : decode cX5_transferOffsets 57 = .ok (.getfield 88, 3) := by decide +kernel
theorem dX5_transferOffsets_60 : decode cX5_transferOffsets 60 = .ok (.iload_n 3, 1) := by decide +kernel
theorem dX5_transferOffsets_61 : decode cX5_transferOffsets 61 = .ok (.iaload, 1) := by decide +kernel
theorem dX5_transferOffsets_62 : decode cX5_transferOffsets 62 = .ok (.iload 4, 2) := by decide +kernel
theorem dX5_transferOffsets_64 : decode cX5_transferOffsets 64 = .ok (.if_icmp .ge 6, 3) := by decide +kernel
theorem dX5_transferOffsets_67 : decode cX5_transferOffsets 67 = .ok (.bipush (-4), 2) := by decide +kernel
theorem dX5_transferOffsets_69 : decode cX5_transferOffsets 69 = .ok (.ireturn, 1) := by decide +kernel
theorem dX5_transferOffsets_70 : decode cX5_transferOffsets 70 = .ok (.aload_n 0, 1) := by decide +kernel
theorem dX5_transferOffsets_71 : decode cX5_transferOffsets 71 = .ok (.getfield 25, 3) := by decide +kernel
theorem dX5_transferOffsets_74 : decode cX5_transferOffsets 74 = .ok (.aload_n 0, 1) := by decide +kernel
theorem dX5_transferOffsets_75 : decode cX5_transferOffsets 75 = .ok (.getfield 12, 3) := by decide +kernel
theorem dX5_transferOffsets_78 : decode cX5_transferOffsets 78 = .ok (.invokevirtual 51, 3) := by decide +kernel
theorem dX5_transferOffsets_81 : decode cX5_transferOffsets 81 = .ok (.aload 5, 2) := by decide +kernel
theorem dX5_transferOffsets_83 : decode cX5_transferOffsets 83 = .ok (.getfield 88, 3) := by decide +kernel
theorem dX5_transferOffsets_86 : decode cX5_transferOffsets 86 = .ok (.iload_n 3, 1) := by decide +kernel
theorem dX5_transferOffsets_87 : decode cX5_transferOffsets 87 = .ok (.dup2, 1) := by decide +kernel
theorem dX5_transferOffsets_88 : decode cX5_transferOffsets 88 = .ok (.iaload, 1) := by decide +kernel
theorem dX5_transferOffsets_89 : decode cX5_transferOffsets 89 = .ok (.iload 4, 2) := by decide +kernel
theorem dX5_transferOffsets_91 : decode cX5_transferOffsets 91 = .ok (.isub, 1) := by decide +kernel
theorem dX5_transferOffsets_92 : decode cX5_transferOffsets 92 = .ok (.iastore, 1) := by decide +kernel
theorem dX5_transferOffsets_93 : decode cX5_transferOffsets 93 = .ok (.aload 6, 2) := by decide +kernel
theorem dX5_transferOffsets_95 : decode cX5_transferOffsets 95 = .ok (.getfield 88, 3) := by decide +kernel
theorem dX5_transferOffsets_98 : decode cX5_transferOffsets 98 = .ok (.iload_n 3, 1) := by decide +kernel
theorem dX5_transferOffsets_99 : decode cX5_transferOffsets 99 = .ok (.dup2, 1) := by decide +kernel
theorem dX5_transferOffsets_100 : decode cX5_transferOffsets 100 = .ok (.iaload, 1) := by decide +kernel
theorem dX5_transferOffsets_101 : decode cX5_transferOffsets 101 = .ok (.iload 4, 2) := by decide +kernel
theorem dX5_transferOffsets_103 : decode cX5_transferOffsets 103 = .ok (.iadd, 1) := by decide +kernel
theorem dX5_transferOffsets_104 : decode cX5_transferOffsets 104 = .ok (.iastore, 1) := by decide +kernel
theorem dX5_transferOffsets_105 : decode cX5_transferOffsets 105 = .ok (.aload 5, 2) := by decide +kernel
theorem dX5_transferOffsets_107 : decode cX5_transferOffsets 107 = .ok (.getfield 88, 3) := by decide +kernel
theorem dX5_transferOffsets_110 : decode cX5_transferOffsets 110 = .ok (.iload_n 3, 1) := by decide +kernel
theorem dX5_transferOffsets_111 : decode cX5_transferOffsets 111 = .ok (.iaload, 1) := by decide +kernel
theorem dX5_transferOffsets_112 : decode cX5_transferOffsets 112 = .ok (.ireturn, 1) := by decide +kernel
theorem dX5_cancel_0 : decode cX5_cancel 0 = .ok (.aload_n 0, 1) := by decide +kernel
theorem dX5_cancel_1 : decode cX5_cancel 1 = .ok (.getfield 12, 3) := by decide +kernel
theorem dX5_cancel_4 : decode cX5_cancel 4 = .ok (.iload_n 1, 1) := by decide +kernel
theorem dX5_cancel_5 : decode cX5_cancel 5 = .ok (.invokevirtual 65, 3) := by decide +kernel
theorem dX5_cancel_8 : decode cX5_cancel 8 = .ok (.astore 4, 2) := by decide +kernel
theorem dX5_cancel_10 : decode cX5_cancel 10 = .ok (.aload 4, 2) := by decide +kernel
theorem dX5_cancel_12 : decode cX5_cancel 12 = .ok (.ifnull 10, 3) := by decide +kernel
theorem dX5_cancel_15 : decode cX5_cancel 15 = .ok (.iload_n 2, 1) := by decide +kernel
theorem dX5_cancel_16 : decode cX5_cancel 16 = .ok (.invokestatic 101, 3) := by decide +kernel
theorem dX5_cancel_19 : decode cX5_cancel 19 = .ok (.ifCond .ne 5, 3) := by decide +kernel
theorem dX5_cancel_22 : decode cX5_cancel 22 = .ok (.iconst (-1), 1) := by decide +kernel
theorem dX5_cancel_23 : decode cX5_cancel 23 = .ok (.ireturn, 1) := by decide +kernel
theorem dX5_cancel_24 : decode cX5_cancel 24 = .ok (.iload_n 3, 1) := by decide +kernel
theorem dX5_cancel_25 : decode cX5_cancel 25 = .ok (.invokestatic 69, 3) := by decide +kernel
theorem dX5_cancel_28 : decode cX5_cancel 28 = .ok (.ifCond .ne 6, 3) := by decide +kernel
theorem dX5_cancel_31 : decode cX5_cancel 31 = .ok (.bipush (-2), 2) := by decide +kernel
theorem dX5_cancel_33 : decode cX5_cancel 33 = .ok (.ireturn, 1) := by decide +kernel
theorem dX5_cancel_34 : decode cX5_cancel 34 = .ok (.aload 4, 2) := by decide +kernel
theorem dX5_cancel_36 : decode cX5_cancel 36 = .ok (.getfield 77, 3) := by decide +kernel
theorem dX5_cancel_39 : decode cX5_cancel 39 = .ok (.iload_n 2, 1) := by decide +kernel
theorem dX5_cancel_40 : decode cX5_cancel 40 = .ok (.iaload, 1) := by decide +kernel
theorem dX5_cancel_41 : decode cX5_cancel 41 = .ok (.iload_n 3, 1) := by decide +kernel
theorem dX5_cancel_42 : decode cX5_cancel 42 = .ok (.if_icmp .ge 6, 3) := by decide +kernel
theorem dX5_cancel_45 : decode cX5_cancel 45 = .ok (.bipush (-4), 2) := by decide +kernel
theorem dX5_cancel_47 : decode cX5_cancel 47 = .ok (.ireturn, 1) := by decide +kernel
theorem dX5_cancel_48 : decode cX5_cancel 48 = .ok (.aload_n 0, 1) := by decide +kernel
theorem dX5_cancel_49 : decode cX5_cancel 49 = .ok (.getfield 25, 3) := by decide +kernel
theorem dX5_cancel_52 : decode cX5_cancel 52 = .ok (.aload_n 0, 1) := by decide +kernel
theorem dX5_cancel_53 : decode cX5_cancel 53 = .ok (.getfield 12, 3) := by decide +kernel
theorem dX5_cancel_56 : decode cX5_cancel 56 = .ok (.invokevirtual 51, 3) := by decide +kernel
theorem dX5_cancel_59 : decode cX5_cancel 59 = .ok (.aload 4, 2) := by decide +kernel
theorem dX5_cancel_61 : decode cX5_cancel 61 = .ok (.getfield 77, 3) := by decide +kernel
theorem dX5_cancel_64 : decode cX5_cancel 64 = .ok (.iload_n 2, 1) := by decide +kernel
theorem dX5_cancel_65 : decode cX5_cancel 65 = .ok (.dup2, 1) := by decide +kernel
theorem dX5_cancel_66 : decode cX5_cancel 66 = .ok (.iaload, 1) := by decide +kernel
theorem dX5_cancel_67 : decode cX5_cancel 67 = .ok (.iload_n 3, 1) := by decide +kernel
theorem dX5_cancel_68 : decode cX5_cancel 68 = .ok (.isub, 1) := by decide +kernel
theorem dX5_cancel_69 : decode cX5_cancel 69 = .ok (.iastore, 1) := by decide +kernel
theorem dX5_cancel_70 : decode cX5_cancel 70 = .ok (.aload_n 0, 1) := by decide +kernel
theorem dX5_cancel_71 : decode cX5_cancel 71 = .ok (.getfield 12, 3) := by decide +kernel
theorem dX5_cancel_74 : decode cX5_cancel 74 = .ok (.getfield 104, 3) := by decide +kernel
theorem dX5_cancel_77 : decode cX5_cancel 77 = .ok (.iload_n 2, 1) := by decide +kernel
theorem dX5_cancel_78 : decode cX5_cancel 78 = .ok (.dup2, 1) := by decide +kernel
theorem dX5_cancel_79 : decode cX5_cancel 79 = .ok (.iaload, 1) := by decide +kernel
theorem dX5_cancel_80 : decode cX5_cancel 80 = .ok (.iload_n 3, 1) := by decide +kernel
theorem dX5_cancel_81 : decode cX5_cancel 81 = .ok (.iadd, 1) := by decide +kernel
theorem dX5_cancel_82 : decode cX5_cancel 82 = .ok (.iastore, 1) := by decide +kernel
theorem dX5_cancel_83 : decode cX5_cancel 83 = .ok (.aload 4, 2) := by decide +kernel
theorem dX5_cancel_85 : decode cX5_cancel 85 = .ok (.getfield 77, 3) := by decide +kernel
theorem dX5_cancel_88 : decode cX5_cancel 88 = .ok (.iload_n 2, 1) := by decide +kernel
theorem dX5_cancel_89 : decode cX5_cancel 89 = .ok (.iaload, 1) := by decide +kernel
theorem dX5_cancel_90 : decode cX5_cancel 90 = .ok (.ireturn, 1) := by decide +kernel
theorem dX5_report_0 : decode cX5_report 0 = .ok (.aload_n 0, 1) := by decide +kernel
theorem dX5_report_1 : decode cX5_report 1 = .ok (.getfield 12, 3) := by decide +kernel
theorem dX5_report_4 : decode cX5_report 4 = .ok (.iload_n 1, 1) := by decide +kernel
theorem dX5_report_5 : decode cX5_report 5 = .ok (.invokevirtual 65, 3) := by decide +kernel
theorem dX5_report_8 : decode cX5_report 8 = .ok (.astore_n 3, 1) := by decide +kernel
theorem dX5_report_9 : decode cX5_report 9 = .ok (.aload_n 3, 1) := by decide +kernel
theorem dX5_report_10 : decode cX5_report 10 = .ok (.ifnonnull 5, 3) := by decide +kernel
theorem dX5_report_13 : decode cX5_report 13 = .ok (.iconst (-1), 1) := by decide +kernel
theorem dX5_report_14 : decode cX5_report 14 = .ok (.ireturn, 1) := by decide +kernel
theorem dX5_report_15 : decode cX5_report 15 = .ok (.iload_n 2, 1) := by decide +kernel
theorem dX5_report_16 : decode cX5_report 16 = .ok (.invokestatic 69, 3) := by decide +kernel
theorem dX5_report_19 : decode cX5_report 19 = .ok (.ifCond .ne 6, 3) := by decide +kernel
theorem dX5_report_22 : decode cX5_report 22 = .ok (.bipush (-2), 2) := by decide +kernel
theorem dX5_report_24 : decode cX5_report 24 = .ok (.ireturn, 1) := by decide +kernel
theorem dX5_report_25 : decode cX5_report 25 = .ok (.aload_n 3, 1) := by decide +kernel
theorem dX5_report_26 : decode cX5_report 26 = .ok (.getfield 107, 3) := by decide +kernel
theorem dX5_report_29 : decode cX5_report 29 = .ok (.aload_n 3, 1) := by decide +kernel
theorem dX5_report_30 : decode cX5_report 30 = .ok (.getfield 110, 3) := by decide +kernel
theorem dX5_report_33 : decode cX5_report 33 = .ok (.iadd, 1) := by decide +kernel
theorem dX5_report_34 : decode cX5_report 34 = .ok (.iload_n 2, 1) := by decide +kernel
theorem dX5_report_35 : decode cX5_report 35 = .ok (.iadd, 1) := by decide +kernel
theorem dX5_report_36 : decode cX5_report 36 = .ok (.sipush 9999, 3) := by decide +kernel
theorem dX5_report_39 : decode cX5_report 39 = .ok (.if_icmp .le 6, 3) := by decide +kernel
theorem dX5_report_42 : decode cX5_report 42 = .ok (.bipush (-3), 2) := by decide +kernel
theorem dX5_report_44 : decode cX5_report 44 = .ok (.ireturn, 1) := by decide +kernel
theorem dX5_report_45 : decode cX5_report 45 = .ok (.aload_n 0, 1) := by decide +kernel
theorem dX5_report_46 : decode cX5_report 46 = .ok (.getfield 25, 3) := by decide +kernel
theorem dX5_report_49 : decode cX5_report 49 = .ok (.aload_n 0, 1) := by decide +kernel
theorem dX5_report_50 : decode cX5_report 50 = .ok (.getfield 12, 3) := by decide +kernel
theorem dX5_report_53 : decode cX5_report 53 = .ok (.invokevirtual 51, 3) := by decide +kernel
theorem dX5_report_56 : decode cX5_report 56 = .ok (.aload_n 3, 1) := by decide +kernel
theorem dX5_report_57 : decode cX5_report 57 = .ok (.dup, 1) := by decide +kernel
theorem dX5_report_58 : decode cX5_report 58 = .ok (.getfield 107, 3) := by decide +kernel
theorem dX5_report_61 : decode cX5_report 61 = .ok (.iload_n 2, 1) := by decide +kernel
theorem dX5_report_62 : decode cX5_report 62 = .ok (.iadd, 1) := by decide +kernel
theorem dX5_report_63 : decode cX5_report 63 = .ok (.putfield 107, 3) := by decide +kernel
theorem dX5_report_66 : decode cX5_report 66 = .ok (.aload_n 3, 1) := by decide +kernel
theorem dX5_report_67 : decode cX5_report 67 = .ok (.getfield 107, 3) := by decide +kernel
theorem dX5_report_70 : decode cX5_report 70 = .ok (.ireturn, 1) := by decide +kernel
theorem dX5_verify_0 : decode cX5_verify 0 = .ok (.aload_n 0, 1) := by decide +kernel
theorem dX5_verify_1 : decode cX5_verify 1 = .ok (.getfield 12, 3) := by decide +kernel
theorem dX5_verify_4 : decode cX5_verify 4 = .ok (.iload_n 1, 1) := by decide +kernel
theorem dX5_verify_5 : decode cX5_verify 5 = .ok (.invokevirtual 65, 3) := by decide +kernel
theorem dX5_verify_8 : decode cX5_verify 8 = .ok (.astore_n 2, 1) := by decide +kernel
theorem dX5_verify_9 : decode cX5_verify 9 = .ok (.aload_n 2, 1) := by decide +kernel
theorem dX5_verify_10 : decode cX5_verify 10 = .ok (.ifnonnull 5, 3) := by decide +kernel
theorem dX5_verify_13 : decode cX5_verify 13 = .ok (.iconst (-1), 1) := by decide +kernel
theorem dX5_verify_14 : decode cX5_verify 14 = .ok (.ireturn, 1) := by decide +kernel
theorem dX5_verify_15 : decode cX5_verify 15 = .ok (.aload_n 2, 1) := by decide +kernel
theorem dX5_verify_16 : decode cX5_verify 16 = .ok (.getfield 107, 3) := by decide +kernel
theorem dX5_verify_19 : decode cX5_verify 19 = .ok (.ifCond .ne 6, 3) := by decide +kernel
theorem dX5_verify_22 : decode cX5_verify 22 = .ok (.bipush (-5), 2) := by decide +kernel
theorem dX5_verify_24 : decode cX5_verify 24 = .ok (.ireturn, 1) := by decide +kernel
theorem dX5_verify_25 : decode cX5_verify 25 = .ok (.aload_n 0, 1) := by decide +kernel
theorem dX5_verify_26 : decode cX5_verify 26 = .ok (.getfield 25, 3) := by decide +kernel
theorem dX5_verify_29 : decode cX5_verify 29 = .ok (.aload_n 0, 1) := by decide +kernel
theorem dX5_verify_30 : decode cX5_verify 30 = .ok (.getfield 12, 3) := by decide +kernel
theorem dX5_verify_33 : decode cX5_verify 33 = .ok (.invokevirtual 51, 3) := by decide +kernel
theorem dX5_verify_36 : decode cX5_verify 36 = .ok (.aload_n 2, 1) := by decide +kernel
theorem dX5_verify_37 : decode cX5_verify 37 = .ok (.dup, 1) := by decide +kernel
theorem dX5_verify_38 : decode cX5_verify 38 = .ok (.getfield 110, 3) := by decide +kernel
theorem dX5_verify_41 : decode cX5_verify 41 = .ok (.aload_n 2, 1) := by decide +kernel
theorem dX5_verify_42 : decode cX5_verify 42 = .ok (.getfield 107, 3) := by decide +kernel
theorem dX5_verify_45 : decode cX5_verify 45 = .ok (.iadd, 1) := by decide +kernel
theorem dX5_verify_46 : decode cX5_verify 46 = .ok (.putfield 110, 3) := by decide +kernel
theorem dX5_verify_49 : decode cX5_verify 49 = .ok (.aload_n 2, 1) := by decide +kernel
theorem dX5_verify_50 : decode cX5_verify 50 = .ok (.iconst 0, 1) := by decide +kernel
theorem dX5_verify_51 : decode cX5_verify 51 = .ok (.putfield 107, 3) := by decide +kernel
theorem dX5_verify_54 : decode cX5_verify 54 = .ok (.aload_n 2, 1) := by decide +kernel
theorem dX5_verify_55 : decode cX5_verify 55 = .ok (.getfield 110, 3) := by decide +kernel
theorem dX5_verify_58 : decode cX5_verify 58 = .ok (.ireturn, 1) := by decide +kernel
theorem dX5_surrender_0 : decode cX5_surrender 0 = .ok (.aload_n 0, 1) := by decide +kernel
theorem dX5_surrender_1 : decode cX5_surrender 1 = .ok (.getfield 12, 3) := by decide +kernel
theorem dX5_surrender_4 : decode cX5_surrender 4 = .ok (.iload_n 1, 1) := by decide +kernel
theorem dX5_surrender_5 : decode cX5_surrender 5 = .ok (.invokevirtual 65, 3) := by decide +kernel
theorem dX5_surrender_8 : decode cX5_surrender 8 = .ok (.astore 4, 2) := by decide +kernel
theorem dX5_surrender_10 : decode cX5_surrender 10 = .ok (.aload 4, 2) := by decide +kernel
theorem dX5_surrender_12 : decode cX5_surrender 12 = .ok (.ifnonnull 5, 3) := by decide +kernel
theorem dX5_surrender_15 : decode cX5_surrender 15 = .ok (.iconst (-1), 1) := by decide +kernel
theorem dX5_surrender_16 : decode cX5_surrender 16 = .ok (.ireturn, 1) := by decide +kernel
theorem dX5_surrender_17 : decode cX5_surrender 17 = .ok (.iload_n 2, 1) := by decide +kernel
theorem dX5_surrender_18 : decode cX5_surrender 18 = .ok (.invokestatic 69, 3) := by decide +kernel
theorem dX5_surrender_21 : decode cX5_surrender 21 = .ok (.ifCond .eq 10, 3) := by decide +kernel
theorem dX5_surrender_24 : decode cX5_surrender 24 = .ok (.iload_n 3, 1) := by decide +kernel
theorem dX5_surrender_25 : decode cX5_surrender 25 = .ok (.invokestatic 113, 3) := by decide +kernel
theorem dX5_surrender_28 : decode cX5_surrender 28 = .ok (.ifCond .ne 6, 3) := by decide +kernel
theorem dX5_surrender_31 : decode cX5_surrender 31 = .ok (.bipush (-2), 2) := by decide +kernel
theorem dX5_surrender_33 : decode cX5_surrender 33 = .ok (.ireturn, 1) := by decide +kernel
theorem dX5_surrender_34 : decode cX5_surrender 34 = .ok (.aload 4, 2) := by decide +kernel
theorem dX5_surrender_36 : decode cX5_surrender 36 = .ok (.getfield 116, 3) := by decide +kernel
theorem dX5_surrender_39 : decode cX5_surrender 39 = .ok (.iload_n 2, 1) := by decide +kernel
theorem dX5_surrender_40 : decode cX5_surrender 40 = .ok (.if_icmp .ge 6, 3) := by decide +kernel
theorem dX5_surrender_43 : decode cX5_surrender 43 = .ok (.bipush (-4), 2) := by decide +kernel
theorem dX5_surrender_45 : decode cX5_surrender 45 = .ok (.ireturn, 1) := by decide +kernel
theorem dX5_surrender_46 : decode cX5_surrender 46 = .ok (.aload_n 0, 1) := by decide +kernel
theorem dX5_surrender_47 : decode cX5_surrender 47 = .ok (.getfield 32, 3) := by decide +kernel
theorem dX5_surrender_50 : decode cX5_surrender 50 = .ok (.aload 4, 2) := by decide +kernel
theorem dX5_surrender_52 : decode cX5_surrender 52 = .ok (.aload_n 0, 1) := by decide +kernel
theorem dX5_surrender_53 : decode cX5_surrender 53 = .ok (.getfield 12, 3) := by decide +kernel
theorem dX5_surrender_56 : decode cX5_surrender 56 = .ok (.getfield 62, 3) := by decide +kernel
theorem dX5_surrender_59 : decode cX5_surrender 59 = .ok (.iload_n 2, 1) := by decide +kernel
theorem dX5_surrender_60 : decode cX5_surrender 60 = .ok (.iload_n 3, 1) := by decide +kernel
theorem dX5_surrender_61 : decode cX5_surrender 61 = .ok (.invokevirtual 119, 3) := by decide +kernel
theorem dX5_surrender_64 : decode cX5_surrender 64 = .ok (.aload_n 0, 1) := by decide +kernel
theorem dX5_surrender_65 : decode cX5_surrender 65 = .ok (.getfield 32, 3) := by decide +kernel
theorem dX5_surrender_68 : decode cX5_surrender 68 = .ok (.getfield 123, 3) := by decide +kernel
theorem dX5_surrender_71 : decode cX5_surrender 71 = .ok (.ifCond .le 6, 3) := by decide +kernel
theorem dX5_surrender_74 : decode cX5_surrender 74 = .ok (.bipush (-4), 2) := by decide +kernel
theorem dX5_surrender_76 : decode cX5_surrender 76 = .ok (.ireturn, 1) := by decide +kernel
theorem dX5_surrender_77 : decode cX5_surrender 77 = .ok (.aload_n 0, 1) := by decide +kernel
theorem dX5_surrender_78 : decode cX5_surrender 78 = .ok (.getfield 25, 3) := by decide +kernel
theorem dX5_surrender_81 : decode cX5_surrender 81 = .ok (.aload_n 0, 1) := by decide +kernel
theorem dX5_surrender_82 : decode cX5_surrender 82 = .ok (.getfield 12, 3) := by decide +kernel
theorem dX5_surrender_85 : decode cX5_surrender 85 = .ok (.invokevirtual 51, 3) := by decide +kernel
theorem dX5_surrender_88 : decode cX5_surrender 88 = .ok (.aload_n 0, 1) := by decide +kernel
theorem dX5_surrender_89 : decode cX5_surrender 89 = .ok (.getfield 12, 3) := by decide +kernel
theorem dX5_surrender_92 : decode cX5_surrender 92 = .ok (.aload 4, 2) := by decide +kernel
theorem dX5_surrender_94 : decode cX5_surrender 94 = .ok (.aload_n 0, 1) := by decide +kernel
theorem dX5_surrender_95 : decode cX5_surrender 95 = .ok (.getfield 32, 3) := by decide +kernel
theorem dX5_surrender_98 : decode cX5_surrender 98 = .ok (.invokevirtual 126, 3) := by decide +kernel
theorem dX5_surrender_101 : decode cX5_surrender 101 = .ok (.aload 4, 2) := by decide +kernel
theorem dX5_surrender_103 : decode cX5_surrender 103 = .ok (.dup, 1) := by decide +kernel
theorem dX5_surrender_104 : decode cX5_surrender 104 = .ok (.getfield 116, 3) := by decide +kernel
theorem dX5_surrender_107 : decode cX5_surrender 107 = .ok (.iload_n 2, 1) := by decide +kernel
theorem dX5_surrender_108 : decode cX5_surrender 108 = .ok (.isub, 1) := by decide +kernel
theorem dX5_surrender_109 : decode cX5_surrender 109 = .ok (.putfield 116, 3) := by decide +kernel
theorem dX5_surrender_112 : decode cX5_surrender 112 = .ok (.aload 4, 2) := by decide +kernel
theorem dX5_surrender_114 : decode cX5_surrender 114 = .ok (.dup, 1) := by decide +kernel
theorem dX5_surrender_115 : decode cX5_surrender 115 = .ok (.getfield 130, 3) := by decide +kernel
theorem dX5_surrender_118 : decode cX5_surrender 118 = .ok (.iload_n 2, 1) := by decide +kernel
theorem dX5_surrender_119 : decode cX5_surrender 119 = .ok (.iadd, 1) := by decide +kernel
theorem dX5_surrender_120 : decode cX5_surrender 120 = .ok (.putfield 130, 3) := by decide +kernel
theorem dX5_surrender_123 : decode cX5_surrender 123 = .ok (.aload 4, 2) := by decide +kernel
theorem dX5_surrender_125 : decode cX5_surrender 125 = .ok (.getfield 116, 3) := by decide +kernel
theorem dX5_surrender_128 : decode cX5_surrender 128 = .ok (.ireturn, 1) := by decide +kernel
theorem dX5_pass_0 : decode cX5_pass 0 = .ok (.iload_n 1, 1) := by decide +kernel
theorem dX5_pass_1 : decode cX5_pass 1 = .ok (.iconst 1, 1) := by decide +kernel
theorem dX5_pass_2 : decode cX5_pass 2 = .ok (.if_icmp .lt 9, 3) := by decide +kernel
theorem dX5_pass_5 : decode cX5_pass 5 = .ok (.iload_n 1, 1) := by decide +kernel
theorem dX5_pass_6 : decode cX5_pass 6 = .ok (.bipush 24, 2) := by decide +kernel
theorem dX5_pass_8 : decode cX5_pass 8 = .ok (.if_icmp .le 6, 3) := by decide +kernel
theorem dX5_pass_11 : decode cX5_pass 11 = .ok (.bipush (-2), 2) := by decide +kernel
theorem dX5_pass_13 : decode cX5_pass 13 = .ok (.ireturn, 1) := by decide +kernel
theorem dX5_pass_14 : decode cX5_pass 14 = .ok (.aload_n 0, 1) := by decide +kernel
theorem dX5_pass_15 : decode cX5_pass 15 = .ok (.getfield 12, 3) := by decide +kernel
theorem dX5_pass_18 : decode cX5_pass 18 = .ok (.getfield 133, 3) := by decide +kernel
theorem dX5_pass_21 : decode cX5_pass 21 = .ok (.iload_n 1, 1) := by decide +kernel
theorem dX5_pass_22 : decode cX5_pass 22 = .ok (.iadd, 1) := by decide +kernel
theorem dX5_pass_23 : decode cX5_pass 23 = .ok (.sipush 239, 3) := by decide +kernel
theorem dX5_pass_26 : decode cX5_pass 26 = .ok (.if_icmp .le 6, 3) := by decide +kernel
theorem dX5_pass_29 : decode cX5_pass 29 = .ok (.bipush (-4), 2) := by decide +kernel
theorem dX5_pass_31 : decode cX5_pass 31 = .ok (.ireturn, 1) := by decide +kernel
theorem dX5_pass_32 : decode cX5_pass 32 = .ok (.aload_n 0, 1) := by decide +kernel
theorem dX5_pass_33 : decode cX5_pass 33 = .ok (.getfield 25, 3) := by decide +kernel
theorem dX5_pass_36 : decode cX5_pass 36 = .ok (.aload_n 0, 1) := by decide +kernel
theorem dX5_pass_37 : decode cX5_pass 37 = .ok (.getfield 12, 3) := by decide +kernel
theorem dX5_pass_40 : decode cX5_pass 40 = .ok (.invokevirtual 51, 3) := by decide +kernel
theorem dX5_pass_43 : decode cX5_pass 43 = .ok (.iconst 0, 1) := by decide +kernel
theorem dX5_pass_44 : decode cX5_pass 44 = .ok (.istore_n 2, 1) := by decide +kernel
theorem dX5_pass_45 : decode cX5_pass 45 = .ok (.iconst 0, 1) := by decide +kernel
theorem dX5_pass_46 : decode cX5_pass 46 = .ok (.istore_n 3, 1) := by decide +kernel
theorem dX5_pass_47 : decode cX5_pass 47 = .ok (.iload_n 3, 1) := by decide +kernel
theorem dX5_pass_48 : decode cX5_pass 48 = .ok (.iload_n 1, 1) := by decide +kernel
theorem dX5_pass_49 : decode cX5_pass 49 = .ok (.if_icmp .ge 19, 3) := by decide +kernel
theorem dX5_pass_52 : decode cX5_pass 52 = .ok (.iload_n 2, 1) := by decide +kernel
theorem dX5_pass_53 : decode cX5_pass 53 = .ok (.aload_n 0, 1) := by decide +kernel
theorem dX5_pass_54 : decode cX5_pass 54 = .ok (.getfield 12, 3) := by decide +kernel
theorem dX5_pass_57 : decode cX5_pass 57 = .ok (.invokevirtual 136, 3) := by decide +kernel
theorem dX5_pass_60 : decode cX5_pass 60 = .ok (.iadd, 1) := by decide +kernel
theorem dX5_pass_61 : decode cX5_pass 61 = .ok (.istore_n 2, 1) := by decide +kernel
theorem dX5_pass_62 : decode cX5_pass 62 = .ok (.iinc 3 1, 3) := by decide +kernel
theorem dX5_pass_65 : decode cX5_pass 65 = .ok (.goto (-18), 3) := by decide +kernel
theorem dX5_pass_68 : decode cX5_pass 68 = .ok (.iload_n 2, 1) := by decide +kernel
theorem dX5_pass_69 : decode cX5_pass 69 = .ok (.ireturn, 1) := by decide +kernel
theorem dX5_undo_0 : decode cX5_undo 0 = .ok (.aload_n 0, 1) := by decide +kernel
theorem dX5_undo_1 : decode cX5_undo 1 = .ok (.getfield 25, 3) := by decide +kernel
theorem dX5_undo_4 : decode cX5_undo 4 = .ok (.getfield 172, 3) := by decide +kernel
theorem dX5_undo_7 : decode cX5_undo 7 = .ok (.ifCond .ne 6, 3) := by decide +kernel
theorem dX5_undo_10 : decode cX5_undo 10 = .ok (.bipush (-5), 2) := by decide +kernel
theorem dX5_undo_12 : decode cX5_undo 12 = .ok (.ireturn, 1) := by decide +kernel
theorem dX5_undo_13 : decode cX5_undo 13 = .ok (.aload_n 0, 1) := by decide +kernel
theorem dX5_undo_14 : decode cX5_undo 14 = .ok (.getfield 25, 3) := by decide +kernel
theorem dX5_undo_17 : decode cX5_undo 17 = .ok (.aload_n 0, 1) := by decide +kernel
theorem dX5_undo_18 : decode cX5_undo 18 = .ok (.getfield 12, 3) := by decide +kernel
theorem dX5_undo_21 : decode cX5_undo 21 = .ok (.invokevirtual 175, 3) := by decide +kernel
theorem dX5_undo_24 : decode cX5_undo 24 = .ok (.aload_n 0, 1) := by decide +kernel
theorem dX5_undo_25 : decode cX5_undo 25 = .ok (.getfield 25, 3) := by decide +kernel
theorem dX5_undo_28 : decode cX5_undo 28 = .ok (.getfield 172, 3) := by decide +kernel
theorem dX5_undo_31 : decode cX5_undo 31 = .ok (.ireturn, 1) := by decide +kernel
theorem dX5_keep_0 : decode cX5_keep 0 = .ok (.aload_n 0, 1) := by decide +kernel
theorem dX5_keep_1 : decode cX5_keep 1 = .ok (.getfield 12, 3) := by decide +kernel
theorem dX5_keep_4 : decode cX5_keep 4 = .ok (.aload_n 0, 1) := by decide +kernel
theorem dX5_keep_5 : decode cX5_keep 5 = .ok (.getfield 16, 3) := by decide +kernel
theorem dX5_keep_8 : decode cX5_keep 8 = .ok (.invokestatic 153, 3) := by decide +kernel
theorem dX5_keep_11 : decode cX5_keep 11 = .ok (.aload_n 0, 1) := by decide +kernel
theorem dX5_keep_12 : decode cX5_keep 12 = .ok (.iconst 1, 1) := by decide +kernel
theorem dX5_keep_13 : decode cX5_keep 13 = .ok (.putfield 43, 3) := by decide +kernel
theorem dX5_keep_16 : decode cX5_keep 16 = .ok (.aload_n 0, 1) := by decide +kernel
theorem dX5_keep_17 : decode cX5_keep 17 = .ok (.getfield 12, 3) := by decide +kernel
theorem dX5_keep_20 : decode cX5_keep 20 = .ok (.getfield 133, 3) := by decide +kernel
theorem dX5_keep_23 : decode cX5_keep 23 = .ok (.ireturn, 1) := by decide +kernel
theorem dX5_restore_0 : decode cX5_restore 0 = .ok (.aload_n 0, 1) := by decide +kernel
theorem dX5_restore_1 : decode cX5_restore 1 = .ok (.getfield 43, 3) := by decide +kernel
theorem dX5_restore_4 : decode cX5_restore 4 = .ok (.ifCond .ne 6, 3) := by decide +kernel
theorem dX5_restore_7 : decode cX5_restore 7 = .ok (.bipush (-5), 2) := by decide +kernel
theorem dX5_restore_9 : decode cX5_restore 9 = .ok (.ireturn, 1) := by decide +kernel
theorem dX5_restore_10 : decode cX5_restore 10 = .ok (.aload_n 0, 1) := by decide +kernel
theorem dX5_restore_11 : decode cX5_restore 11 = .ok (.getfield 25, 3) := by decide +kernel
theorem dX5_restore_14 : decode cX5_restore 14 = .ok (.aload_n 0, 1) := by decide +kernel
theorem dX5_restore_15 : decode cX5_restore 15 = .ok (.getfield 12, 3) := by decide +kernel
theorem dX5_restore_18 : decode cX5_restore 18 = .ok (.invokevirtual 51, 3) := by decide +kernel
theorem dX5_restore_21 : decode cX5_restore 21 = .ok (.aload_n 0, 1) := by decide +kernel
theorem dX5_restore_22 : decode cX5_restore 22 = .ok (.getfield 16, 3) := by decide +kernel
theorem dX5_restore_25 : decode cX5_restore 25 = .ok (.aload_n 0, 1) := by decide +kernel
theorem dX5_restore_26 : decode cX5_restore 26 = .ok (.getfield 12, 3) := by decide +kernel
theorem dX5_restore_29 : decode cX5_restore 29 = .ok (.invokestatic 153, 3) := by decide +kernel
theorem dX5_restore_32 : decode cX5_restore 32 = .ok (.aload_n 0, 1) := by decide +kernel
theorem dX5_restore_33 : decode cX5_restore 33 = .ok (.getfield 12, 3) := by decide +kernel
theorem dX5_restore_36 : decode cX5_restore 36 = .ok (.getfield 133, 3) := by decide +kernel
theorem dX5_restore_39 : decode cX5_restore 39 = .ok (.ireturn, 1) := by decide +kernel
theorem dX5_firm_0 : decode cX5_firm 0 = .ok (.aload_n 0, 1) := by decide +kernel
theorem dX5_firm_1 : decode cX5_firm 1 = .ok (.getfield 12, 3) := by decide +kernel
theorem dX5_firm_4 : decode cX5_firm 4 = .ok (.iload_n 1, 1) := by decide +kernel
theorem dX5_firm_5 : decode cX5_firm 5 = .ok (.invokevirtual 65, 3) := by decide +kernel
theorem dX5_firm_8 : decode cX5_firm 8 = .ok (.astore_n 3, 1) := by decide +kernel
theorem dX5_firm_9 : decode cX5_firm 9 = .ok (.aload_n 3, 1) := by decide +kernel
theorem dX5_firm_10 : decode cX5_firm 10 = .ok (.ifnonnull 5, 3) := by decide +kernel
theorem dX5_firm_13 : decode cX5_firm 13 = .ok (.iconst (-1), 1) := by decide +kernel
theorem dX5_firm_14 : decode cX5_firm 14 = .ok (.ireturn, 1) := by decide +kernel
theorem dX5_firm_15 : decode cX5_firm 15 = .ok (.iload_n 2, 1) := by decide +kernel
theorem dX5_firm_16 : decode cX5_firm 16 = .ok (.tableswitch 122 0 10 #[60, 65, 70, 75, 80, 85, 90, 95, 100, 105, 110], 60) := by decide +kernel
theorem dX5_firm_76 : decode cX5_firm 76 = .ok (.aload_n 3, 1) := by decide +kernel
theorem dX5_firm_77 : decode cX5_firm 77 = .ok (.invokevirtual 178, 3) := by decide +kernel
theorem dX5_firm_80 : decode cX5_firm 80 = .ok (.ireturn, 1) := by decide +kernel
theorem dX5_firm_81 : decode cX5_firm 81 = .ok (.aload_n 3, 1) := by decide +kernel
theorem dX5_firm_82 : decode cX5_firm 82 = .ok (.invokevirtual 181, 3) := by decide +kernel
theorem dX5_firm_85 : decode cX5_firm 85 = .ok (.ireturn, 1) := by decide +kernel
theorem dX5_firm_86 : decode cX5_firm 86 = .ok (.aload_n 3, 1) := by decide +kernel
theorem dX5_firm_87 : decode cX5_firm 87 = .ok (.invokevirtual 184, 3) := by decide +kernel
theorem dX5_firm_90 : decode cX5_firm 90 = .ok (.ireturn, 1) := by decide +kernel
theorem dX5_firm_91 : decode cX5_firm 91 = .ok (.aload_n 3, 1) := by decide +kernel
theorem dX5_firm_92 : decode cX5_firm 92 = .ok (.invokevirtual 187, 3) := by decide +kernel
theorem dX5_firm_95 : decode cX5_firm 95 = .ok (.ireturn, 1) := by decide +kernel
theorem dX5_firm_96 : decode cX5_firm 96 = .ok (.aload_n 3, 1) := by decide +kernel
theorem dX5_firm_97 : decode cX5_firm 97 = .ok (.getfield 107, 3) := by decide +kernel
theorem dX5_firm_100 : decode cX5_firm 100 = .ok (.ireturn, 1) := by decide +kernel
theorem dX5_firm_101 : decode cX5_firm 101 = .ok (.aload_n 3, 1) := by decide +kernel
theorem dX5_firm_102 : decode cX5_firm 102 = .ok (.getfield 110, 3) := by decide +kernel
