theorem dX6_heldBy_18 : decode cX6_heldBy 18 = .ok (.iadd, 1) := by decide +kernel
theorem dX6_heldBy_19 : decode cX6_heldBy 19 = .ok (.invokestatic 45, 3) := by decide +kernel
theorem dX6_heldBy_22 : decode cX6_heldBy 22 = .ok (.iaload, 1) := by decide +kernel
theorem dX6_heldBy_23 : decode cX6_heldBy 23 = .ok (.iadd, 1) := by decide +kernel
theorem dX6_heldBy_24 : decode cX6_heldBy 24 = .ok (.istore_n 2, 1) := by decide +kernel
theorem dX6_heldBy_25 : decode cX6_heldBy 25 = .ok (.iinc 3 1, 3) := by decide +kernel
theorem dX6_heldBy_28 : decode cX6_heldBy 28 = .ok (.goto (-24), 3) := by decide +kernel
theorem dX6_heldBy_31 : decode cX6_heldBy 31 = .ok (.iload_n 2, 1) := by decide +kernel
theorem dX6_heldBy_32 : decode cX6_heldBy 32 = .ok (.ireturn, 1) := by decide +kernel
theorem dX6_vintagesOf_0 : decode cX6_vintagesOf 0 = .ok (.iconst 0, 1) := by decide +kernel
theorem dX6_vintagesOf_1 : decode cX6_vintagesOf 1 = .ok (.istore_n 2, 1) := by decide +kernel
theorem dX6_vintagesOf_2 : decode cX6_vintagesOf 2 = .ok (.iconst 0, 1) := by decide +kernel
theorem dX6_vintagesOf_3 : decode cX6_vintagesOf 3 = .ok (.istore_n 3, 1) := by decide +kernel
theorem dX6_vintagesOf_4 : decode cX6_vintagesOf 4 = .ok (.iload_n 3, 1) := by decide +kernel
theorem dX6_vintagesOf_5 : decode cX6_vintagesOf 5 = .ok (.bipush 20, 2) := by decide +kernel
theorem dX6_vintagesOf_7 : decode cX6_vintagesOf 7 = .ok (.if_icmp .ge 32, 3) := by decide +kernel
theorem dX6_vintagesOf_10 : decode cX6_vintagesOf 10 = .ok (.iload_n 2, 1) := by decide +kernel
theorem dX6_vintagesOf_11 : decode cX6_vintagesOf 11 = .ok (.aload_n 0, 1) := by decide +kernel
theorem dX6_vintagesOf_12 : decode cX6_vintagesOf 12 = .ok (.getfield 7, 3) := by decide +kernel
theorem dX6_vintagesOf_15 : decode cX6_vintagesOf 15 = .ok (.iload_n 1, 1) := by decide +kernel
theorem dX6_vintagesOf_16 : decode cX6_vintagesOf 16 = .ok (.iconst 0, 1) := by decide +kernel
theorem dX6_vintagesOf_17 : decode cX6_vintagesOf 17 = .ok (.iload_n 3, 1) := by decide +kernel
theorem dX6_vintagesOf_18 : decode cX6_vintagesOf 18 = .ok (.iadd, 1) := by decide +kernel
theorem dX6_vintagesOf_19 : decode cX6_vintagesOf 19 = .ok (.invokestatic 45, 3) := by decide +kernel
theorem dX6_vintagesOf_22 : decode cX6_vintagesOf 22 = .ok (.iaload, 1) := by decide +kernel
theorem dX6_vintagesOf_23 : decode cX6_vintagesOf 23 = .ok (.ifCond .le 7, 3) := by decide +kernel
theorem dX6_vintagesOf_26 : decode cX6_vintagesOf 26 = .ok (.iconst 1, 1) := by decide +kernel
theorem dX6_vintagesOf_27 : decode cX6_vintagesOf 27 = .ok (.goto 4, 3) := by decide +kernel
theorem dX6_vintagesOf_30 : decode cX6_vintagesOf 30 = .ok (.iconst 0, 1) := by decide +kernel
theorem dX6_vintagesOf_31 : decode cX6_vintagesOf 31 = .ok (.iadd, 1) := by decide +kernel
theorem dX6_vintagesOf_32 : decode cX6_vintagesOf 32 = .ok (.istore_n 2, 1) := by decide +kernel
theorem dX6_vintagesOf_33 : decode cX6_vintagesOf 33 = .ok (.iinc 3 1, 3) := by decide +kernel
theorem dX6_vintagesOf_36 : decode cX6_vintagesOf 36 = .ok (.goto (-32), 3) := by decide +kernel
theorem dX6_vintagesOf_39 : decode cX6_vintagesOf 39 = .ok (.iload_n 2, 1) := by decide +kernel
theorem dX6_vintagesOf_40 : decode cX6_vintagesOf 40 = .ok (.ireturn, 1) := by decide +kernel
theorem dX6_extreme_0 : decode cX6_extreme 0 = .ok (.bipush (-5), 2) := by decide +kernel
theorem dX6_extreme_2 : decode cX6_extreme 2 = .ok (.istore_n 3, 1) := by decide +kernel
theorem dX6_extreme_3 : decode cX6_extreme 3 = .ok (.iconst 0, 1) := by decide +kernel
theorem dX6_extreme_4 : decode cX6_extreme 4 = .ok (.istore 4, 2) := by decide +kernel
theorem dX6_extreme_6 : decode cX6_extreme 6 = .ok (.iload 4, 2) := by decide +kernel
theorem dX6_extreme_8 : decode cX6_extreme 8 = .ok (.bipush 20, 2) := by decide +kernel
theorem dX6_extreme_10 : decode cX6_extreme 10 = .ok (.if_icmp .ge 42, 3) := by decide +kernel
theorem dX6_extreme_13 : decode cX6_extreme 13 = .ok (.aload_n 0, 1) := by decide +kernel
theorem dX6_extreme_14 : decode cX6_extreme 14 = .ok (.getfield 7, 3) := by decide +kernel
theorem dX6_extreme_17 : decode cX6_extreme 17 = .ok (.iload_n 1, 1) := by decide +kernel
theorem dX6_extreme_18 : decode cX6_extreme 18 = .ok (.iconst 0, 1) := by decide +kernel
theorem dX6_extreme_19 : decode cX6_extreme 19 = .ok (.iload 4, 2) := by decide +kernel
theorem dX6_extreme_21 : decode cX6_extreme 21 = .ok (.iadd, 1) := by decide +kernel
theorem dX6_extreme_22 : decode cX6_extreme 22 = .ok (.invokestatic 45, 3) := by decide +kernel
theorem dX6_extreme_25 : decode cX6_extreme 25 = .ok (.iaload, 1) := by decide +kernel
theorem dX6_extreme_26 : decode cX6_extreme 26 = .ok (.ifCond .le 18, 3) := by decide +kernel
theorem dX6_extreme_29 : decode cX6_extreme 29 = .ok (.iload_n 2, 1) := by decide +kernel
theorem dX6_extreme_30 : decode cX6_extreme 30 = .ok (.ifCond .ne 9, 3) := by decide +kernel
theorem dX6_extreme_33 : decode cX6_extreme 33 = .ok (.iload_n 3, 1) := by decide +kernel
theorem dX6_extreme_34 : decode cX6_extreme 34 = .ok (.bipush (-5), 2) := by decide +kernel
theorem dX6_extreme_36 : decode cX6_extreme 36 = .ok (.if_icmp .ne 8, 3) := by decide +kernel
theorem dX6_extreme_39 : decode cX6_extreme 39 = .ok (.iload 4, 2) := by decide +kernel
theorem dX6_extreme_41 : decode cX6_extreme 41 = .ok (.goto 4, 3) := by decide +kernel
theorem dX6_extreme_44 : decode cX6_extreme 44 = .ok (.iload_n 3, 1) := by decide +kernel
theorem dX6_extreme_45 : decode cX6_extreme 45 = .ok (.istore_n 3, 1) := by decide +kernel
theorem dX6_extreme_46 : decode cX6_extreme 46 = .ok (.iinc 4 1, 3) := by decide +kernel
theorem dX6_extreme_49 : decode cX6_extreme 49 = .ok (.goto (-43), 3) := by decide +kernel
theorem dX6_extreme_52 : decode cX6_extreme 52 = .ok (.iload_n 3, 1) := by decide +kernel
theorem dX6_extreme_53 : decode cX6_extreme 53 = .ok (.ireturn, 1) := by decide +kernel
theorem dX6_stillDue_0 : decode cX6_stillDue 0 = .ok (.aload_n 0, 1) := by decide +kernel
theorem dX6_stillDue_1 : decode cX6_stillDue 1 = .ok (.iload_n 1, 1) := by decide +kernel
theorem dX6_stillDue_2 : decode cX6_stillDue 2 = .ok (.invokevirtual 125, 3) := by decide +kernel
theorem dX6_stillDue_5 : decode cX6_stillDue 5 = .ok (.istore_n 2, 1) := by decide +kernel
theorem dX6_stillDue_6 : decode cX6_stillDue 6 = .ok (.iconst 0, 1) := by decide +kernel
theorem dX6_stillDue_7 : decode cX6_stillDue 7 = .ok (.istore_n 3, 1) := by decide +kernel
theorem dX6_stillDue_8 : decode cX6_stillDue 8 = .ok (.iload_n 3, 1) := by decide +kernel
theorem dX6_stillDue_9 : decode cX6_stillDue 9 = .ok (.iconst 3, 1) := by decide +kernel
theorem dX6_stillDue_10 : decode cX6_stillDue 10 = .ok (.if_icmp .ge 34, 3) := by decide +kernel
theorem dX6_stillDue_13 : decode cX6_stillDue 13 = .ok (.iload_n 2, 1) := by decide +kernel
theorem dX6_stillDue_14 : decode cX6_stillDue 14 = .ok (.aload_n 0, 1) := by decide +kernel
theorem dX6_stillDue_15 : decode cX6_stillDue 15 = .ok (.getfield 7, 3) := by decide +kernel
theorem dX6_stillDue_18 : decode cX6_stillDue 18 = .ok (.iload_n 1, 1) := by decide +kernel
theorem dX6_stillDue_19 : decode cX6_stillDue 19 = .ok (.bipush 20, 2) := by decide +kernel
theorem dX6_stillDue_21 : decode cX6_stillDue 21 = .ok (.iload_n 3, 1) := by decide +kernel
theorem dX6_stillDue_22 : decode cX6_stillDue 22 = .ok (.iadd, 1) := by decide +kernel
theorem dX6_stillDue_23 : decode cX6_stillDue 23 = .ok (.invokestatic 45, 3) := by decide +kernel
theorem dX6_stillDue_26 : decode cX6_stillDue 26 = .ok (.iaload, 1) := by decide +kernel
theorem dX6_stillDue_27 : decode cX6_stillDue 27 = .ok (.aload_n 0, 1) := by decide +kernel
theorem dX6_stillDue_28 : decode cX6_stillDue 28 = .ok (.iload_n 1, 1) := by decide +kernel
theorem dX6_stillDue_29 : decode cX6_stillDue 29 = .ok (.iload_n 3, 1) := by decide +kernel
theorem dX6_stillDue_30 : decode cX6_stillDue 30 = .ok (.invokevirtual 83, 3) := by decide +kernel
theorem dX6_stillDue_33 : decode cX6_stillDue 33 = .ok (.invokestatic 77, 3) := by decide +kernel
theorem dX6_stillDue_36 : decode cX6_stillDue 36 = .ok (.iadd, 1) := by decide +kernel
theorem dX6_stillDue_37 : decode cX6_stillDue 37 = .ok (.istore_n 2, 1) := by decide +kernel
theorem dX6_stillDue_38 : decode cX6_stillDue 38 = .ok (.iinc 3 1, 3) := by decide +kernel
theorem dX6_stillDue_41 : decode cX6_stillDue 41 = .ok (.goto (-33), 3) := by decide +kernel
theorem dX6_stillDue_44 : decode cX6_stillDue 44 = .ok (.iload_n 2, 1) := by decide +kernel
theorem dX6_stillDue_45 : decode cX6_stillDue 45 = .ok (.aload_n 0, 1) := by decide +kernel
theorem dX6_stillDue_46 : decode cX6_stillDue 46 = .ok (.getfield 7, 3) := by decide +kernel
theorem dX6_stillDue_49 : decode cX6_stillDue 49 = .ok (.iload_n 1, 1) := by decide +kernel
theorem dX6_stillDue_50 : decode cX6_stillDue 50 = .ok (.bipush 29, 2) := by decide +kernel
theorem dX6_stillDue_52 : decode cX6_stillDue 52 = .ok (.invokestatic 45, 3) := by decide +kernel
theorem dX6_stillDue_55 : decode cX6_stillDue 55 = .ok (.iaload, 1) := by decide +kernel
theorem dX6_stillDue_56 : decode cX6_stillDue 56 = .ok (.if_icmp .ge 19, 3) := by decide +kernel
theorem dX6_stillDue_59 : decode cX6_stillDue 59 = .ok (.aload_n 0, 1) := by decide +kernel
theorem dX6_stillDue_60 : decode cX6_stillDue 60 = .ok (.getfield 7, 3) := by decide +kernel
theorem dX6_stillDue_63 : decode cX6_stillDue 63 = .ok (.iload_n 1, 1) := by decide +kernel
theorem dX6_stillDue_64 : decode cX6_stillDue 64 = .ok (.bipush 29, 2) := by decide +kernel
theorem dX6_stillDue_66 : decode cX6_stillDue 66 = .ok (.invokestatic 45, 3) := by decide +kernel
theorem dX6_stillDue_69 : decode cX6_stillDue 69 = .ok (.iaload, 1) := by decide +kernel
theorem dX6_stillDue_70 : decode cX6_stillDue 70 = .ok (.iload_n 2, 1) := by decide +kernel
theorem dX6_stillDue_71 : decode cX6_stillDue 71 = .ok (.isub, 1) := by decide +kernel
theorem dX6_stillDue_72 : decode cX6_stillDue 72 = .ok (.goto 4, 3) := by decide +kernel
theorem dX6_stillDue_75 : decode cX6_stillDue 75 = .ok (.iconst 0, 1) := by decide +kernel
theorem dX6_stillDue_76 : decode cX6_stillDue 76 = .ok (.ireturn, 1) := by decide +kernel
theorem dX6_firm_0 : decode cX6_firm 0 = .ok (.aload_n 0, 1) := by decide +kernel
theorem dX6_firm_1 : decode cX6_firm 1 = .ok (.iload_n 1, 1) := by decide +kernel
theorem dX6_firm_2 : decode cX6_firm 2 = .ok (.invokevirtual 49, 3) := by decide +kernel
theorem dX6_firm_5 : decode cX6_firm 5 = .ok (.ifCond .ne 5, 3) := by decide +kernel
theorem dX6_firm_8 : decode cX6_firm 8 = .ok (.iconst (-1), 1) := by decide +kernel
theorem dX6_firm_9 : decode cX6_firm 9 = .ok (.ireturn, 1) := by decide +kernel
theorem dX6_firm_10 : decode cX6_firm 10 = .ok (.iload_n 2, 1) := by decide +kernel
theorem dX6_firm_11 : decode cX6_firm 11 = .ok (.tableswitch 107 0 10 #[57, 63, 69, 69, 85, 85, 85, 85, 85, 85, 101], 57) := by decide +kernel
theorem dX6_firm_68 : decode cX6_firm 68 = .ok (.aload_n 0, 1) := by decide +kernel
theorem dX6_firm_69 : decode cX6_firm 69 = .ok (.iload_n 1, 1) := by decide +kernel
theorem dX6_firm_70 : decode cX6_firm 70 = .ok (.invokevirtual 125, 3) := by decide +kernel
theorem dX6_firm_73 : decode cX6_firm 73 = .ok (.ireturn, 1) := by decide +kernel
theorem dX6_firm_74 : decode cX6_firm 74 = .ok (.aload_n 0, 1) := by decide +kernel
theorem dX6_firm_75 : decode cX6_firm 75 = .ok (.iload_n 1, 1) := by decide +kernel
theorem dX6_firm_76 : decode cX6_firm 76 = .ok (.invokevirtual 129, 3) := by decide +kernel
theorem dX6_firm_79 : decode cX6_firm 79 = .ok (.ireturn, 1) := by decide +kernel
theorem dX6_firm_80 : decode cX6_firm 80 = .ok (.aload_n 0, 1) := by decide +kernel
theorem dX6_firm_81 : decode cX6_firm 81 = .ok (.iload_n 1, 1) := by decide +kernel
theorem dX6_firm_82 : decode cX6_firm 82 = .ok (.iload_n 2, 1) := by decide +kernel
theorem dX6_firm_83 : decode cX6_firm 83 = .ok (.iconst 3, 1) := by decide +kernel
theorem dX6_firm_84 : decode cX6_firm 84 = .ok (.if_icmp .ne 7, 3) := by decide +kernel
theorem dX6_firm_87 : decode cX6_firm 87 = .ok (.iconst 1, 1) := by decide +kernel
theorem dX6_firm_88 : decode cX6_firm 88 = .ok (.goto 4, 3) := by decide +kernel
theorem dX6_firm_91 : decode cX6_firm 91 = .ok (.iconst 0, 1) := by decide +kernel
theorem dX6_firm_92 : decode cX6_firm 92 = .ok (.invokevirtual 132, 3) := by decide +kernel
theorem dX6_firm_95 : decode cX6_firm 95 = .ok (.ireturn, 1) := by decide +kernel
theorem dX6_firm_96 : decode cX6_firm 96 = .ok (.aload_n 0, 1) := by decide +kernel
theorem dX6_firm_97 : decode cX6_firm 97 = .ok (.getfield 7, 3) := by decide +kernel
theorem dX6_firm_100 : decode cX6_firm 100 = .ok (.iload_n 1, 1) := by decide +kernel
theorem dX6_firm_101 : decode cX6_firm 101 = .ok (.bipush 26, 2) := by decide +kernel
theorem dX6_firm_103 : decode cX6_firm 103 = .ok (.iload_n 2, 1) := by decide +kernel
theorem dX6_firm_104 : decode cX6_firm 104 = .ok (.iadd, 1) := by decide +kernel
theorem dX6_firm_105 : decode cX6_firm 105 = .ok (.iconst 4, 1) := by decide +kernel
theorem dX6_firm_106 : decode cX6_firm 106 = .ok (.isub, 1) := by decide +kernel
theorem dX6_firm_107 : decode cX6_firm 107 = .ok (.invokestatic 45, 3) := by decide +kernel
theorem dX6_firm_110 : decode cX6_firm 110 = .ok (.iaload, 1) := by decide +kernel
theorem dX6_firm_111 : decode cX6_firm 111 = .ok (.ireturn, 1) := by decide +kernel
theorem dX6_firm_112 : decode cX6_firm 112 = .ok (.aload_n 0, 1) := by decide +kernel
theorem dX6_firm_113 : decode cX6_firm 113 = .ok (.iload_n 1, 1) := by decide +kernel
theorem dX6_firm_114 : decode cX6_firm 114 = .ok (.invokevirtual 136, 3) := by decide +kernel
theorem dX6_firm_117 : decode cX6_firm 117 = .ok (.ireturn, 1) := by decide +kernel
theorem dX6_firm_118 : decode cX6_firm 118 = .ok (.bipush (-2), 2) := by decide +kernel
theorem dX6_firm_120 : decode cX6_firm 120 = .ok (.ireturn, 1) := by decide +kernel
theorem dX6_holds_0 : decode cX6_holds 0 = .ok (.aload_n 0, 1) := by decide +kernel
theorem dX6_holds_1 : decode cX6_holds 1 = .ok (.iload_n 1, 1) := by decide +kernel
theorem dX6_holds_2 : decode cX6_holds 2 = .ok (.invokevirtual 49, 3) := by decide +kernel
theorem dX6_holds_5 : decode cX6_holds 5 = .ok (.ifCond .eq 25, 3) := by decide +kernel
theorem dX6_holds_8 : decode cX6_holds 8 = .ok (.iload_n 2, 1) := by decide +kernel
theorem dX6_holds_9 : decode cX6_holds 9 = .ok (.invokestatic 63, 3) := by decide +kernel
theorem dX6_holds_12 : decode cX6_holds 12 = .ok (.ifCond .eq 18, 3) := by decide +kernel
theorem dX6_holds_15 : decode cX6_holds 15 = .ok (.aload_n 0, 1) := by decide +kernel
theorem dX6_holds_16 : decode cX6_holds 16 = .ok (.getfield 7, 3) := by decide +kernel
theorem dX6_holds_19 : decode cX6_holds 19 = .ok (.iload_n 1, 1) := by decide +kernel
theorem dX6_holds_20 : decode cX6_holds 20 = .ok (.iconst 0, 1) := by decide +kernel
theorem dX6_holds_21 : decode cX6_holds 21 = .ok (.iload_n 2, 1) := by decide +kernel
theorem dX6_holds_22 : decode cX6_holds 22 = .ok (.iadd, 1) := by decide +kernel
theorem dX6_holds_23 : decode cX6_holds 23 = .ok (.invokestatic 45, 3) := by decide +kernel
theorem dX6_holds_26 : decode cX6_holds 26 = .ok (.iaload, 1) := by decide +kernel
theorem dX6_holds_27 : decode cX6_holds 27 = .ok (.goto 4, 3) := by decide +kernel
theorem dX6_holds_30 : decode cX6_holds 30 = .ok (.iconst (-1), 1) := by decide +kernel
theorem dX6_holds_31 : decode cX6_holds 31 = .ok (.ireturn, 1) := by decide +kernel
theorem dX6_offsets_0 : decode cX6_offsets 0 = .ok (.aload_n 0, 1) := by decide +kernel
theorem dX6_offsets_1 : decode cX6_offsets 1 = .ok (.iload_n 1, 1) := by decide +kernel
theorem dX6_offsets_2 : decode cX6_offsets 2 = .ok (.invokevirtual 49, 3) := by decide +kernel
theorem dX6_offsets_5 : decode cX6_offsets 5 = .ok (.ifCond .eq 10, 3) := by decide +kernel
theorem dX6_offsets_8 : decode cX6_offsets 8 = .ok (.iload_n 2, 1) := by decide +kernel
theorem dX6_offsets_9 : decode cX6_offsets 9 = .ok (.invokestatic 60, 3) := by decide +kernel
theorem dX6_offsets_12 : decode cX6_offsets 12 = .ok (.ifCond .ne 5, 3) := by decide +kernel
theorem dX6_offsets_15 : decode cX6_offsets 15 = .ok (.iconst (-1), 1) := by decide +kernel
theorem dX6_offsets_16 : decode cX6_offsets 16 = .ok (.ireturn, 1) := by decide +kernel
theorem dX6_offsets_17 : decode cX6_offsets 17 = .ok (.iload_n 3, 1) := by decide +kernel
theorem dX6_offsets_18 : decode cX6_offsets 18 = .ok (.ifCond .ne 19, 3) := by decide +kernel
theorem dX6_offsets_21 : decode cX6_offsets 21 = .ok (.aload_n 0, 1) := by decide +kernel
theorem dX6_offsets_22 : decode cX6_offsets 22 = .ok (.getfield 7, 3) := by decide +kernel
theorem dX6_offsets_25 : decode cX6_offsets 25 = .ok (.iload_n 1, 1) := by decide +kernel
theorem dX6_offsets_26 : decode cX6_offsets 26 = .ok (.bipush 20, 2) := by decide +kernel
theorem dX6_offsets_28 : decode cX6_offsets 28 = .ok (.iload_n 2, 1) := by decide +kernel
theorem dX6_offsets_29 : decode cX6_offsets 29 = .ok (.iadd, 1) := by decide +kernel
theorem dX6_offsets_30 : decode cX6_offsets 30 = .ok (.invokestatic 45, 3) := by decide +kernel
theorem dX6_offsets_33 : decode cX6_offsets 33 = .ok (.iaload, 1) := by decide +kernel
theorem dX6_offsets_34 : decode cX6_offsets 34 = .ok (.goto 40, 3) := by decide +kernel
theorem dX6_offsets_37 : decode cX6_offsets 37 = .ok (.iload_n 3, 1) := by decide +kernel
theorem dX6_offsets_38 : decode cX6_offsets 38 = .ok (.iconst 1, 1) := by decide +kernel
theorem dX6_offsets_39 : decode cX6_offsets 39 = .ok (.if_icmp .ne 12, 3) := by decide +kernel
theorem dX6_offsets_42 : decode cX6_offsets 42 = .ok (.aload_n 0, 1) := by decide +kernel
theorem dX6_offsets_43 : decode cX6_offsets 43 = .ok (.iload_n 1, 1) := by decide +kernel
theorem dX6_offsets_44 : decode cX6_offsets 44 = .ok (.iload_n 2, 1) := by decide +kernel
theorem dX6_offsets_45 : decode cX6_offsets 45 = .ok (.invokevirtual 83, 3) := by decide +kernel
theorem dX6_offsets_48 : decode cX6_offsets 48 = .ok (.goto 26, 3) := by decide +kernel
theorem dX6_offsets_51 : decode cX6_offsets 51 = .ok (.iload_n 3, 1) := by decide +kernel
theorem dX6_offsets_52 : decode cX6_offsets 52 = .ok (.iconst 2, 1) := by decide +kernel
theorem dX6_offsets_53 : decode cX6_offsets 53 = .ok (.if_icmp .ne 19, 3) := by decide +kernel
theorem dX6_offsets_56 : decode cX6_offsets 56 = .ok (.aload_n 0, 1) := by decide +kernel
theorem dX6_offsets_57 : decode cX6_offsets 57 = .ok (.getfield 7, 3) := by decide +kernel
theorem dX6_offsets_60 : decode cX6_offsets 60 = .ok (.iload_n 1, 1) := by decide +kernel
theorem dX6_offsets_61 : decode cX6_offsets 61 = .ok (.bipush 23, 2) := by decide +kernel
theorem dX6_offsets_63 : decode cX6_offsets 63 = .ok (.iload_n 2, 1) := by decide +kernel
theorem dX6_offsets_64 : decode cX6_offsets 64 = .ok (.iadd, 1) := by decide +kernel
theorem dX6_offsets_65 : decode cX6_offsets 65 = .ok (.invokestatic 45, 3) := by decide +kernel
theorem dX6_offsets_68 : decode cX6_offsets 68 = .ok (.iaload, 1) := by decide +kernel
theorem dX6_offsets_69 : decode cX6_offsets 69 = .ok (.goto 5, 3) := by decide +kernel
theorem dX6_offsets_72 : decode cX6_offsets 72 = .ok (.bipush (-2), 2) := by decide +kernel
theorem dX6_offsets_74 : decode cX6_offsets 74 = .ok (.ireturn, 1) := by decide +kernel
theorem dX6_heldOf_0 : decode cX6_heldOf 0 = .ok (.iconst 0, 1) := by decide +kernel
theorem dX6_heldOf_1 : decode cX6_heldOf 1 = .ok (.istore_n 2, 1) := by decide +kernel
theorem dX6_heldOf_2 : decode cX6_heldOf 2 = .ok (.iconst 0, 1) := by decide +kernel
theorem dX6_heldOf_3 : decode cX6_heldOf 3 = .ok (.istore_n 3, 1) := by decide +kernel
theorem dX6_heldOf_4 : decode cX6_heldOf 4 = .ok (.iload_n 3, 1) := by decide +kernel
theorem dX6_heldOf_5 : decode cX6_heldOf 5 = .ok (.aload_n 0, 1) := by decide +kernel
theorem dX6_heldOf_6 : decode cX6_heldOf 6 = .ok (.getfield 7, 3) := by decide +kernel
theorem dX6_heldOf_9 : decode cX6_heldOf 9 = .ok (.iconst 1, 1) := by decide +kernel
theorem dX6_heldOf_10 : decode cX6_heldOf 10 = .ok (.iaload, 1) := by decide +kernel
theorem dX6_heldOf_11 : decode cX6_heldOf 11 = .ok (.if_icmp .ge 22, 3) := by decide +kernel
theorem dX6_heldOf_14 : decode cX6_heldOf 14 = .ok (.iload_n 2, 1) := by decide +kernel
theorem dX6_heldOf_15 : decode cX6_heldOf 15 = .ok (.aload_n 0, 1) := by decide +kernel
theorem dX6_heldOf_16 : decode cX6_heldOf 16 = .ok (.getfield 7, 3) := by decide +kernel
theorem dX6_heldOf_19 : decode cX6_heldOf 19 = .ok (.iload_n 3, 1) := by decide +kernel
theorem dX6_heldOf_20 : decode cX6_heldOf 20 = .ok (.iload_n 1, 1) := by decide +kernel
theorem dX6_heldOf_21 : decode cX6_heldOf 21 = .ok (.invokestatic 45, 3) := by decide +kernel
theorem dX6_heldOf_24 : decode cX6_heldOf 24 = .ok (.iaload, 1) := by decide +kernel
theorem dX6_heldOf_25 : decode cX6_heldOf 25 = .ok (.iadd, 1) := by decide +kernel
theorem dX6_heldOf_26 : decode cX6_heldOf 26 = .ok (.istore_n 2, 1) := by decide +kernel
theorem dX6_heldOf_27 : decode cX6_heldOf 27 = .ok (.iinc 3 1, 3) := by decide +kernel
theorem dX6_heldOf_30 : decode cX6_heldOf 30 = .ok (.goto (-26), 3) := by decide +kernel
theorem dX6_heldOf_33 : decode cX6_heldOf 33 = .ok (.iload_n 2, 1) := by decide +kernel
theorem dX6_heldOf_34 : decode cX6_heldOf 34 = .ok (.ireturn, 1) := by decide +kernel
theorem dX6_holders_0 : decode cX6_holders 0 = .ok (.iconst 0, 1) := by decide +kernel
theorem dX6_holders_1 : decode cX6_holders 1 = .ok (.istore_n 2, 1) := by decide +kernel
theorem dX6_holders_2 : decode cX6_holders 2 = .ok (.iconst 0, 1) := by decide +kernel
theorem dX6_holders_3 : decode cX6_holders 3 = .ok (.istore_n 3, 1) := by decide +kernel
theorem dX6_holders_4 : decode cX6_holders 4 = .ok (.iload_n 3, 1) := by decide +kernel
theorem dX6_holders_5 : decode cX6_holders 5 = .ok (.aload_n 0, 1) := by decide +kernel
theorem dX6_holders_6 : decode cX6_holders 6 = .ok (.getfield 7, 3) := by decide +kernel
theorem dX6_holders_9 : decode cX6_holders 9 = .ok (.iconst 1, 1) := by decide +kernel
theorem dX6_holders_10 : decode cX6_holders 10 = .ok (.iaload, 1) := by decide +kernel
theorem dX6_holders_11 : decode cX6_holders 11 = .ok (.if_icmp .ge 32, 3) := by decide +kernel
theorem dX6_holders_14 : decode cX6_holders 14 = .ok (.iload_n 2, 1) := by decide +kernel
theorem dX6_holders_15 : decode cX6_holders 15 = .ok (.aload_n 0, 1) := by decide +kernel
theorem dX6_holders_16 : decode cX6_holders 16 = .ok (.getfield 7, 3) := by decide +kernel
theorem dX6_holders_19 : decode cX6_holders 19 = .ok (.iload_n 3, 1) := by decide +kernel
theorem dX6_holders_20 : decode cX6_holders 20 = .ok (.iconst 0, 1) := by decide +kernel
theorem dX6_holders_21 : decode cX6_holders 21 = .ok (.iload_n 1, 1) := by decide +kernel
theorem dX6_holders_22 : decode cX6_holders 22 = .ok (.iadd, 1) := by decide +kernel
theorem dX6_holders_23 : decode cX6_holders 23 = .ok (.invokestatic 45, 3) := by decide +kernel
theorem dX6_holders_26 : decode cX6_holders 26 = .ok (.iaload, 1) := by decide +kernel
theorem dX6_holders_27 : decode cX6_holders 27 = .ok (.ifCond .le 7, 3) := by decide +kernel
theorem dX6_holders_30 : decode cX6_holders 30 = .ok (.iconst 1, 1) := by decide +kernel
theorem dX6_holders_31 : decode cX6_holders 31 = .ok (.goto 4, 3) := by decide +kernel
theorem dX6_holders_34 : decode cX6_holders 34 = .ok (.iconst 0, 1) := by decide +kernel
theorem dX6_holders_35 : decode cX6_holders 35 = .ok (.iadd, 1) := by decide +kernel
theorem dX6_holders_36 : decode cX6_holders 36 = .ok (.istore_n 2, 1) := by decide +kernel
theorem dX6_holders_37 : decode cX6_holders 37 = .ok (.iinc 3 1, 3) := by decide +kernel
theorem dX6_holders_40 : decode cX6_holders 40 = .ok (.goto (-36), 3) := by decide +kernel
theorem dX6_holders_43 : decode cX6_holders 43 = .ok (.iload_n 2, 1) := by decide +kernel
theorem dX6_holders_44 : decode cX6_holders 44 = .ok (.ireturn, 1) := by decide +kernel
theorem dX6_monthsOf_0 : decode cX6_monthsOf 0 = .ok (.iload_n 1, 1) := by decide +kernel
theorem dX6_monthsOf_1 : decode cX6_monthsOf 1 = .ok (.aload_n 0, 1) := by decide +kernel
theorem dX6_monthsOf_2 : decode cX6_monthsOf 2 = .ok (.getfield 7, 3) := by decide +kernel
theorem dX6_monthsOf_5 : decode cX6_monthsOf 5 = .ok (.iconst 5, 1) := by decide +kernel
theorem dX6_monthsOf_6 : decode cX6_monthsOf 6 = .ok (.iaload, 1) := by decide +kernel
theorem dX6_monthsOf_7 : decode cX6_monthsOf 7 = .ok (.iadd, 1) := by decide +kernel
theorem dX6_monthsOf_8 : decode cX6_monthsOf 8 = .ok (.iconst 1, 1) := by decide +kernel
theorem dX6_monthsOf_9 : decode cX6_monthsOf 9 = .ok (.iadd, 1) := by decide +kernel
theorem dX6_monthsOf_10 : decode cX6_monthsOf 10 = .ok (.istore_n 2, 1) := by decide +kernel
theorem dX6_monthsOf_11 : decode cX6_monthsOf 11 = .ok (.iload_n 2, 1) := by decide +kernel
theorem dX6_monthsOf_12 : decode cX6_monthsOf 12 = .ok (.aload_n 0, 1) := by decide +kernel
theorem dX6_monthsOf_13 : decode cX6_monthsOf 13 = .ok (.invokevirtual 56, 3) := by decide +kernel
theorem dX6_monthsOf_16 : decode cX6_monthsOf 16 = .ok (.if_icmp .le 7, 3) := by decide +kernel
theorem dX6_monthsOf_19 : decode cX6_monthsOf 19 = .ok (.iload_n 2, 1) := by decide +kernel
theorem dX6_monthsOf_20 : decode cX6_monthsOf 20 = .ok (.goto 9, 3) := by decide +kernel
theorem dX6_monthsOf_23 : decode cX6_monthsOf 23 = .ok (.aload_n 0, 1) := by decide +kernel
theorem dX6_monthsOf_24 : decode cX6_monthsOf 24 = .ok (.invokevirtual 56, 3) := by decide +kernel
theorem dX6_monthsOf_27 : decode cX6_monthsOf 27 = .ok (.iconst 1, 1) := by decide +kernel
theorem dX6_monthsOf_28 : decode cX6_monthsOf 28 = .ok (.iadd, 1) := by decide +kernel
theorem dX6_monthsOf_29 : decode cX6_monthsOf 29 = .ok (.istore_n 2, 1) := by decide +kernel
theorem dX6_monthsOf_30 : decode cX6_monthsOf 30 = .ok (.aload_n 0, 1) := by decide +kernel
theorem dX6_monthsOf_31 : decode cX6_monthsOf 31 = .ok (.iload_n 1, 1) := by decide +kernel
theorem dX6_monthsOf_32 : decode cX6_monthsOf 32 = .ok (.invokevirtual 139, 3) := by decide +kernel
theorem dX6_monthsOf_35 : decode cX6_monthsOf 35 = .ok (.ifCond .ne 8, 3) := by decide +kernel
theorem dX6_monthsOf_38 : decode cX6_monthsOf 38 = .ok (.bipush (-5), 2) := by decide +kernel
theorem dX6_monthsOf_40 : decode cX6_monthsOf 40 = .ok (.goto 14, 3) := by decide +kernel
theorem dX6_monthsOf_43 : decode cX6_monthsOf 43 = .ok (.bipush 12, 2) := by decide +kernel
theorem dX6_monthsOf_45 : decode cX6_monthsOf 45 = .ok (.iload_n 2, 1) := by decide +kernel
theorem dX6_monthsOf_46 : decode cX6_monthsOf 46 = .ok (.imul, 1) := by decide +kernel
theorem dX6_monthsOf_47 : decode cX6_monthsOf 47 = .ok (.aload_n 0, 1) := by decide +kernel
theorem dX6_monthsOf_48 : decode cX6_monthsOf 48 = .ok (.getfield 7, 3) := by decide +kernel
theorem dX6_monthsOf_51 : decode cX6_monthsOf 51 = .ok (.iconst 0, 1) := by decide +kernel
theorem dX6_monthsOf_52 : decode cX6_monthsOf 52 = .ok (.iaload, 1) := by decide +kernel
theorem dX6_monthsOf_53 : decode cX6_monthsOf 53 = .ok (.isub, 1) := by decide +kernel
theorem dX6_monthsOf_54 : decode cX6_monthsOf 54 = .ok (.ireturn, 1) := by decide +kernel
theorem dX6_vintage_0 : decode cX6_vintage 0 = .ok (.iload_n 1, 1) := by decide +kernel
theorem dX6_vintage_1 : decode cX6_vintage 1 = .ok (.invokestatic 63, 3) := by decide +kernel
theorem dX6_vintage_4 : decode cX6_vintage 4 = .ok (.ifCond .ne 5, 3) := by decide +kernel
theorem dX6_vintage_7 : decode cX6_vintage 7 = .ok (.iconst (-1), 1) := by decide +kernel
theorem dX6_vintage_8 : decode cX6_vintage 8 = .ok (.ireturn, 1) := by decide +kernel
theorem dX6_vintage_9 : decode cX6_vintage 9 = .ok (.iload_n 2, 1) := by decide +kernel
theorem dX6_vintage_10 : decode cX6_vintage 10 = .ok (.tableswitch 106 0 6 #[42, 53, 61, 72, 83, 94, 100], 42) := by decide +kernel
theorem dX6_vintage_52 : decode cX6_vintage 52 = .ok (.aload_n 0, 1) := by decide +kernel
theorem dX6_vintage_53 : decode cX6_vintage 53 = .ok (.getfield 7, 3) := by decide +kernel
theorem dX6_vintage_56 : decode cX6_vintage 56 = .ok (.sipush 263, 3) := by decide +kernel
theorem dX6_vintage_59 : decode cX6_vintage 59 = .ok (.iload_n 1, 1) := by decide +kernel
theorem dX6_vintage_60 : decode cX6_vintage 60 = .ok (.iadd, 1) := by decide +kernel
theorem dX6_vintage_61 : decode cX6_vintage 61 = .ok (.iaload, 1) := by decide +kernel
theorem dX6_vintage_62 : decode cX6_vintage 62 = .ok (.ireturn, 1) := by decide +kernel
theorem dX6_vintage_63 : decode cX6_vintage 63 = .ok (.aload_n 0, 1) := by decide +kernel
theorem dX6_vintage_64 : decode cX6_vintage 64 = .ok (.iconst 0, 1) := by decide +kernel
theorem dX6_vintage_65 : decode cX6_vintage 65 = .ok (.iload_n 1, 1) := by decide +kernel
theorem dX6_vintage_66 : decode cX6_vintage 66 = .ok (.iadd, 1) := by decide +kernel
theorem dX6_vintage_67 : decode cX6_vintage 67 = .ok (.invokevirtual 142, 3) := by decide +kernel
theorem dX6_vintage_70 : decode cX6_vintage 70 = .ok (.ireturn, 1) := by decide +kernel
theorem dX6_vintage_71 : decode cX6_vintage 71 = .ok (.aload_n 0, 1) := by decide +kernel
theorem dX6_vintage_72 : decode cX6_vintage 72 = .ok (.getfield 7, 3) := by decide +kernel
theorem dX6_vintage_75 : decode cX6_vintage 75 = .ok (.sipush 283, 3) := by decide +kernel
theorem dX6_vintage_78 : decode cX6_vintage 78 = .ok (.iload_n 1, 1) := by decide +kernel
theorem dX6_vintage_79 : decode cX6_vintage 79 = .ok (.iadd, 1) := by decide +kernel
theorem dX6_vintage_80 : decode cX6_vintage 80 = .ok (.iaload, 1) := by decide +kernel
theorem dX6_vintage_81 : decode cX6_vintage 81 = .ok (.ireturn, 1) := by decide +kernel
theorem dX6_vintage_82 : decode cX6_vintage 82 = .ok (.aload_n 0, 1) := by decide +kernel
theorem dX6_vintage_83 : decode cX6_vintage 83 = .ok (.getfield 7, 3) := by decide +kernel
theorem dX6_vintage_86 : decode cX6_vintage 86 = .ok (.sipush 303, 3) := by decide +kernel
theorem dX6_vintage_89 : decode cX6_vintage 89 = .ok (.iload_n 1, 1) := by decide +kernel
theorem dX6_vintage_90 : decode cX6_vintage 90 = .ok (.iadd, 1) := by decide +kernel
theorem dX6_vintage_91 : decode cX6_vintage 91 = .ok (.iaload, 1) := by decide +kernel
theorem dX6_vintage_92 : decode cX6_vintage 92 = .ok (.ireturn, 1) := by decide +kernel
theorem dX6_vintage_93 : decode cX6_vintage 93 = .ok (.aload_n 0, 1) := by decide +kernel
theorem dX6_vintage_94 : decode cX6_vintage 94 = .ok (.getfield 7, 3) := by decide +kernel
theorem dX6_vintage_97 : decode cX6_vintage 97 = .ok (.sipush 323, 3) := by decide +kernel
theorem dX6_vintage_100 : decode cX6_vintage 100 = .ok (.iload_n 1, 1) := by decide +kernel
theorem dX6_vintage_101 : decode cX6_vintage 101 = .ok (.iadd, 1) := by decide +kernel
theorem dX6_vintage_102 : decode cX6_vintage 102 = .ok (.iaload, 1) := by decide +kernel
theorem dX6_vintage_103 : decode cX6_vintage 103 = .ok (.ireturn, 1) := by decide +kernel
theorem dX6_vintage_104 : decode cX6_vintage 104 = .ok (.aload_n 0, 1) := by decide +kernel
theorem dX6_vintage_105 : decode cX6_vintage 105 = .ok (.iload_n 1, 1) := by decide +kernel
theorem dX6_vintage_106 : decode cX6_vintage 106 = .ok (.invokevirtual 139, 3) := by decide +kernel
theorem dX6_vintage_109 : decode cX6_vintage 109 = .ok (.ireturn, 1) := by decide +kernel
theorem dX6_vintage_110 : decode cX6_vintage 110 = .ok (.aload_n 0, 1) := by decide +kernel
theorem dX6_vintage_111 : decode cX6_vintage 111 = .ok (.iload_n 1, 1) := by decide +kernel
theorem dX6_vintage_112 : decode cX6_vintage 112 = .ok (.invokevirtual 145, 3) := by decide +kernel
theorem dX6_vintage_115 : decode cX6_vintage 115 = .ok (.ireturn, 1) := by decide +kernel
theorem dX6_vintage_116 : decode cX6_vintage 116 = .ok (.bipush (-2), 2) := by decide +kernel
theorem dX6_vintage_118 : decode cX6_vintage 118 = .ok (.ireturn, 1) := by decide +kernel
theorem dX6_grade_0 : decode cX6_grade 0 = .ok (.iload_n 1, 1) := by decide +kernel
theorem dX6_grade_1 : decode cX6_grade 1 = .ok (.invokestatic 60, 3) := by decide +kernel
theorem dX6_grade_4 : decode cX6_grade 4 = .ok (.ifCond .ne 5, 3) := by decide +kernel
theorem dX6_grade_7 : decode cX6_grade 7 = .ok (.iconst (-1), 1) := by decide +kernel
theorem dX6_grade_8 : decode cX6_grade 8 = .ok (.ireturn, 1) := by decide +kernel
theorem dX6_grade_9 : decode cX6_grade 9 = .ok (.iload_n 2, 1) := by decide +kernel
theorem dX6_grade_10 : decode cX6_grade 10 = .ok (.ifCond .ne 16, 3) := by decide +kernel
theorem dX6_grade_13 : decode cX6_grade 13 = .ok (.aload_n 0, 1) := by decide +kernel
theorem dX6_grade_14 : decode cX6_grade 14 = .ok (.getfield 7, 3) := by decide +kernel
theorem dX6_grade_17 : decode cX6_grade 17 = .ok (.sipush 343, 3) := by decide +kernel
theorem dX6_grade_20 : decode cX6_grade 20 = .ok (.iload_n 1, 1) := by decide +kernel
theorem dX6_grade_21 : decode cX6_grade 21 = .ok (.iadd, 1) := by decide +kernel
theorem dX6_grade_22 : decode cX6_grade 22 = .ok (.iaload, 1) := by decide +kernel
theorem dX6_grade_23 : decode cX6_grade 23 = .ok (.goto 39, 3) := by decide +kernel
theorem dX6_grade_26 : decode cX6_grade 26 = .ok (.iload_n 2, 1) := by decide +kernel
theorem dX6_grade_27 : decode cX6_grade 27 = .ok (.iconst 1, 1) := by decide +kernel
theorem dX6_grade_28 : decode cX6_grade 28 = .ok (.if_icmp .ne 14, 3) := by decide +kernel
theorem dX6_grade_31 : decode cX6_grade 31 = .ok (.aload_n 0, 1) := by decide +kernel
theorem dX6_grade_32 : decode cX6_grade 32 = .ok (.bipush 20, 2) := by decide +kernel
theorem dX6_grade_34 : decode cX6_grade 34 = .ok (.iload_n 1, 1) := by decide +kernel
theorem dX6_grade_35 : decode cX6_grade 35 = .ok (.iadd, 1) := by decide +kernel
theorem dX6_grade_36 : decode cX6_grade 36 = .ok (.invokevirtual 142, 3) := by decide +kernel
theorem dX6_grade_39 : decode cX6_grade 39 = .ok (.goto 23, 3) := by decide +kernel
theorem dX6_grade_42 : decode cX6_grade 42 = .ok (.iload_n 2, 1) := by decide +kernel
theorem dX6_grade_43 : decode cX6_grade 43 = .ok (.iconst 2, 1) := by decide +kernel
theorem dX6_grade_44 : decode cX6_grade 44 = .ok (.if_icmp .ne 16, 3) := by decide +kernel
theorem dX6_grade_47 : decode cX6_grade 47 = .ok (.aload_n 0, 1) := by decide +kernel
theorem dX6_grade_48 : decode cX6_grade 48 = .ok (.getfield 7, 3) := by decide +kernel
theorem dX6_grade_51 : decode cX6_grade 51 = .ok (.sipush 346, 3) := by decide +kernel
theorem dX6_grade_54 : decode cX6_grade 54 = .ok (.iload_n 1, 1) := by decide +kernel
theorem dX6_grade_55 : decode cX6_grade 55 = .ok (.iadd, 1) := by decide +kernel
theorem dX6_grade_56 : decode cX6_grade 56 = .ok (.iaload, 1) := by decide +kernel
theorem dX6_grade_57 : decode cX6_grade 57 = .ok (.goto 5, 3) := by decide +kernel
theorem dX6_grade_60 : decode cX6_grade 60 = .ok (.bipush (-2), 2) := by decide +kernel
theorem dX6_grade_62 : decode cX6_grade 62 = .ok (.ireturn, 1) := by decide +kernel
theorem dX6_holder_0 : decode cX6_holder 0 = .ok (.iload_n 1, 1) := by decide +kernel
theorem dX6_holder_1 : decode cX6_holder 1 = .ok (.invokestatic 63, 3) := by decide +kernel
theorem dX6_holder_4 : decode cX6_holder 4 = .ok (.ifCond .ne 5, 3) := by decide +kernel
theorem dX6_holder_7 : decode cX6_holder 7 = .ok (.iconst (-1), 1) := by decide +kernel
theorem dX6_holder_8 : decode cX6_holder 8 = .ok (.ireturn, 1) := by decide +kernel
theorem dX6_holder_9 : decode cX6_holder 9 = .ok (.iload_n 2, 1) := by decide +kernel
theorem dX6_holder_10 : decode cX6_holder 10 = .ok (.ifCond .ge 6, 3) := by decide +kernel
theorem dX6_holder_13 : decode cX6_holder 13 = .ok (.bipush (-2), 2) := by decide +kernel
theorem dX6_holder_15 : decode cX6_holder 15 = .ok (.ireturn, 1) := by decide +kernel
theorem dX6_holder_16 : decode cX6_holder 16 = .ok (.iconst 0, 1) := by decide +kernel
theorem dX6_holder_17 : decode cX6_holder 17 = .ok (.istore_n 3, 1) := by decide +kernel
theorem dX6_holder_18 : decode cX6_holder 18 = .ok (.iload_n 3, 1) := by decide +kernel
theorem dX6_holder_19 : decode cX6_holder 19 = .ok (.aload_n 0, 1) := by decide +kernel
theorem dX6_holder_20 : decode cX6_holder 20 = .ok (.getfield 7, 3) := by decide +kernel
theorem dX6_holder_23 : decode cX6_holder 23 = .ok (.iconst 1, 1) := by decide +kernel
theorem dX6_holder_24 : decode cX6_holder 24 = .ok (.iaload, 1) := by decide +kernel
theorem dX6_holder_25 : decode cX6_holder 25 = .ok (.if_icmp .ge 104, 3) := by decide +kernel
theorem dX6_holder_28 : decode cX6_holder 28 = .ok (.aload_n 0, 1) := by decide +kernel
theorem dX6_holder_29 : decode cX6_holder 29 = .ok (.getfield 7, 3) := by decide +kernel
theorem dX6_holder_32 : decode cX6_holder 32 = .ok (.iload_n 3, 1) := by decide +kernel
theorem dX6_holder_33 : decode cX6_holder 33 = .ok (.iconst 0, 1) := by decide +kernel
theorem dX6_holder_34 : decode cX6_holder 34 = .ok (.iload_n 1, 1) := by decide +kernel
theorem dX6_holder_35 : decode cX6_holder 35 = .ok (.iadd, 1) := by decide +kernel
theorem dX6_holder_36 : decode cX6_holder 36 = .ok (.invokestatic 45, 3) := by decide +kernel
theorem dX6_holder_39 : decode cX6_holder 39 = .ok (.iaload, 1) := by decide +kernel
theorem dX6_holder_40 : decode cX6_holder 40 = .ok (.istore 4, 2) := by decide +kernel
theorem dX6_holder_42 : decode cX6_holder 42 = .ok (.iconst 0, 1) := by decide +kernel
theorem dX6_holder_43 : decode cX6_holder 43 = .ok (.istore 5, 2) := by decide +kernel
theorem dX6_holder_45 : decode cX6_holder 45 = .ok (.iconst 0, 1) := by decide +kernel
theorem dX6_holder_46 : decode cX6_holder 46 = .ok (.istore 6, 2) := by decide +kernel
theorem dX6_holder_48 : decode cX6_holder 48 = .ok (.iload 6, 2) := by decide +kernel
theorem dX6_holder_50 : decode cX6_holder 50 = .ok (.aload_n 0, 1) := by decide +kernel
theorem dX6_holder_51 : decode cX6_holder 51 = .ok (.getfield 7, 3) := by decide +kernel
theorem dX6_holder_54 : decode cX6_holder 54 = .ok (.iconst 1, 1) := by decide +kernel
theorem dX6_holder_55 : decode cX6_holder 55 = .ok (.iaload, 1) := by decide +kernel
theorem dX6_holder_56 : decode cX6_holder 56 = .ok (.if_icmp .ge 54, 3) := by decide +kernel
theorem dX6_holder_59 : decode cX6_holder 59 = .ok (.aload_n 0, 1) := by decide +kernel
theorem dX6_holder_60 : decode cX6_holder 60 = .ok (.getfield 7, 3) := by decide +kernel
theorem dX6_holder_63 : decode cX6_holder 63 = .ok (.iload 6, 2) := by decide +kernel
theorem dX6_holder_65 : decode cX6_holder 65 = .ok (.iconst 0, 1) := by decide +kernel
theorem dX6_holder_66 : decode cX6_holder 66 = .ok (.iload_n 1, 1) := by decide +kernel
theorem dX6_holder_67 : decode cX6_holder 67 = .ok (.iadd, 1) := by decide +kernel
theorem dX6_holder_68 : decode cX6_holder 68 = .ok (.invokestatic 45, 3) := by decide +kernel
theorem dX6_holder_71 : decode cX6_holder 71 = .ok (.iaload, 1) := by decide +kernel
theorem dX6_holder_72 : decode cX6_holder 72 = .ok (.istore 7, 2) := by decide +kernel
theorem dX6_holder_74 : decode cX6_holder 74 = .ok (.iload 5, 2) := by decide +kernel
theorem dX6_holder_76 : decode cX6_holder 76 = .ok (.iload 7, 2) := by decide +kernel
theorem dX6_holder_78 : decode cX6_holder 78 = .ok (.iload 4, 2) := by decide +kernel
theorem dX6_holder_80 : decode cX6_holder 80 = .ok (.if_icmp .gt 16, 3) := by decide +kernel
theorem dX6_holder_83 : decode cX6_holder 83 = .ok (.iload 7, 2) := by decide +kernel
theorem dX6_holder_85 : decode cX6_holder 85 = .ok (.iload 4, 2) := by decide +kernel
theorem dX6_holder_87 : decode cX6_holder 87 = .ok (.if_icmp .ne 13, 3) := by decide +kernel
theorem dX6_holder_90 : decode cX6_holder 90 = .ok (.iload 6, 2) := by decide +kernel
theorem dX6_holder_92 : decode cX6_holder 92 = .ok (.iload_n 3, 1) := by decide +kernel
theorem dX6_holder_93 : decode cX6_holder 93 = .ok (.if_icmp .ge 7, 3) := by decide +kernel
theorem dX6_holder_96 : decode cX6_holder 96 = .ok (.iconst 1, 1) := by decide +kernel
theorem dX6_holder_97 : decode cX6_holder 97 = .ok (.goto 4, 3) := by decide +kernel
theorem dX6_holder_100 : decode cX6_holder 100 = .ok (.iconst 0, 1) := by decide +kernel
theorem dX6_holder_101 : decode cX6_holder 101 = .ok (.iadd, 1) := by decide +kernel
theorem dX6_holder_102 : decode cX6_holder 102 = .ok (.istore 5, 2) := by decide +kernel
theorem dX6_holder_104 : decode cX6_holder 104 = .ok (.iinc 6 1, 3) := by decide +kernel
theorem dX6_holder_107 : decode cX6_holder 107 = .ok (.goto (-59), 3) := by decide +kernel
theorem dX6_holder_110 : decode cX6_holder 110 = .ok (.iload 4, 2) := by decide +kernel
theorem dX6_holder_112 : decode cX6_holder 112 = .ok (.ifCond .le 11, 3) := by decide +kernel
theorem dX6_holder_115 : decode cX6_holder 115 = .ok (.iload 5, 2) := by decide +kernel
theorem dX6_holder_117 : decode cX6_holder 117 = .ok (.iload_n 2, 1) := by decide +kernel
theorem dX6_holder_118 : decode cX6_holder 118 = .ok (.if_icmp .ne 5, 3) := by decide +kernel
theorem dX6_holder_121 : decode cX6_holder 121 = .ok (.iload_n 3, 1) := by decide +kernel
theorem dX6_holder_122 : decode cX6_holder 122 = .ok (.ireturn, 1) := by decide +kernel
theorem dX6_holder_123 : decode cX6_holder 123 = .ok (.iinc 3 1, 3) := by decide +kernel
theorem dX6_holder_126 : decode cX6_holder 126 = .ok (.goto (-108), 3) := by decide +kernel
theorem dX6_holder_129 : decode cX6_holder 129 = .ok (.bipush (-5), 2) := by decide +kernel
theorem dX6_holder_131 : decode cX6_holder 131 = .ok (.ireturn, 1) := by decide +kernel
theorem dX6_plan_0 : decode cX6_plan 0 = .ok (.aload_n 0, 1) := by decide +kernel
theorem dX6_plan_1 : decode cX6_plan 1 = .ok (.iload_n 1, 1) := by decide +kernel
theorem dX6_plan_2 : decode cX6_plan 2 = .ok (.invokevirtual 49, 3) := by decide +kernel
theorem dX6_plan_5 : decode cX6_plan 5 = .ok (.ifCond .ne 5, 3) := by decide +kernel
theorem dX6_plan_8 : decode cX6_plan 8 = .ok (.iconst (-1), 1) := by decide +kernel
theorem dX6_plan_9 : decode cX6_plan 9 = .ok (.ireturn, 1) := by decide +kernel
theorem dX6_plan_10 : decode cX6_plan 10 = .ok (.iload_n 2, 1) := by decide +kernel
theorem dX6_plan_11 : decode cX6_plan 11 = .ok (.invokestatic 53, 3) := by decide +kernel
theorem dX6_plan_14 : decode cX6_plan 14 = .ok (.ifCond .eq 22, 3) := by decide +kernel
theorem dX6_plan_17 : decode cX6_plan 17 = .ok (.iload_n 3, 1) := by decide +kernel
theorem dX6_plan_18 : decode cX6_plan 18 = .ok (.iconst 0, 1) := by decide +kernel
theorem dX6_plan_19 : decode cX6_plan 19 = .ok (.iconst 2, 1) := by decide +kernel
theorem dX6_plan_20 : decode cX6_plan 20 = .ok (.invokestatic 25, 3) := by decide +kernel
theorem dX6_plan_23 : decode cX6_plan 23 = .ok (.ifCond .eq 13, 3) := by decide +kernel
theorem dX6_plan_26 : decode cX6_plan 26 = .ok (.iload 4, 2) := by decide +kernel
theorem dX6_plan_28 : decode cX6_plan 28 = .ok (.iconst 0, 1) := by decide +kernel
theorem dX6_plan_29 : decode cX6_plan 29 = .ok (.iconst 5, 1) := by decide +kernel
theorem dX6_plan_30 : decode cX6_plan 30 = .ok (.invokestatic 25, 3) := by decide +kernel
theorem dX6_plan_33 : decode cX6_plan 33 = .ok (.ifCond .ne 6, 3) := by decide +kernel
theorem dX6_plan_36 : decode cX6_plan 36 = .ok (.bipush (-2), 2) := by decide +kernel
theorem dX6_plan_38 : decode cX6_plan 38 = .ok (.ireturn, 1) := by decide +kernel
theorem dX6_plan_39 : decode cX6_plan 39 = .ok (.aload_n 0, 1) := by decide +kernel
theorem dX6_plan_40 : decode cX6_plan 40 = .ok (.iload_n 1, 1) := by decide +kernel
theorem dX6_plan_41 : decode cX6_plan 41 = .ok (.iload_n 2, 1) := by decide +kernel
theorem dX6_plan_42 : decode cX6_plan 42 = .ok (.iload_n 3, 1) := by decide +kernel
theorem dX6_plan_43 : decode cX6_plan 43 = .ok (.invokevirtual 89, 3) := by decide +kernel
theorem dX6_plan_46 : decode cX6_plan 46 = .ok (.aload_n 0, 1) := by decide +kernel
theorem dX6_plan_47 : decode cX6_plan 47 = .ok (.getfield 74, 3) := by decide +kernel
theorem dX6_plan_50 : decode cX6_plan 50 = .ok (.ifCond .le 6, 3) := by decide +kernel
theorem dX6_plan_53 : decode cX6_plan 53 = .ok (.bipush (-4), 2) := by decide +kernel
theorem dX6_plan_55 : decode cX6_plan 55 = .ok (.ireturn, 1) := by decide +kernel
theorem dX6_plan_56 : decode cX6_plan 56 = .ok (.iconst 0, 1) := by decide +kernel
theorem dX6_plan_57 : decode cX6_plan 57 = .ok (.istore 5, 2) := by decide +kernel
theorem dX6_plan_59 : decode cX6_plan 59 = .ok (.iconst 0, 1) := by decide +kernel
theorem dX6_plan_60 : decode cX6_plan 60 = .ok (.istore 6, 2) := by decide +kernel
theorem dX6_plan_62 : decode cX6_plan 62 = .ok (.iconst 0, 1) := by decide +kernel
theorem dX6_plan_63 : decode cX6_plan 63 = .ok (.istore 7, 2) := by decide +kernel
theorem dX6_plan_65 : decode cX6_plan 65 = .ok (.iload 7, 2) := by decide +kernel
theorem dX6_plan_67 : decode cX6_plan 67 = .ok (.bipush 20, 2) := by decide +kernel
theorem dX6_plan_69 : decode cX6_plan 69 = .ok (.if_icmp .ge 41, 3) := by decide +kernel
theorem dX6_plan_72 : decode cX6_plan 72 = .ok (.iload 5, 2) := by decide +kernel
theorem dX6_plan_74 : decode cX6_plan 74 = .ok (.aload_n 0, 1) := by decide +kernel
theorem dX6_plan_75 : decode cX6_plan 75 = .ok (.getfield 16, 3) := by decide +kernel
theorem dX6_plan_78 : decode cX6_plan 78 = .ok (.iload 7, 2) := by decide +kernel
theorem dX6_plan_80 : decode cX6_plan 80 = .ok (.iaload, 1) := by decide +kernel
theorem dX6_plan_81 : decode cX6_plan 81 = .ok (.ifCond .le 7, 3) := by decide +kernel
theorem dX6_plan_84 : decode cX6_plan 84 = .ok (.iconst 1, 1) := by decide +kernel
theorem dX6_plan_85 : decode cX6_plan 85 = .ok (.goto 4, 3) := by decide +kernel
theorem dX6_plan_88 : decode cX6_plan 88 = .ok (.iconst 0, 1) := by decide +kernel
theorem dX6_plan_89 : decode cX6_plan 89 = .ok (.iadd, 1) := by decide +kernel
theorem dX6_plan_90 : decode cX6_plan 90 = .ok (.istore 5, 2) := by decide +kernel
theorem dX6_plan_92 : decode cX6_plan 92 = .ok (.iload 6, 2) := by decide +kernel
theorem dX6_plan_94 : decode cX6_plan 94 = .ok (.aload_n 0, 1) := by decide +kernel
theorem dX6_plan_95 : decode cX6_plan 95 = .ok (.getfield 16, 3) := by decide +kernel
theorem dX6_plan_98 : decode cX6_plan 98 = .ok (.iload 7, 2) := by decide +kernel
theorem dX6_plan_100 : decode cX6_plan 100 = .ok (.iaload, 1) := by decide +kernel
theorem dX6_plan_101 : decode cX6_plan 101 = .ok (.iadd, 1) := by decide +kernel
theorem dX6_plan_102 : decode cX6_plan 102 = .ok (.istore 6, 2) := by decide +kernel
theorem dX6_plan_104 : decode cX6_plan 104 = .ok (.iinc 7 1, 3) := by decide +kernel
theorem dX6_plan_107 : decode cX6_plan 107 = .ok (.goto (-42), 3) := by decide +kernel
theorem dX6_plan_110 : decode cX6_plan 110 = .ok (.iload 4, 2) := by decide +kernel
theorem dX6_plan_112 : decode cX6_plan 112 = .ok (.ifCond .ne 8, 3) := by decide +kernel
theorem dX6_plan_115 : decode cX6_plan 115 = .ok (.iload 6, 2) := by decide +kernel
theorem dX6_plan_117 : decode cX6_plan 117 = .ok (.goto 36, 3) := by decide +kernel
theorem dX6_plan_120 : decode cX6_plan 120 = .ok (.iload 4, 2) := by decide +kernel
theorem dX6_plan_122 : decode cX6_plan 122 = .ok (.iconst 4, 1) := by decide +kernel
theorem dX6_plan_123 : decode cX6_plan 123 = .ok (.if_icmp .ge 15, 3) := by decide +kernel
theorem dX6_plan_126 : decode cX6_plan 126 = .ok (.aload_n 0, 1) := by decide +kernel
theorem dX6_plan_127 : decode cX6_plan 127 = .ok (.getfield 19, 3) := by decide +kernel
theorem dX6_plan_130 : decode cX6_plan 130 = .ok (.iload 4, 2) := by decide +kernel
theorem dX6_plan_132 : decode cX6_plan 132 = .ok (.iconst 1, 1) := by decide +kernel
theorem dX6_plan_133 : decode cX6_plan 133 = .ok (.isub, 1) := by decide +kernel
theorem dX6_plan_134 : decode cX6_plan 134 = .ok (.iaload, 1) := by decide +kernel
theorem dX6_plan_135 : decode cX6_plan 135 = .ok (.goto 18, 3) := by decide +kernel
theorem dX6_plan_138 : decode cX6_plan 138 = .ok (.iload 4, 2) := by decide +kernel
theorem dX6_plan_140 : decode cX6_plan 140 = .ok (.iconst 4, 1) := by decide +kernel
theorem dX6_plan_141 : decode cX6_plan 141 = .ok (.if_icmp .ne 8, 3) := by decide +kernel
theorem dX6_plan_144 : decode cX6_plan 144 = .ok (.iload 5, 2) := by decide +kernel
theorem dX6_plan_146 : decode cX6_plan 146 = .ok (.goto 7, 3) := by decide +kernel
theorem dX6_plan_149 : decode cX6_plan 149 = .ok (.aload_n 0, 1) := by decide +kernel
theorem dX6_plan_150 : decode cX6_plan 150 = .ok (.getfield 80, 3) := by decide +kernel
theorem dX6_plan_153 : decode cX6_plan 153 = .ok (.ireturn, 1) := by decide +kernel
theorem dX6_allHeld_0 : decode cX6_allHeld 0 = .ok (.iconst 0, 1) := by decide +kernel
theorem dX6_allHeld_1 : decode cX6_allHeld 1 = .ok (.istore_n 1, 1) := by decide +kernel
theorem dX6_allHeld_2 : decode cX6_allHeld 2 = .ok (.iconst 0, 1) := by decide +kernel
theorem dX6_allHeld_3 : decode cX6_allHeld 3 = .ok (.istore_n 2, 1) := by decide +kernel
theorem dX6_allHeld_4 : decode cX6_allHeld 4 = .ok (.iload_n 2, 1) := by decide +kernel
theorem dX6_allHeld_5 : decode cX6_allHeld 5 = .ok (.aload_n 0, 1) := by decide +kernel
theorem dX6_allHeld_6 : decode cX6_allHeld 6 = .ok (.getfield 7, 3) := by decide +kernel
theorem dX6_allHeld_9 : decode cX6_allHeld 9 = .ok (.iconst 1, 1) := by decide +kernel
theorem dX6_allHeld_10 : decode cX6_allHeld 10 = .ok (.iaload, 1) := by decide +kernel
theorem dX6_allHeld_11 : decode cX6_allHeld 11 = .ok (.if_icmp .ge 17, 3) := by decide +kernel
theorem dX6_allHeld_14 : decode cX6_allHeld 14 = .ok (.iload_n 1, 1) := by decide +kernel
theorem dX6_allHeld_15 : decode cX6_allHeld 15 = .ok (.aload_n 0, 1) := by decide +kernel
theorem dX6_allHeld_16 : decode cX6_allHeld 16 = .ok (.iload_n 2, 1) := by decide +kernel
theorem dX6_allHeld_17 : decode cX6_allHeld 17 = .ok (.invokevirtual 125, 3) := by decide +kernel
theorem dX6_allHeld_20 : decode cX6_allHeld 20 = .ok (.iadd, 1) := by decide +kernel
theorem dX6_allHeld_21 : decode cX6_allHeld 21 = .ok (.istore_n 1, 1) := by decide +kernel
theorem dX6_allHeld_22 : decode cX6_allHeld 22 = .ok (.iinc 2 1, 3) := by decide +kernel
theorem dX6_allHeld_25 : decode cX6_allHeld 25 = .ok (.goto (-21), 3) := by decide +kernel
theorem dX6_allHeld_28 : decode cX6_allHeld 28 = .ok (.iload_n 1, 1) := by decide +kernel
theorem dX6_allHeld_29 : decode cX6_allHeld 29 = .ok (.ireturn, 1) := by decide +kernel
theorem dX6_allLost_0 : decode cX6_allLost 0 = .ok (.iconst 0, 1) := by decide +kernel
theorem dX6_allLost_1 : decode cX6_allLost 1 = .ok (.istore_n 1, 1) := by decide +kernel
theorem dX6_allLost_2 : decode cX6_allLost 2 = .ok (.iconst 0, 1) := by decide +kernel
theorem dX6_allLost_3 : decode cX6_allLost 3 = .ok (.istore_n 2, 1) := by decide +kernel
theorem dX6_allLost_4 : decode cX6_allLost 4 = .ok (.iload_n 2, 1) := by decide +kernel
theorem dX6_allLost_5 : decode cX6_allLost 5 = .ok (.bipush 20, 2) := by decide +kernel
theorem dX6_allLost_7 : decode cX6_allLost 7 = .ok (.if_icmp .ge 22, 3) := by decide +kernel
theorem dX6_allLost_10 : decode cX6_allLost 10 = .ok (.iload_n 1, 1) := by decide +kernel
theorem dX6_allLost_11 : decode cX6_allLost 11 = .ok (.aload_n 0, 1) := by decide +kernel
theorem dX6_allLost_12 : decode cX6_allLost 12 = .ok (.getfield 7, 3) := by decide +kernel
theorem dX6_allLost_15 : decode cX6_allLost 15 = .ok (.sipush 323, 3) := by decide +kernel
theorem dX6_allLost_18 : decode cX6_allLost 18 = .ok (.iload_n 2, 1) := by decide +kernel
theorem dX6_allLost_19 : decode cX6_allLost 19 = .ok (.iadd, 1) := by decide +kernel
theorem dX6_allLost_20 : decode cX6_allLost 20 = .ok (.iaload, 1) := by decide +kernel
theorem dX6_allLost_21 : decode cX6_allLost 21 = .ok (.iadd, 1) := by decide +kernel
theorem dX6_allLost_22 : decode cX6_allLost 22 = .ok (.istore_n 1, 1) := by decide +kernel
theorem dX6_allLost_23 : decode cX6_allLost 23 = .ok (.iinc 2 1, 3) := by decide +kernel
theorem dX6_allLost_26 : decode cX6_allLost 26 = .ok (.goto (-22), 3) := by decide +kernel
theorem dX6_allLost_29 : decode cX6_allLost 29 = .ok (.iload_n 1, 1) := by decide +kernel
theorem dX6_allLost_30 : decode cX6_allLost 30 = .ok (.ireturn, 1) := by decide +kernel
theorem dX6_monthsToDeadline_0 : decode cX6_monthsToDeadline 0 = .ok (.aload_n 0, 1) := by decide +kernel
theorem dX6_monthsToDeadline_1 : decode cX6_monthsToDeadline 1 = .ok (.getfield 7, 3) := by decide +kernel
theorem dX6_monthsToDeadline_4 : decode cX6_monthsToDeadline 4 = .ok (.iconst 0, 1) := by decide +kernel
theorem dX6_monthsToDeadline_5 : decode cX6_monthsToDeadline 5 = .ok (.iaload, 1) := by decide +kernel
theorem dX6_monthsToDeadline_6 : decode cX6_monthsToDeadline 6 = .ok (.iconst 1, 1) := by decide +kernel
theorem dX6_monthsToDeadline_7 : decode cX6_monthsToDeadline 7 = .ok (.iadd, 1) := by decide +kernel
theorem dX6_monthsToDeadline_8 : decode cX6_monthsToDeadline 8 = .ok (.istore_n 1, 1) := by decide +kernel
theorem dX6_monthsToDeadline_9 : decode cX6_monthsToDeadline 9 = .ok (.iload_n 1, 1) := by decide +kernel
theorem dX6_monthsToDeadline_10 : decode cX6_monthsToDeadline 10 = .ok (.bipush 12, 2) := by decide +kernel
theorem dX6_monthsToDeadline_12 : decode cX6_monthsToDeadline 12 = .ok (.irem, 1) := by decide +kernel
theorem dX6_monthsToDeadline_13 : decode cX6_monthsToDeadline 13 = .ok (.iconst 4, 1) := by decide +kernel
theorem dX6_monthsToDeadline_14 : decode cX6_monthsToDeadline 14 = .ok (.if_icmp .ne 9, 3) := by decide +kernel
theorem dX6_monthsToDeadline_17 : decode cX6_monthsToDeadline 17 = .ok (.iload_n 1, 1) := by decide +kernel
theorem dX6_monthsToDeadline_18 : decode cX6_monthsToDeadline 18 = .ok (.bipush 12, 2) := by decide +kernel
theorem dX6_monthsToDeadline_20 : decode cX6_monthsToDeadline 20 = .ok (.if_icmp .ge 9, 3) := by decide +kernel
theorem dX6_monthsToDeadline_23 : decode cX6_monthsToDeadline 23 = .ok (.iinc 1 1, 3) := by decide +kernel
theorem dX6_monthsToDeadline_26 : decode cX6_monthsToDeadline 26 = .ok (.goto (-17), 3) := by decide +kernel
theorem dX6_monthsToDeadline_29 : decode cX6_monthsToDeadline 29 = .ok (.iload_n 1, 1) := by decide +kernel
theorem dX6_monthsToDeadline_30 : decode cX6_monthsToDeadline 30 = .ok (.aload_n 0, 1) := by decide +kernel
theorem dX6_monthsToDeadline_31 : decode cX6_monthsToDeadline 31 = .ok (.getfield 7, 3) := by decide +kernel
theorem dX6_monthsToDeadline_34 : decode cX6_monthsToDeadline 34 = .ok (.iconst 0, 1) := by decide +kernel
theorem dX6_monthsToDeadline_35 : decode cX6_monthsToDeadline 35 = .ok (.iaload, 1) := by decide +kernel
theorem dX6_monthsToDeadline_36 : decode cX6_monthsToDeadline 36 = .ok (.isub, 1) := by decide +kernel
theorem dX6_monthsToDeadline_37 : decode cX6_monthsToDeadline 37 = .ok (.ireturn, 1) := by decide +kernel
theorem dX6_count_0 : decode cX6_count 0 = .ok (.iload_n 1, 1) := by decide +kernel
theorem dX6_count_1 : decode cX6_count 1 = .ok (.tableswitch 144 0 14 #[75, 82, 87, 94, 94, 94, 94, 94, 105, 112, 119, 124, 129, 134, 139], 75) := by decide +kernel
theorem dX6_count_76 : decode cX6_count 76 = .ok (.aload_n 0, 1) := by decide +kernel
theorem dX6_count_77 : decode cX6_count 77 = .ok (.getfield 7, 3) := by decide +kernel
theorem dX6_count_80 : decode cX6_count 80 = .ok (.iconst 0, 1) := by decide +kernel
theorem dX6_count_81 : decode cX6_count 81 = .ok (.iaload, 1) := by decide +kernel
theorem dX6_count_82 : decode cX6_count 82 = .ok (.ireturn, 1) := by decide +kernel
theorem dX6_count_83 : decode cX6_count 83 = .ok (.aload_n 0, 1) := by decide +kernel
theorem dX6_count_84 : decode cX6_count 84 = .ok (.invokevirtual 56, 3) := by decide +kernel
theorem dX6_count_87 : decode cX6_count 87 = .ok (.ireturn, 1) := by decide +kernel
theorem dX6_count_88 : decode cX6_count 88 = .ok (.aload_n 0, 1) := by decide +kernel
theorem dX6_count_89 : decode cX6_count 89 = .ok (.getfield 7, 3) := by decide +kernel
theorem dX6_count_92 : decode cX6_count 92 = .ok (.iconst 1, 1) := by decide +kernel
theorem dX6_count_93 : decode cX6_count 93 = .ok (.iaload, 1) := by decide +kernel
theorem dX6_count_94 : decode cX6_count 94 = .ok (.ireturn, 1) := by decide +kernel
theorem dX6_count_95 : decode cX6_count 95 = .ok (.aload_n 0, 1) := by decide +kernel
theorem dX6_count_96 : decode cX6_count 96 = .ok (.getfield 7, 3) := by decide +kernel
theorem dX6_count_99 : decode cX6_count 99 = .ok (.iconst 2, 1) := by decide +kernel
theorem dX6_count_100 : decode cX6_count 100 = .ok (.iload_n 1, 1) := by decide +kernel
theorem dX6_count_101 : decode cX6_count 101 = .ok (.iadd, 1) := by decide +kernel
theorem dX6_count_102 : decode cX6_count 102 = .ok (.iconst 3, 1) := by decide +kernel
theorem dX6_count_103 : decode cX6_count 103 = .ok (.isub, 1) := by decide +kernel
theorem dX6_count_104 : decode cX6_count 104 = .ok (.iaload, 1) := by decide +kernel
theorem dX6_count_105 : decode cX6_count 105 = .ok (.ireturn, 1) := by decide +kernel
theorem dX6_count_106 : decode cX6_count 106 = .ok (.aload_n 0, 1) := by decide +kernel
theorem dX6_count_107 : decode cX6_count 107 = .ok (.bipush 29, 2) := by decide +kernel
theorem dX6_count_109 : decode cX6_count 109 = .ok (.invokevirtual 142, 3) := by decide +kernel
theorem dX6_count_112 : decode cX6_count 112 = .ok (.ireturn, 1) := by decide +kernel
theorem dX6_count_113 : decode cX6_count 113 = .ok (.aload_n 0, 1) := by decide +kernel
theorem dX6_count_114 : decode cX6_count 114 = .ok (.bipush 31, 2) := by decide +kernel
theorem dX6_count_116 : decode cX6_count 116 = .ok (.invokevirtual 142, 3) := by decide +kernel
theorem dX6_count_119 : decode cX6_count 119 = .ok (.ireturn, 1) := by decide +kernel
theorem dX6_count_120 : decode cX6_count 120 = .ok (.aload_n 0, 1) := by decide +kernel
theorem dX6_count_121 : decode cX6_count 121 = .ok (.invokevirtual 148, 3) := by decide +kernel
theorem dX6_count_124 : decode cX6_count 124 = .ok (.ireturn, 1) := by decide +kernel
theorem dX6_count_125 : decode cX6_count 125 = .ok (.aload_n 0, 1) := by decide +kernel
theorem dX6_count_126 : decode cX6_count 126 = .ok (.invokevirtual 151, 3) := by decide +kernel
theorem dX6_count_129 : decode cX6_count 129 = .ok (.ireturn, 1) := by decide +kernel
theorem dX6_count_130 : decode cX6_count 130 = .ok (.aload_n 0, 1) := by decide +kernel
theorem dX6_count_131 : decode cX6_count 131 = .ok (.invokevirtual 154, 3) := by decide +kernel
theorem dX6_count_134 : decode cX6_count 134 = .ok (.ireturn, 1) := by decide +kernel
theorem dX6_count_135 : decode cX6_count 135 = .ok (.aload_n 0, 1) := by decide +kernel
theorem dX6_count_136 : decode cX6_count 136 = .ok (.getfield 29, 3) := by decide +kernel
theorem dX6_count_139 : decode cX6_count 139 = .ok (.ireturn, 1) := by decide +kernel
theorem dX6_count_140 : decode cX6_count 140 = .ok (.aload_n 0, 1) := by decide +kernel
theorem dX6_count_141 : decode cX6_count 141 = .ok (.getfield 99, 3) := by decide +kernel
theorem dX6_count_144 : decode cX6_count 144 = .ok (.ireturn, 1) := by decide +kernel
theorem dX6_count_145 : decode cX6_count 145 = .ok (.bipush (-2), 2) := by decide +kernel
theorem dX6_count_147 : decode cX6_count 147 = .ok (.ireturn, 1) := by decide +kernel
theorem dJ9_max_7cf53_0 : decode cJ9_max_7cf53 0 = .ok (.iload_n 0, 1) := by decide +kernel
theorem dJ9_max_7cf53_1 : decode cJ9_max_7cf53 1 = .ok (.iload_n 1, 1) := by decide +kernel
theorem dJ9_max_7cf53_2 : decode cJ9_max_7cf53 2 = .ok (.if_icmp .lt 7, 3) := by decide +kernel
theorem dJ9_max_7cf53_5 : decode cJ9_max_7cf53 5 = .ok (.iload_n 0, 1) := by decide +kernel
theorem dJ9_max_7cf53_6 : decode cJ9_max_7cf53 6 = .ok (.goto 4, 3) := by decide +kernel
theorem dJ9_max_7cf53_9 : decode cJ9_max_7cf53 9 = .ok (.iload_n 1, 1) := by decide +kernel
theorem dJ9_max_7cf53_10 : decode cJ9_max_7cf53 10 = .ok (.ireturn, 1) := by decide +kernel
theorem dJ9_min_7cf53_0 : decode cJ9_min_7cf53 0 = .ok (.iload_n 0, 1) := by decide +kernel
theorem dJ9_min_7cf53_1 : decode cJ9_min_7cf53 1 = .ok (.iload_n 1, 1) := by decide +kernel
theorem dJ9_min_7cf53_2 : decode cJ9_min_7cf53 2 = .ok (.if_icmp .gt 7, 3) := by decide +kernel
theorem dJ9_min_7cf53_5 : decode cJ9_min_7cf53 5 = .ok (.iload_n 0, 1) := by decide +kernel
theorem dJ9_min_7cf53_6 : decode cJ9_min_7cf53 6 = .ok (.goto 4, 3) := by decide +kernel
theorem dJ9_min_7cf53_9 : decode cJ9_min_7cf53 9 = .ok (.iload_n 1, 1) := by decide +kernel
theorem dJ9_min_7cf53_10 : decode cJ9_min_7cf53 10 = .ok (.ireturn, 1) := by decide +kernel
theorem dL_law_0 : decode cL_law 0 = .ok (.new 7, 3) := by decide +kernel
theorem dL_law_3 : decode cL_law 3 = .ok (.dup, 1) := by decide +kernel
theorem dL_law_4 : decode cL_law 4 = .ok (.invokespecial 9, 3) := by decide +kernel
theorem dL_law_7 : decode cL_law 7 = .ok (.astore_n 1, 1) := by decide +kernel
theorem dL_law_8 : decode cL_law 8 = .ok (.new 10, 3) := by decide +kernel
theorem dL_law_11 : decode cL_law 11 = .ok (.dup, 1) := by decide +kernel
theorem dL_law_12 : decode cL_law 12 = .ok (.invokespecial 12, 3) := by decide +kernel
theorem dL_law_15 : decode cL_law 15 = .ok (.astore_n 2, 1) := by decide +kernel
theorem dL_law_16 : decode cL_law 16 = .ok (.iconst 0, 1) := by decide +kernel
theorem dL_law_17 : decode cL_law 17 = .ok (.istore_n 3, 1) := by decide +kernel
theorem dL_law_18 : decode cL_law 18 = .ok (.iload_n 3, 1) := by decide +kernel
theorem dL_law_19 : decode cL_law 19 = .ok (.aload_n 0, 1) := by decide +kernel
theorem dL_law_20 : decode cL_law 20 = .ok (.arraylength, 1) := by decide +kernel
theorem dL_law_21 : decode cL_law 21 = .ok (.iconst 5, 1) := by decide +kernel
theorem dL_law_22 : decode cL_law 22 = .ok (.isub, 1) := by decide +kernel
theorem dL_law_23 : decode cL_law 23 = .ok (.if_icmp .gt 898, 3) := by decide +kernel
theorem dL_law_26 : decode cL_law 26 = .ok (.aload_n 0, 1) := by decide +kernel
theorem dL_law_27 : decode cL_law 27 = .ok (.iload_n 3, 1) := by decide +kernel
theorem dL_law_28 : decode cL_law 28 = .ok (.iaload, 1) := by decide +kernel
theorem dL_law_29 : decode cL_law 29 = .ok (.bipush 31, 2) := by decide +kernel
theorem dL_law_31 : decode cL_law 31 = .ok (.iand, 1) := by decide +kernel
theorem dL_law_32 : decode cL_law 32 = .ok (.tableswitch 883 0 24 #[116, 129, 162, 195, 238, 291, 344, 387, 420, 443, 486, 509, 534, 547, 560, 573, 586, 599, 632, 665, 708, 741, 774, 807, 860], 116) := by decide +kernel
theorem dL_law_148 : decode cL_law 148 = .ok (.aload_n 1, 1) := by decide +kernel
theorem dL_law_149 : decode cL_law 149 = .ok (.invokevirtual 13, 3) := by decide +kernel
theorem dL_law_152 : decode cL_law 152 = .ok (.aload_n 2, 1) := by decide +kernel
theorem dL_law_153 : decode cL_law 153 = .ok (.invokevirtual 17, 3) := by decide +kernel
theorem dL_law_156 : decode cL_law 156 = .ok (.if_icmp .eq 759, 3) := by decide +kernel
theorem dL_law_159 : decode cL_law 159 = .ok (.iconst 0, 1) := by decide +kernel
theorem dL_law_160 : decode cL_law 160 = .ok (.ireturn, 1) := by decide +kernel
theorem dL_law_161 : decode cL_law 161 = .ok (.aload_n 1, 1) := by decide +kernel
theorem dL_law_162 : decode cL_law 162 = .ok (.aload_n 0, 1) := by decide +kernel
theorem dL_law_163 : decode cL_law 163 = .ok (.iload_n 3, 1) := by decide +kernel
theorem dL_law_164 : decode cL_law 164 = .ok (.iconst 1, 1) := by decide +kernel
theorem dL_law_165 : decode cL_law 165 = .ok (.iadd, 1) := by decide +kernel
theorem dL_law_166 : decode cL_law 166 = .ok (.iaload, 1) := by decide +kernel
theorem dL_law_167 : decode cL_law 167 = .ok (.aload_n 0, 1) := by decide +kernel
theorem dL_law_168 : decode cL_law 168 = .ok (.iload_n 3, 1) := by decide +kernel
theorem dL_law_169 : decode cL_law 169 = .ok (.iconst 2, 1) := by decide +kernel
theorem dL_law_170 : decode cL_law 170 = .ok (.iadd, 1) := by decide +kernel
theorem dL_law_171 : decode cL_law 171 = .ok (.iaload, 1) := by decide +kernel
theorem dL_law_172 : decode cL_law 172 = .ok (.invokevirtual 18, 3) := by decide +kernel
theorem dL_law_175 : decode cL_law 175 = .ok (.aload_n 2, 1) := by decide +kernel
theorem dL_law_176 : decode cL_law 176 = .ok (.aload_n 0, 1) := by decide +kernel
theorem dL_law_177 : decode cL_law 177 = .ok (.iload_n 3, 1) := by decide +kernel
theorem dL_law_178 : decode cL_law 178 = .ok (.iconst 1, 1) := by decide +kernel
theorem dL_law_179 : decode cL_law 179 = .ok (.iadd, 1) := by decide +kernel
theorem dL_law_180 : decode cL_law 180 = .ok (.iaload, 1) := by decide +kernel
theorem dL_law_181 : decode cL_law 181 = .ok (.aload_n 0, 1) := by decide +kernel
theorem dL_law_182 : decode cL_law 182 = .ok (.iload_n 3, 1) := by decide +kernel
theorem dL_law_183 : decode cL_law 183 = .ok (.iconst 2, 1) := by decide +kernel
theorem dL_law_184 : decode cL_law 184 = .ok (.iadd, 1) := by decide +kernel
theorem dL_law_185 : decode cL_law 185 = .ok (.iaload, 1) := by decide +kernel
theorem dL_law_186 : decode cL_law 186 = .ok (.invokevirtual 22, 3) := by decide +kernel
theorem dL_law_189 : decode cL_law 189 = .ok (.if_icmp .eq 726, 3) := by decide +kernel
theorem dL_law_192 : decode cL_law 192 = .ok (.iconst 0, 1) := by decide +kernel
theorem dL_law_193 : decode cL_law 193 = .ok (.ireturn, 1) := by decide +kernel
theorem dL_law_194 : decode cL_law 194 = .ok (.aload_n 1, 1) := by decide +kernel
theorem dL_law_195 : decode cL_law 195 = .ok (.aload_n 0, 1) := by decide +kernel
theorem dL_law_196 : decode cL_law 196 = .ok (.iload_n 3, 1) := by decide +kernel
theorem dL_law_197 : decode cL_law 197 = .ok (.iconst 1, 1) := by decide +kernel
theorem dL_law_198 : decode cL_law 198 = .ok (.iadd, 1) := by decide +kernel
theorem dL_law_199 : decode cL_law 199 = .ok (.iaload, 1) := by decide +kernel
theorem dL_law_200 : decode cL_law 200 = .ok (.aload_n 0, 1) := by decide +kernel
theorem dL_law_201 : decode cL_law 201 = .ok (.iload_n 3, 1) := by decide +kernel
theorem dL_law_202 : decode cL_law 202 = .ok (.iconst 2, 1) := by decide +kernel
theorem dL_law_203 : decode cL_law 203 = .ok (.iadd, 1) := by decide +kernel
theorem dL_law_204 : decode cL_law 204 = .ok (.iaload, 1) := by decide +kernel
theorem dL_law_205 : decode cL_law 205 = .ok (.invokevirtual 23, 3) := by decide +kernel
theorem dL_law_208 : decode cL_law 208 = .ok (.aload_n 2, 1) := by decide +kernel
theorem dL_law_209 : decode cL_law 209 = .ok (.aload_n 0, 1) := by decide +kernel
theorem dL_law_210 : decode cL_law 210 = .ok (.iload_n 3, 1) := by decide +kernel
theorem dL_law_211 : decode cL_law 211 = .ok (.iconst 1, 1) := by decide +kernel
theorem dL_law_212 : decode cL_law 212 = .ok (.iadd, 1) := by decide +kernel
theorem dL_law_213 : decode cL_law 213 = .ok (.iaload, 1) := by decide +kernel
theorem dL_law_214 : decode cL_law 214 = .ok (.aload_n 0, 1) := by decide +kernel
theorem dL_law_215 : decode cL_law 215 = .ok (.iload_n 3, 1) := by decide +kernel
theorem dL_law_216 : decode cL_law 216 = .ok (.iconst 2, 1) := by decide +kernel
theorem dL_law_217 : decode cL_law 217 = .ok (.iadd, 1) := by decide +kernel
theorem dL_law_218 : decode cL_law 218 = .ok (.iaload, 1) := by decide +kernel
theorem dL_law_219 : decode cL_law 219 = .ok (.invokevirtual 26, 3) := by decide +kernel
theorem dL_law_222 : decode cL_law 222 = .ok (.if_icmp .eq 693, 3) := by decide +kernel
theorem dL_law_225 : decode cL_law 225 = .ok (.iconst 0, 1) := by decide +kernel
theorem dL_law_226 : decode cL_law 226 = .ok (.ireturn, 1) := by decide +kernel
theorem dL_law_227 : decode cL_law 227 = .ok (.aload_n 1, 1) := by decide +kernel
theorem dL_law_228 : decode cL_law 228 = .ok (.aload_n 0, 1) := by decide +kernel
theorem dL_law_229 : decode cL_law 229 = .ok (.iload_n 3, 1) := by decide +kernel
theorem dL_law_230 : decode cL_law 230 = .ok (.iconst 1, 1) := by decide +kernel
theorem dL_law_231 : decode cL_law 231 = .ok (.iadd, 1) := by decide +kernel
theorem dL_law_232 : decode cL_law 232 = .ok (.iaload, 1) := by decide +kernel
theorem dL_law_233 : decode cL_law 233 = .ok (.aload_n 0, 1) := by decide +kernel
theorem dL_law_234 : decode cL_law 234 = .ok (.iload_n 3, 1) := by decide +kernel
theorem dL_law_235 : decode cL_law 235 = .ok (.iconst 2, 1) := by decide +kernel
theorem dL_law_236 : decode cL_law 236 = .ok (.iadd, 1) := by decide +kernel
theorem dL_law_237 : decode cL_law 237 = .ok (.iaload, 1) := by decide +kernel
theorem dL_law_238 : decode cL_law 238 = .ok (.aload_n 0, 1) := by decide +kernel
theorem dL_law_239 : decode cL_law 239 = .ok (.iload_n 3, 1) := by decide +kernel
theorem dL_law_240 : decode cL_law 240 = .ok (.iconst 3, 1) := by decide +kernel
theorem dL_law_241 : decode cL_law 241 = .ok (.iadd, 1) := by decide +kernel
theorem dL_law_242 : decode cL_law 242 = .ok (.iaload, 1) := by decide +kernel
theorem dL_law_243 : decode cL_law 243 = .ok (.invokevirtual 27, 3) := by decide +kernel
theorem dL_law_246 : decode cL_law 246 = .ok (.aload_n 2, 1) := by decide +kernel
theorem dL_law_247 : decode cL_law 247 = .ok (.aload_n 0, 1) := by decide +kernel
theorem dL_law_248 : decode cL_law 248 = .ok (.iload_n 3, 1) := by decide +kernel
theorem dL_law_249 : decode cL_law 249 = .ok (.iconst 1, 1) := by decide +kernel
theorem dL_law_250 : decode cL_law 250 = .ok (.iadd, 1) := by decide +kernel
theorem dL_law_251 : decode cL_law 251 = .ok (.iaload, 1) := by decide +kernel
theorem dL_law_252 : decode cL_law 252 = .ok (.aload_n 0, 1) := by decide +kernel
theorem dL_law_253 : decode cL_law 253 = .ok (.iload_n 3, 1) := by decide +kernel
theorem dL_law_254 : decode cL_law 254 = .ok (.iconst 2, 1) := by decide +kernel
theorem dL_law_255 : decode cL_law 255 = .ok (.iadd, 1) := by decide +kernel
theorem dL_law_256 : decode cL_law 256 = .ok (.iaload, 1) := by decide +kernel
theorem dL_law_257 : decode cL_law 257 = .ok (.aload_n 0, 1) := by decide +kernel
theorem dL_law_258 : decode cL_law 258 = .ok (.iload_n 3, 1) := by decide +kernel
theorem dL_law_259 : decode cL_law 259 = .ok (.iconst 3, 1) := by decide +kernel
theorem dL_law_260 : decode cL_law 260 = .ok (.iadd, 1) := by decide +kernel
theorem dL_law_261 : decode cL_law 261 = .ok (.iaload, 1) := by decide +kernel
theorem dL_law_262 : decode cL_law 262 = .ok (.invokevirtual 31, 3) := by decide +kernel
theorem dL_law_265 : decode cL_law 265 = .ok (.if_icmp .eq 650, 3) := by decide +kernel
theorem dL_law_268 : decode cL_law 268 = .ok (.iconst 0, 1) := by decide +kernel
theorem dL_law_269 : decode cL_law 269 = .ok (.ireturn, 1) := by decide +kernel
theorem dL_law_270 : decode cL_law 270 = .ok (.aload_n 1, 1) := by decide +kernel
theorem dL_law_271 : decode cL_law 271 = .ok (.aload_n 0, 1) := by decide +kernel
theorem dL_law_272 : decode cL_law 272 = .ok (.iload_n 3, 1) := by decide +kernel
theorem dL_law_273 : decode cL_law 273 = .ok (.iconst 1, 1) := by decide +kernel
theorem dL_law_274 : decode cL_law 274 = .ok (.iadd, 1) := by decide +kernel
theorem dL_law_275 : decode cL_law 275 = .ok (.iaload, 1) := by decide +kernel
theorem dL_law_276 : decode cL_law 276 = .ok (.aload_n 0, 1) := by decide +kernel
theorem dL_law_277 : decode cL_law 277 = .ok (.iload_n 3, 1) := by decide +kernel
theorem dL_law_278 : decode cL_law 278 = .ok (.iconst 2, 1) := by decide +kernel
theorem dL_law_279 : decode cL_law 279 = .ok (.iadd, 1) := by decide +kernel
theorem dL_law_280 : decode cL_law 280 = .ok (.iaload, 1) := by decide +kernel
theorem dL_law_281 : decode cL_law 281 = .ok (.aload_n 0, 1) := by decide +kernel
theorem dL_law_282 : decode cL_law 282 = .ok (.iload_n 3, 1) := by decide +kernel
theorem dL_law_283 : decode cL_law 283 = .ok (.iconst 3, 1) := by decide +kernel
theorem dL_law_284 : decode cL_law 284 = .ok (.iadd, 1) := by decide +kernel
theorem dL_law_285 : decode cL_law 285 = .ok (.iaload, 1) := by decide +kernel
theorem dL_law_286 : decode cL_law 286 = .ok (.aload_n 0, 1) := by decide +kernel
theorem dL_law_287 : decode cL_law 287 = .ok (.iload_n 3, 1) := by decide +kernel
theorem dL_law_288 : decode cL_law 288 = .ok (.iconst 4, 1) := by decide +kernel
theorem dL_law_289 : decode cL_law 289 = .ok (.iadd, 1) := by decide +kernel
theorem dL_law_290 : decode cL_law 290 = .ok (.iaload, 1) := by decide +kernel
theorem dL_law_291 : decode cL_law 291 = .ok (.invokevirtual 32, 3) := by decide +kernel
theorem dL_law_294 : decode cL_law 294 = .ok (.aload_n 2, 1) := by decide +kernel
theorem dL_law_295 : decode cL_law 295 = .ok (.aload_n 0, 1) := by decide +kernel
theorem dL_law_296 : decode cL_law 296 = .ok (.iload_n 3, 1) := by decide +kernel
theorem dL_law_297 : decode cL_law 297 = .ok (.iconst 1, 1) := by decide +kernel
theorem dL_law_298 : decode cL_law 298 = .ok (.iadd, 1) := by decide +kernel
theorem dL_law_299 : decode cL_law 299 = .ok (.iaload, 1) := by decide +kernel
theorem dL_law_300 : decode cL_law 300 = .ok (.aload_n 0, 1) := by decide +kernel
theorem dL_law_301 : decode cL_law 301 = .ok (.iload_n 3, 1) := by decide +kernel
theorem dL_law_302 : decode cL_law 302 = .ok (.iconst 2, 1) := by decide +kernel
theorem dL_law_303 : decode cL_law 303 = .ok (.iadd, 1) := by decide +kernel
theorem dL_law_304 : decode cL_law 304 = .ok (.iaload, 1) := by decide +kernel
theorem dL_law_305 : decode cL_law 305 = .ok (.aload_n 0, 1) := by decide +kernel
theorem dL_law_306 : decode cL_law 306 = .ok (.iload_n 3, 1) := by decide +kernel
theorem dL_law_307 : decode cL_law 307 = .ok (.iconst 3, 1) := by decide +kernel
theorem dL_law_308 : decode cL_law 308 = .ok (.iadd, 1) := by decide +kernel
theorem dL_law_309 : decode cL_law 309 = .ok (.iaload, 1) := by decide +kernel
theorem dL_law_310 : decode cL_law 310 = .ok (.aload_n 0, 1) := by decide +kernel
theorem dL_law_311 : decode cL_law 311 = .ok (.iload_n 3, 1) := by decide +kernel
theorem dL_law_312 : decode cL_law 312 = .ok (.iconst 4, 1) := by decide +kernel
theorem dL_law_313 : decode cL_law 313 = .ok (.iadd, 1) := by decide +kernel
theorem dL_law_314 : decode cL_law 314 = .ok (.iaload, 1) := by decide +kernel
theorem dL_law_315 : decode cL_law 315 = .ok (.invokevirtual 36, 3) := by decide +kernel
theorem dL_law_318 : decode cL_law 318 = .ok (.if_icmp .eq 597, 3) := by decide +kernel
theorem dL_law_321 : decode cL_law 321 = .ok (.iconst 0, 1) := by decide +kernel
theorem dL_law_322 : decode cL_law 322 = .ok (.ireturn, 1) := by decide +kernel
theorem dL_law_323 : decode cL_law 323 = .ok (.aload_n 1, 1) := by decide +kernel
theorem dL_law_324 : decode cL_law 324 = .ok (.aload_n 0, 1) := by decide +kernel
theorem dL_law_325 : decode cL_law 325 = .ok (.iload_n 3, 1) := by decide +kernel
theorem dL_law_326 : decode cL_law 326 = .ok (.iconst 1, 1) := by decide +kernel
theorem dL_law_327 : decode cL_law 327 = .ok (.iadd, 1) := by decide +kernel
theorem dL_law_328 : decode cL_law 328 = .ok (.iaload, 1) := by decide +kernel
theorem dL_law_329 : decode cL_law 329 = .ok (.aload_n 0, 1) := by decide +kernel
theorem dL_law_330 : decode cL_law 330 = .ok (.iload_n 3, 1) := by decide +kernel
theorem dL_law_331 : decode cL_law 331 = .ok (.iconst 2, 1) := by decide +kernel
theorem dL_law_332 : decode cL_law 332 = .ok (.iadd, 1) := by decide +kernel
theorem dL_law_333 : decode cL_law 333 = .ok (.iaload, 1) := by decide +kernel
theorem dL_law_334 : decode cL_law 334 = .ok (.aload_n 0, 1) := by decide +kernel
theorem dL_law_335 : decode cL_law 335 = .ok (.iload_n 3, 1) := by decide +kernel
theorem dL_law_336 : decode cL_law 336 = .ok (.iconst 3, 1) := by decide +kernel
theorem dL_law_337 : decode cL_law 337 = .ok (.iadd, 1) := by decide +kernel
theorem dL_law_338 : decode cL_law 338 = .ok (.iaload, 1) := by decide +kernel
theorem dL_law_339 : decode cL_law 339 = .ok (.aload_n 0, 1) := by decide +kernel
theorem dL_law_340 : decode cL_law 340 = .ok (.iload_n 3, 1) := by decide +kernel
theorem dL_law_341 : decode cL_law 341 = .ok (.iconst 4, 1) := by decide +kernel
theorem dL_law_342 : decode cL_law 342 = .ok (.iadd, 1) := by decide +kernel
theorem dL_law_343 : decode cL_law 343 = .ok (.iaload, 1) := by decide +kernel
theorem dL_law_344 : decode cL_law 344 = .ok (.invokevirtual 37, 3) := by decide +kernel
theorem dL_law_347 : decode cL_law 347 = .ok (.aload_n 2, 1) := by decide +kernel
theorem dL_law_348 : decode cL_law 348 = .ok (.aload_n 0, 1) := by decide +kernel
theorem dL_law_349 : decode cL_law 349 = .ok (.iload_n 3, 1) := by decide +kernel
theorem dL_law_350 : decode cL_law 350 = .ok (.iconst 1, 1) := by decide +kernel
theorem dL_law_351 : decode cL_law 351 = .ok (.iadd, 1) := by decide +kernel
theorem dL_law_352 : decode cL_law 352 = .ok (.iaload, 1) := by decide +kernel
theorem dL_law_353 : decode cL_law 353 = .ok (.aload_n 0, 1) := by decide +kernel
theorem dL_law_354 : decode cL_law 354 = .ok (.iload_n 3, 1) := by decide +kernel
theorem dL_law_355 : decode cL_law 355 = .ok (.iconst 2, 1) := by decide +kernel
theorem dL_law_356 : decode cL_law 356 = .ok (.iadd, 1) := by decide +kernel
theorem dL_law_357 : decode cL_law 357 = .ok (.iaload, 1) := by decide +kernel
theorem dL_law_358 : decode cL_law 358 = .ok (.aload_n 0, 1) := by decide +kernel
theorem dL_law_359 : decode cL_law 359 = .ok (.iload_n 3, 1) := by decide +kernel
theorem dL_law_360 : decode cL_law 360 = .ok (.iconst 3, 1) := by decide +kernel
theorem dL_law_361 : decode cL_law 361 = .ok (.iadd, 1) := by decide +kernel
theorem dL_law_362 : decode cL_law 362 = .ok (.iaload, 1) := by decide +kernel
theorem dL_law_363 : decode cL_law 363 = .ok (.aload_n 0, 1) := by decide +kernel
theorem dL_law_364 : decode cL_law 364 = .ok (.iload_n 3, 1) := by decide +kernel
theorem dL_law_365 : decode cL_law 365 = .ok (.iconst 4, 1) := by decide +kernel
theorem dL_law_366 : decode cL_law 366 = .ok (.iadd, 1) := by decide +kernel
theorem dL_law_367 : decode cL_law 367 = .ok (.iaload, 1) := by decide +kernel
theorem dL_law_368 : decode cL_law 368 = .ok (.invokevirtual 40, 3) := by decide +kernel
theorem dL_law_371 : decode cL_law 371 = .ok (.if_icmp .eq 544, 3) := by decide +kernel
theorem dL_law_374 : decode cL_law 374 = .ok (.iconst 0, 1) := by decide +kernel
theorem dL_law_375 : decode cL_law 375 = .ok (.ireturn, 1) := by decide +kernel
theorem dL_law_376 : decode cL_law 376 = .ok (.aload_n 1, 1) := by decide +kernel
theorem dL_law_377 : decode cL_law 377 = .ok (.aload_n 0, 1) := by decide +kernel
theorem dL_law_378 : decode cL_law 378 = .ok (.iload_n 3, 1) := by decide +kernel
theorem dL_law_379 : decode cL_law 379 = .ok (.iconst 1, 1) := by decide +kernel
theorem dL_law_380 : decode cL_law 380 = .ok (.iadd, 1) := by decide +kernel
theorem dL_law_381 : decode cL_law 381 = .ok (.iaload, 1) := by decide +kernel
theorem dL_law_382 : decode cL_law 382 = .ok (.aload_n 0, 1) := by decide +kernel
theorem dL_law_383 : decode cL_law 383 = .ok (.iload_n 3, 1) := by decide +kernel
theorem dL_law_384 : decode cL_law 384 = .ok (.iconst 2, 1) := by decide +kernel
theorem dL_law_385 : decode cL_law 385 = .ok (.iadd, 1) := by decide +kernel
theorem dL_law_386 : decode cL_law 386 = .ok (.iaload, 1) := by decide +kernel
theorem dL_law_387 : decode cL_law 387 = .ok (.aload_n 0, 1) := by decide +kernel
theorem dL_law_388 : decode cL_law 388 = .ok (.iload_n 3, 1) := by decide +kernel
theorem dL_law_389 : decode cL_law 389 = .ok (.iconst 3, 1) := by decide +kernel
theorem dL_law_390 : decode cL_law 390 = .ok (.iadd, 1) := by decide +kernel
theorem dL_law_391 : decode cL_law 391 = .ok (.iaload, 1) := by decide +kernel
theorem dL_law_392 : decode cL_law 392 = .ok (.invokevirtual 41, 3) := by decide +kernel
theorem dL_law_395 : decode cL_law 395 = .ok (.aload_n 2, 1) := by decide +kernel
theorem dL_law_396 : decode cL_law 396 = .ok (.aload_n 0, 1) := by decide +kernel
theorem dL_law_397 : decode cL_law 397 = .ok (.iload_n 3, 1) := by decide +kernel
theorem dL_law_398 : decode cL_law 398 = .ok (.iconst 1, 1) := by decide +kernel
theorem dL_law_399 : decode cL_law 399 = .ok (.iadd, 1) := by decide +kernel
theorem dL_law_400 : decode cL_law 400 = .ok (.iaload, 1) := by decide +kernel
theorem dL_law_401 : decode cL_law 401 = .ok (.aload_n 0, 1) := by decide +kernel
theorem dL_law_402 : decode cL_law 402 = .ok (.iload_n 3, 1) := by decide +kernel
theorem dL_law_403 : decode cL_law 403 = .ok (.iconst 2, 1) := by decide +kernel
theorem dL_law_404 : decode cL_law 404 = .ok (.iadd, 1) := by decide +kernel
theorem dL_law_405 : decode cL_law 405 = .ok (.iaload, 1) := by decide +kernel
theorem dL_law_406 : decode cL_law 406 = .ok (.aload_n 0, 1) := by decide +kernel
theorem dL_law_407 : decode cL_law 407 = .ok (.iload_n 3, 1) := by decide +kernel
theorem dL_law_408 : decode cL_law 408 = .ok (.iconst 3, 1) := by decide +kernel
theorem dL_law_409 : decode cL_law 409 = .ok (.iadd, 1) := by decide +kernel
theorem dL_law_410 : decode cL_law 410 = .ok (.iaload, 1) := by decide +kernel
theorem dL_law_411 : decode cL_law 411 = .ok (.invokevirtual 44, 3) := by decide +kernel
theorem dL_law_414 : decode cL_law 414 = .ok (.if_icmp .eq 501, 3) := by decide +kernel
theorem dL_law_417 : decode cL_law 417 = .ok (.iconst 0, 1) := by decide +kernel
theorem dL_law_418 : decode cL_law 418 = .ok (.ireturn, 1) := by decide +kernel
theorem dL_law_419 : decode cL_law 419 = .ok (.aload_n 1, 1) := by decide +kernel
theorem dL_law_420 : decode cL_law 420 = .ok (.aload_n 0, 1) := by decide +kernel
theorem dL_law_421 : decode cL_law 421 = .ok (.iload_n 3, 1) := by decide +kernel
theorem dL_law_422 : decode cL_law 422 = .ok (.iconst 1, 1) := by decide +kernel
theorem dL_law_423 : decode cL_law 423 = .ok (.iadd, 1) := by decide +kernel
theorem dL_law_424 : decode cL_law 424 = .ok (.iaload, 1) := by decide +kernel
theorem dL_law_425 : decode cL_law 425 = .ok (.aload_n 0, 1) := by decide +kernel
theorem dL_law_426 : decode cL_law 426 = .ok (.iload_n 3, 1) := by decide +kernel
theorem dL_law_427 : decode cL_law 427 = .ok (.iconst 2, 1) := by decide +kernel
theorem dL_law_428 : decode cL_law 428 = .ok (.iadd, 1) := by decide +kernel
theorem dL_law_429 : decode cL_law 429 = .ok (.iaload, 1) := by decide +kernel
theorem dL_law_430 : decode cL_law 430 = .ok (.invokevirtual 45, 3) := by decide +kernel
theorem dL_law_433 : decode cL_law 433 = .ok (.aload_n 2, 1) := by decide +kernel
theorem dL_law_434 : decode cL_law 434 = .ok (.aload_n 0, 1) := by decide +kernel
theorem dL_law_435 : decode cL_law 435 = .ok (.iload_n 3, 1) := by decide +kernel
theorem dL_law_436 : decode cL_law 436 = .ok (.iconst 1, 1) := by decide +kernel
theorem dL_law_437 : decode cL_law 437 = .ok (.iadd, 1) := by decide +kernel
theorem dL_law_438 : decode cL_law 438 = .ok (.iaload, 1) := by decide +kernel
theorem dL_law_439 : decode cL_law 439 = .ok (.aload_n 0, 1) := by decide +kernel
theorem dL_law_440 : decode cL_law 440 = .ok (.iload_n 3, 1) := by decide +kernel
theorem dL_law_441 : decode cL_law 441 = .ok (.iconst 2, 1) := by decide +kernel
theorem dL_law_442 : decode cL_law 442 = .ok (.iadd, 1) := by decide +kernel
theorem dL_law_443 : decode cL_law 443 = .ok (.iaload, 1) := by decide +kernel
theorem dL_law_444 : decode cL_law 444 = .ok (.invokevirtual 48, 3) := by decide +kernel
theorem dL_law_447 : decode cL_law 447 = .ok (.if_icmp .eq 468, 3) := by decide +kernel
theorem dL_law_450 : decode cL_law 450 = .ok (.iconst 0, 1) := by decide +kernel
theorem dL_law_451 : decode cL_law 451 = .ok (.ireturn, 1) := by decide +kernel
theorem dL_law_452 : decode cL_law 452 = .ok (.aload_n 1, 1) := by decide +kernel
theorem dL_law_453 : decode cL_law 453 = .ok (.aload_n 0, 1) := by decide +kernel
theorem dL_law_454 : decode cL_law 454 = .ok (.iload_n 3, 1) := by decide +kernel
theorem dL_law_455 : decode cL_law 455 = .ok (.iconst 1, 1) := by decide +kernel
theorem dL_law_456 : decode cL_law 456 = .ok (.iadd, 1) := by decide +kernel
theorem dL_law_457 : decode cL_law 457 = .ok (.iaload, 1) := by decide +kernel
theorem dL_law_458 : decode cL_law 458 = .ok (.invokevirtual 49, 3) := by decide +kernel
theorem dL_law_461 : decode cL_law 461 = .ok (.aload_n 2, 1) := by decide +kernel
theorem dL_law_462 : decode cL_law 462 = .ok (.aload_n 0, 1) := by decide +kernel
theorem dL_law_463 : decode cL_law 463 = .ok (.iload_n 3, 1) := by decide +kernel
theorem dL_law_464 : decode cL_law 464 = .ok (.iconst 1, 1) := by decide +kernel
theorem dL_law_465 : decode cL_law 465 = .ok (.iadd, 1) := by decide +kernel
theorem dL_law_466 : decode cL_law 466 = .ok (.iaload, 1) := by decide +kernel
theorem dL_law_467 : decode cL_law 467 = .ok (.invokevirtual 53, 3) := by decide +kernel
theorem dL_law_470 : decode cL_law 470 = .ok (.if_icmp .eq 445, 3) := by decide +kernel
theorem dL_law_473 : decode cL_law 473 = .ok (.iconst 0, 1) := by decide +kernel
theorem dL_law_474 : decode cL_law 474 = .ok (.ireturn, 1) := by decide +kernel
theorem dL_law_475 : decode cL_law 475 = .ok (.aload_n 1, 1) := by decide +kernel
theorem dL_law_476 : decode cL_law 476 = .ok (.aload_n 0, 1) := by decide +kernel
theorem dL_law_477 : decode cL_law 477 = .ok (.iload_n 3, 1) := by decide +kernel
theorem dL_law_478 : decode cL_law 478 = .ok (.iconst 1, 1) := by decide +kernel
theorem dL_law_479 : decode cL_law 479 = .ok (.iadd, 1) := by decide +kernel
theorem dL_law_480 : decode cL_law 480 = .ok (.iaload, 1) := by decide +kernel
theorem dL_law_481 : decode cL_law 481 = .ok (.aload_n 0, 1) := by decide +kernel
theorem dL_law_482 : decode cL_law 482 = .ok (.iload_n 3, 1) := by decide +kernel
theorem dL_law_483 : decode cL_law 483 = .ok (.iconst 2, 1) := by decide +kernel
theorem dL_law_484 : decode cL_law 484 = .ok (.iadd, 1) := by decide +kernel
theorem dL_law_485 : decode cL_law 485 = .ok (.iaload, 1) := by decide +kernel
theorem dL_law_486 : decode cL_law 486 = .ok (.aload_n 0, 1) := by decide +kernel
theorem dL_law_487 : decode cL_law 487 = .ok (.iload_n 3, 1) := by decide +kernel
theorem dL_law_488 : decode cL_law 488 = .ok (.iconst 3, 1) := by decide +kernel
theorem dL_law_489 : decode cL_law 489 = .ok (.iadd, 1) := by decide +kernel
theorem dL_law_490 : decode cL_law 490 = .ok (.iaload, 1) := by decide +kernel
theorem dL_law_491 : decode cL_law 491 = .ok (.invokevirtual 54, 3) := by decide +kernel
theorem dL_law_494 : decode cL_law 494 = .ok (.aload_n 2, 1) := by decide +kernel
theorem dL_law_495 : decode cL_law 495 = .ok (.aload_n 0, 1) := by decide +kernel
theorem dL_law_496 : decode cL_law 496 = .ok (.iload_n 3, 1) := by decide +kernel
theorem dL_law_497 : decode cL_law 497 = .ok (.iconst 1, 1) := by decide +kernel
theorem dL_law_498 : decode cL_law 498 = .ok (.iadd, 1) := by decide +kernel
theorem dL_law_499 : decode cL_law 499 = .ok (.iaload, 1) := by decide +kernel
theorem dL_law_500 : decode cL_law 500 = .ok (.aload_n 0, 1) := by decide +kernel
theorem dL_law_501 : decode cL_law 501 = .ok (.iload_n 3, 1) := by decide +kernel
theorem dL_law_502 : decode cL_law 502 = .ok (.iconst 2, 1) := by decide +kernel
theorem dL_law_503 : decode cL_law 503 = .ok (.iadd, 1) := by decide +kernel
theorem dL_law_504 : decode cL_law 504 = .ok (.iaload, 1) := by decide +kernel
theorem dL_law_505 : decode cL_law 505 = .ok (.aload_n 0, 1) := by decide +kernel
theorem dL_law_506 : decode cL_law 506 = .ok (.iload_n 3, 1) := by decide +kernel
theorem dL_law_507 : decode cL_law 507 = .ok (.iconst 3, 1) := by decide +kernel
theorem dL_law_508 : decode cL_law 508 = .ok (.iadd, 1) := by decide +kernel
theorem dL_law_509 : decode cL_law 509 = .ok (.iaload, 1) := by decide +kernel
theorem dL_law_510 : decode cL_law 510 = .ok (.invokevirtual 57, 3) := by decide +kernel
theorem dL_law_513 : decode cL_law 513 = .ok (.if_icmp .eq 402, 3) := by decide +kernel
theorem dL_law_516 : decode cL_law 516 = .ok (.iconst 0, 1) := by decide +kernel
theorem dL_law_517 : decode cL_law 517 = .ok (.ireturn, 1) := by decide +kernel
theorem dL_law_518 : decode cL_law 518 = .ok (.aload_n 1, 1) := by decide +kernel
theorem dL_law_519 : decode cL_law 519 = .ok (.aload_n 0, 1) := by decide +kernel
theorem dL_law_520 : decode cL_law 520 = .ok (.iload_n 3, 1) := by decide +kernel
theorem dL_law_521 : decode cL_law 521 = .ok (.iconst 1, 1) := by decide +kernel
theorem dL_law_522 : decode cL_law 522 = .ok (.iadd, 1) := by decide +kernel
theorem dL_law_523 : decode cL_law 523 = .ok (.iaload, 1) := by decide +kernel
theorem dL_law_524 : decode cL_law 524 = .ok (.invokevirtual 58, 3) := by decide +kernel
theorem dL_law_527 : decode cL_law 527 = .ok (.aload_n 2, 1) := by decide +kernel
theorem dL_law_528 : decode cL_law 528 = .ok (.aload_n 0, 1) := by decide +kernel
theorem dL_law_529 : decode cL_law 529 = .ok (.iload_n 3, 1) := by decide +kernel
theorem dL_law_530 : decode cL_law 530 = .ok (.iconst 1, 1) := by decide +kernel
theorem dL_law_531 : decode cL_law 531 = .ok (.iadd, 1) := by decide +kernel
theorem dL_law_532 : decode cL_law 532 = .ok (.iaload, 1) := by decide +kernel
theorem dL_law_533 : decode cL_law 533 = .ok (.invokevirtual 61, 3) := by decide +kernel
theorem dL_law_536 : decode cL_law 536 = .ok (.if_icmp .eq 379, 3) := by decide +kernel
theorem dL_law_539 : decode cL_law 539 = .ok (.iconst 0, 1) := by decide +kernel
theorem dL_law_540 : decode cL_law 540 = .ok (.ireturn, 1) := by decide +kernel
theorem dL_law_541 : decode cL_law 541 = .ok (.aload_n 1, 1) := by decide +kernel
theorem dL_law_542 : decode cL_law 542 = .ok (.aload_n 0, 1) := by decide +kernel
theorem dL_law_543 : decode cL_law 543 = .ok (.iload_n 3, 1) := by decide +kernel
theorem dL_law_544 : decode cL_law 544 = .ok (.iconst 1, 1) := by decide +kernel
theorem dL_law_545 : decode cL_law 545 = .ok (.iadd, 1) := by decide +kernel
theorem dL_law_546 : decode cL_law 546 = .ok (.iaload, 1) := by decide +kernel
theorem dL_law_547 : decode cL_law 547 = .ok (.i2c, 1) := by decide +kernel
theorem dL_law_548 : decode cL_law 548 = .ok (.invokevirtual 62, 3) := by decide +kernel
theorem dL_law_551 : decode cL_law 551 = .ok (.aload_n 2, 1) := by decide +kernel
theorem dL_law_552 : decode cL_law 552 = .ok (.aload_n 0, 1) := by decide +kernel
theorem dL_law_553 : decode cL_law 553 = .ok (.iload_n 3, 1) := by decide +kernel
theorem dL_law_554 : decode cL_law 554 = .ok (.iconst 1, 1) := by decide +kernel
theorem dL_law_555 : decode cL_law 555 = .ok (.iadd, 1) := by decide +kernel
theorem dL_law_556 : decode cL_law 556 = .ok (.iaload, 1) := by decide +kernel
theorem dL_law_557 : decode cL_law 557 = .ok (.i2c, 1) := by decide +kernel
theorem dL_law_558 : decode cL_law 558 = .ok (.invokevirtual 66, 3) := by decide +kernel
theorem dL_law_561 : decode cL_law 561 = .ok (.if_icmp .eq 354, 3) := by decide +kernel
theorem dL_law_564 : decode cL_law 564 = .ok (.iconst 0, 1) := by decide +kernel
theorem dL_law_565 : decode cL_law 565 = .ok (.ireturn, 1) := by decide +kernel
theorem dL_law_566 : decode cL_law 566 = .ok (.aload_n 1, 1) := by decide +kernel
theorem dL_law_567 : decode cL_law 567 = .ok (.invokevirtual 67, 3) := by decide +kernel
theorem dL_law_570 : decode cL_law 570 = .ok (.aload_n 2, 1) := by decide +kernel
theorem dL_law_571 : decode cL_law 571 = .ok (.invokevirtual 70, 3) := by decide +kernel
theorem dL_law_574 : decode cL_law 574 = .ok (.if_icmp .eq 341, 3) := by decide +kernel
theorem dL_law_577 : decode cL_law 577 = .ok (.iconst 0, 1) := by decide +kernel
theorem dL_law_578 : decode cL_law 578 = .ok (.ireturn, 1) := by decide +kernel
theorem dL_law_579 : decode cL_law 579 = .ok (.aload_n 1, 1) := by decide +kernel
theorem dL_law_580 : decode cL_law 580 = .ok (.invokevirtual 71, 3) := by decide +kernel
theorem dL_law_583 : decode cL_law 583 = .ok (.aload_n 2, 1) := by decide +kernel
theorem dL_law_584 : decode cL_law 584 = .ok (.invokevirtual 74, 3) := by decide +kernel
theorem dL_law_587 : decode cL_law 587 = .ok (.if_icmp .eq 328, 3) := by decide +kernel
theorem dL_law_590 : decode cL_law 590 = .ok (.iconst 0, 1) := by decide +kernel
theorem dL_law_591 : decode cL_law 591 = .ok (.ireturn, 1) := by decide +kernel
theorem dL_law_592 : decode cL_law 592 = .ok (.aload_n 1, 1) := by decide +kernel
theorem dL_law_593 : decode cL_law 593 = .ok (.invokevirtual 75, 3) := by decide +kernel
theorem dL_law_596 : decode cL_law 596 = .ok (.aload_n 2, 1) := by decide +kernel
theorem dL_law_597 : decode cL_law 597 = .ok (.invokevirtual 78, 3) := by decide +kernel
theorem dL_law_600 : decode cL_law 600 = .ok (.if_icmp .eq 315, 3) := by decide +kernel
theorem dL_law_603 : decode cL_law 603 = .ok (.iconst 0, 1) := by decide +kernel
theorem dL_law_604 : decode cL_law 604 = .ok (.ireturn, 1) := by decide +kernel
theorem dL_law_605 : decode cL_law 605 = .ok (.aload_n 1, 1) := by decide +kernel
theorem dL_law_606 : decode cL_law 606 = .ok (.invokevirtual 79, 3) := by decide +kernel
theorem dL_law_609 : decode cL_law 609 = .ok (.aload_n 2, 1) := by decide +kernel
theorem dL_law_610 : decode cL_law 610 = .ok (.invokevirtual 82, 3) := by decide +kernel
theorem dL_law_613 : decode cL_law 613 = .ok (.if_icmp .eq 302, 3) := by decide +kernel
theorem dL_law_616 : decode cL_law 616 = .ok (.iconst 0, 1) := by decide +kernel
theorem dL_law_617 : decode cL_law 617 = .ok (.ireturn, 1) := by decide +kernel
theorem dL_law_618 : decode cL_law 618 = .ok (.aload_n 1, 1) := by decide +kernel
theorem dL_law_619 : decode cL_law 619 = .ok (.invokevirtual 83, 3) := by decide +kernel
theorem dL_law_622 : decode cL_law 622 = .ok (.aload_n 2, 1) := by decide +kernel
theorem dL_law_623 : decode cL_law 623 = .ok (.invokevirtual 86, 3) := by decide +kernel
theorem dL_law_626 : decode cL_law 626 = .ok (.if_icmp .eq 289, 3) := by decide +kernel
theorem dL_law_629 : decode cL_law 629 = .ok (.iconst 0, 1) := by decide +kernel
theorem dL_law_630 : decode cL_law 630 = .ok (.ireturn, 1) := by decide +kernel
theorem dL_law_631 : decode cL_law 631 = .ok (.aload_n 1, 1) := by decide +kernel
theorem dL_law_632 : decode cL_law 632 = .ok (.aload_n 0, 1) := by decide +kernel
theorem dL_law_633 : decode cL_law 633 = .ok (.iload_n 3, 1) := by decide +kernel
theorem dL_law_634 : decode cL_law 634 = .ok (.iconst 1, 1) := by decide +kernel
theorem dL_law_635 : decode cL_law 635 = .ok (.iadd, 1) := by decide +kernel
theorem dL_law_636 : decode cL_law 636 = .ok (.iaload, 1) := by decide +kernel
theorem dL_law_637 : decode cL_law 637 = .ok (.aload_n 0, 1) := by decide +kernel
theorem dL_law_638 : decode cL_law 638 = .ok (.iload_n 3, 1) := by decide +kernel
theorem dL_law_639 : decode cL_law 639 = .ok (.iconst 2, 1) := by decide +kernel
theorem dL_law_640 : decode cL_law 640 = .ok (.iadd, 1) := by decide +kernel
theorem dL_law_641 : decode cL_law 641 = .ok (.iaload, 1) := by decide +kernel
theorem dL_law_642 : decode cL_law 642 = .ok (.invokevirtual 87, 3) := by decide +kernel
theorem dL_law_645 : decode cL_law 645 = .ok (.aload_n 2, 1) := by decide +kernel
theorem dL_law_646 : decode cL_law 646 = .ok (.aload_n 0, 1) := by decide +kernel
theorem dL_law_647 : decode cL_law 647 = .ok (.iload_n 3, 1) := by decide +kernel
theorem dL_law_648 : decode cL_law 648 = .ok (.iconst 1, 1) := by decide +kernel
theorem dL_law_649 : decode cL_law 649 = .ok (.iadd, 1) := by decide +kernel
theorem dL_law_650 : decode cL_law 650 = .ok (.iaload, 1) := by decide +kernel
theorem dL_law_651 : decode cL_law 651 = .ok (.aload_n 0, 1) := by decide +kernel
theorem dL_law_652 : decode cL_law 652 = .ok (.iload_n 3, 1) := by decide +kernel
theorem dL_law_653 : decode cL_law 653 = .ok (.iconst 2, 1) := by decide +kernel
theorem dL_law_654 : decode cL_law 654 = .ok (.iadd, 1) := by decide +kernel
theorem dL_law_655 : decode cL_law 655 = .ok (.iaload, 1) := by decide +kernel
theorem dL_law_656 : decode cL_law 656 = .ok (.invokevirtual 90, 3) := by decide +kernel
theorem dL_law_659 : decode cL_law 659 = .ok (.if_icmp .eq 256, 3) := by decide +kernel
theorem dL_law_662 : decode cL_law 662 = .ok (.iconst 0, 1) := by decide +kernel
theorem dL_law_663 : decode cL_law 663 = .ok (.ireturn, 1) := by decide +kernel
theorem dL_law_664 : decode cL_law 664 = .ok (.aload_n 1, 1) := by decide +kernel
theorem dL_law_665 : decode cL_law 665 = .ok (.aload_n 0, 1) := by decide +kernel
theorem dL_law_666 : decode cL_law 666 = .ok (.iload_n 3, 1) := by decide +kernel
theorem dL_law_667 : decode cL_law 667 = .ok (.iconst 1, 1) := by decide +kernel
theorem dL_law_668 : decode cL_law 668 = .ok (.iadd, 1) := by decide +kernel
theorem dL_law_669 : decode cL_law 669 = .ok (.iaload, 1) := by decide +kernel
theorem dL_law_670 : decode cL_law 670 = .ok (.aload_n 0, 1) := by decide +kernel
theorem dL_law_671 : decode cL_law 671 = .ok (.iload_n 3, 1) := by decide +kernel
theorem dL_law_672 : decode cL_law 672 = .ok (.iconst 2, 1) := by decide +kernel
theorem dL_law_673 : decode cL_law 673 = .ok (.iadd, 1) := by decide +kernel
theorem dL_law_674 : decode cL_law 674 = .ok (.iaload, 1) := by decide +kernel
theorem dL_law_675 : decode cL_law 675 = .ok (.invokevirtual 91, 3) := by decide +kernel
theorem dL_law_678 : decode cL_law 678 = .ok (.aload_n 2, 1) := by decide +kernel
theorem dL_law_679 : decode cL_law 679 = .ok (.aload_n 0, 1) := by decide +kernel
theorem dL_law_680 : decode cL_law 680 = .ok (.iload_n 3, 1) := by decide +kernel
theorem dL_law_681 : decode cL_law 681 = .ok (.iconst 1, 1) := by decide +kernel
theorem dL_law_682 : decode cL_law 682 = .ok (.iadd, 1) := by decide +kernel
theorem dL_law_683 : decode cL_law 683 = .ok (.iaload, 1) := by decide +kernel
theorem dL_law_684 : decode cL_law 684 = .ok (.aload_n 0, 1) := by decide +kernel
theorem dL_law_685 : decode cL_law 685 = .ok (.iload_n 3, 1) := by decide +kernel
theorem dL_law_686 : decode cL_law 686 = .ok (.iconst 2, 1) := by decide +kernel
theorem dL_law_687 : decode cL_law 687 = .ok (.iadd, 1) := by decide +kernel
theorem dL_law_688 : decode cL_law 688 = .ok (.iaload, 1) := by decide +kernel
theorem dL_law_689 : decode cL_law 689 = .ok (.invokevirtual 94, 3) := by decide +kernel
theorem dL_law_692 : decode cL_law 692 = .ok (.if_icmp .eq 223, 3) := by decide +kernel
theorem dL_law_695 : decode cL_law 695 = .ok (.iconst 0, 1) := by decide +kernel
theorem dL_law_696 : decode cL_law 696 = .ok (.ireturn, 1) := by decide +kernel
theorem dL_law_697 : decode cL_law 697 = .ok (.aload_n 1, 1) := by decide +kernel
theorem dL_law_698 : decode cL_law 698 = .ok (.aload_n 0, 1) := by decide +kernel
theorem dL_law_699 : decode cL_law 699 = .ok (.iload_n 3, 1) := by decide +kernel
theorem dL_law_700 : decode cL_law 700 = .ok (.iconst 1, 1) := by decide +kernel
theorem dL_law_701 : decode cL_law 701 = .ok (.iadd, 1) := by decide +kernel
theorem dL_law_702 : decode cL_law 702 = .ok (.iaload, 1) := by decide +kernel
theorem dL_law_703 : decode cL_law 703 = .ok (.aload_n 0, 1) := by decide +kernel
theorem dL_law_704 : decode cL_law 704 = .ok (.iload_n 3, 1) := by decide +kernel
theorem dL_law_705 : decode cL_law 705 = .ok (.iconst 2, 1) := by decide +kernel
theorem dL_law_706 : decode cL_law 706 = .ok (.iadd, 1) := by decide +kernel
theorem dL_law_707 : decode cL_law 707 = .ok (.iaload, 1) := by decide +kernel
theorem dL_law_708 : decode cL_law 708 = .ok (.aload_n 0, 1) := by decide +kernel
theorem dL_law_709 : decode cL_law 709 = .ok (.iload_n 3, 1) := by decide +kernel
theorem dL_law_710 : decode cL_law 710 = .ok (.iconst 3, 1) := by decide +kernel
theorem dL_law_711 : decode cL_law 711 = .ok (.iadd, 1) := by decide +kernel
theorem dL_law_712 : decode cL_law 712 = .ok (.iaload, 1) := by decide +kernel
theorem dL_law_713 : decode cL_law 713 = .ok (.invokevirtual 95, 3) := by decide +kernel
theorem dL_law_716 : decode cL_law 716 = .ok (.aload_n 2, 1) := by decide +kernel
theorem dL_law_717 : decode cL_law 717 = .ok (.aload_n 0, 1) := by decide +kernel
theorem dL_law_718 : decode cL_law 718 = .ok (.iload_n 3, 1) := by decide +kernel
theorem dL_law_719 : decode cL_law 719 = .ok (.iconst 1, 1) := by decide +kernel
theorem dL_law_720 : decode cL_law 720 = .ok (.iadd, 1) := by decide +kernel
theorem dL_law_721 : decode cL_law 721 = .ok (.iaload, 1) := by decide +kernel
theorem dL_law_722 : decode cL_law 722 = .ok (.aload_n 0, 1) := by decide +kernel
theorem dL_law_723 : decode cL_law 723 = .ok (.iload_n 3, 1) := by decide +kernel
theorem dL_law_724 : decode cL_law 724 = .ok (.iconst 2, 1) := by decide +kernel
theorem dL_law_725 : decode cL_law 725 = .ok (.iadd, 1) := by decide +kernel
theorem dL_law_726 : decode cL_law 726 = .ok (.iaload, 1) := by decide +kernel
theorem dL_law_727 : decode cL_law 727 = .ok (.aload_n 0, 1) := by decide +kernel
theorem dL_law_728 : decode cL_law 728 = .ok (.iload_n 3, 1) := by decide +kernel
theorem dL_law_729 : decode cL_law 729 = .ok (.iconst 3, 1) := by decide +kernel
theorem dL_law_730 : decode cL_law 730 = .ok (.iadd, 1) := by decide +kernel
theorem dL_law_731 : decode cL_law 731 = .ok (.iaload, 1) := by decide +kernel
theorem dL_law_732 : decode cL_law 732 = .ok (.invokevirtual 98, 3) := by decide +kernel
theorem dL_law_735 : decode cL_law 735 = .ok (.if_icmp .eq 180, 3) := by decide +kernel
theorem dL_law_738 : decode cL_law 738 = .ok (.iconst 0, 1) := by decide +kernel
theorem dL_law_739 : decode cL_law 739 = .ok (.ireturn, 1) := by decide +kernel
theorem dL_law_740 : decode cL_law 740 = .ok (.aload_n 1, 1) := by decide +kernel
theorem dL_law_741 : decode cL_law 741 = .ok (.aload_n 0, 1) := by decide +kernel
theorem dL_law_742 : decode cL_law 742 = .ok (.iload_n 3, 1) := by decide +kernel
theorem dL_law_743 : decode cL_law 743 = .ok (.iconst 1, 1) := by decide +kernel
theorem dL_law_744 : decode cL_law 744 = .ok (.iadd, 1) := by decide +kernel
theorem dL_law_745 : decode cL_law 745 = .ok (.iaload, 1) := by decide +kernel
theorem dL_law_746 : decode cL_law 746 = .ok (.aload_n 0, 1) := by decide +kernel
theorem dL_law_747 : decode cL_law 747 = .ok (.iload_n 3, 1) := by decide +kernel
theorem dL_law_748 : decode cL_law 748 = .ok (.iconst 2, 1) := by decide +kernel
theorem dL_law_749 : decode cL_law 749 = .ok (.iadd, 1) := by decide +kernel
theorem dL_law_750 : decode cL_law 750 = .ok (.iaload, 1) := by decide +kernel
theorem dL_law_751 : decode cL_law 751 = .ok (.invokevirtual 99, 3) := by decide +kernel
theorem dL_law_754 : decode cL_law 754 = .ok (.aload_n 2, 1) := by decide +kernel
theorem dL_law_755 : decode cL_law 755 = .ok (.aload_n 0, 1) := by decide +kernel
theorem dL_law_756 : decode cL_law 756 = .ok (.iload_n 3, 1) := by decide +kernel
theorem dL_law_757 : decode cL_law 757 = .ok (.iconst 1, 1) := by decide +kernel
theorem dL_law_758 : decode cL_law 758 = .ok (.iadd, 1) := by decide +kernel
theorem dL_law_759 : decode cL_law 759 = .ok (.iaload, 1) := by decide +kernel
theorem dL_law_760 : decode cL_law 760 = .ok (.aload_n 0, 1) := by decide +kernel
theorem dL_law_761 : decode cL_law 761 = .ok (.iload_n 3, 1) := by decide +kernel
theorem dL_law_762 : decode cL_law 762 = .ok (.iconst 2, 1) := by decide +kernel
theorem dL_law_763 : decode cL_law 763 = .ok (.iadd, 1) := by decide +kernel
theorem dL_law_764 : decode cL_law 764 = .ok (.iaload, 1) := by decide +kernel
theorem dL_law_765 : decode cL_law 765 = .ok (.invokevirtual 102, 3) := by decide +kernel
theorem dL_law_768 : decode cL_law 768 = .ok (.if_icmp .eq 147, 3) := by decide +kernel
theorem dL_law_771 : decode cL_law 771 = .ok (.iconst 0, 1) := by decide +kernel
theorem dL_law_772 : decode cL_law 772 = .ok (.ireturn, 1) := by decide +kernel
theorem dL_law_773 : decode cL_law 773 = .ok (.aload_n 1, 1) := by decide +kernel
theorem dL_law_774 : decode cL_law 774 = .ok (.aload_n 0, 1) := by decide +kernel
theorem dL_law_775 : decode cL_law 775 = .ok (.iload_n 3, 1) := by decide +kernel
theorem dL_law_776 : decode cL_law 776 = .ok (.iconst 1, 1) := by decide +kernel
theorem dL_law_777 : decode cL_law 777 = .ok (.iadd, 1) := by decide +kernel
theorem dL_law_778 : decode cL_law 778 = .ok (.iaload, 1) := by decide +kernel
theorem dL_law_779 : decode cL_law 779 = .ok (.aload_n 0, 1) := by decide +kernel
theorem dL_law_780 : decode cL_law 780 = .ok (.iload_n 3, 1) := by decide +kernel
theorem dL_law_781 : decode cL_law 781 = .ok (.iconst 2, 1) := by decide +kernel
theorem dL_law_782 : decode cL_law 782 = .ok (.iadd, 1) := by decide +kernel
theorem dL_law_783 : decode cL_law 783 = .ok (.iaload, 1) := by decide +kernel
theorem dL_law_784 : decode cL_law 784 = .ok (.invokevirtual 103, 3) := by decide +kernel
theorem dL_law_787 : decode cL_law 787 = .ok (.aload_n 2, 1) := by decide +kernel
theorem dL_law_788 : decode cL_law 788 = .ok (.aload_n 0, 1) := by decide +kernel
theorem dL_law_789 : decode cL_law 789 = .ok (.iload_n 3, 1) := by decide +kernel
theorem dL_law_790 : decode cL_law 790 = .ok (.iconst 1, 1) := by decide +kernel
theorem dL_law_791 : decode cL_law 791 = .ok (.iadd, 1) := by decide +kernel
theorem dL_law_792 : decode cL_law 792 = .ok (.iaload, 1) := by decide +kernel
theorem dL_law_793 : decode cL_law 793 = .ok (.aload_n 0, 1) := by decide +kernel
theorem dL_law_794 : decode cL_law 794 = .ok (.iload_n 3, 1) := by decide +kernel
theorem dL_law_795 : decode cL_law 795 = .ok (.iconst 2, 1) := by decide +kernel
theorem dL_law_796 : decode cL_law 796 = .ok (.iadd, 1) := by decide +kernel
theorem dL_law_797 : decode cL_law 797 = .ok (.iaload, 1) := by decide +kernel
theorem dL_law_798 : decode cL_law 798 = .ok (.invokevirtual 106, 3) := by decide +kernel
theorem dL_law_801 : decode cL_law 801 = .ok (.if_icmp .eq 114, 3) := by decide +kernel
theorem dL_law_804 : decode cL_law 804 = .ok (.iconst 0, 1) := by decide +kernel
theorem dL_law_805 : decode cL_law 805 = .ok (.ireturn, 1) := by decide +kernel
theorem dL_law_806 : decode cL_law 806 = .ok (.aload_n 1, 1) := by decide +kernel
theorem dL_law_807 : decode cL_law 807 = .ok (.aload_n 0, 1) := by decide +kernel
theorem dL_law_808 : decode cL_law 808 = .ok (.iload_n 3, 1) := by decide +kernel
theorem dL_law_809 : decode cL_law 809 = .ok (.iconst 1, 1) := by decide +kernel
theorem dL_law_810 : decode cL_law 810 = .ok (.iadd, 1) := by decide +kernel
theorem dL_law_811 : decode cL_law 811 = .ok (.iaload, 1) := by decide +kernel
theorem dL_law_812 : decode cL_law 812 = .ok (.aload_n 0, 1) := by decide +kernel
theorem dL_law_813 : decode cL_law 813 = .ok (.iload_n 3, 1) := by decide +kernel
theorem dL_law_814 : decode cL_law 814 = .ok (.iconst 2, 1) := by decide +kernel
theorem dL_law_815 : decode cL_law 815 = .ok (.iadd, 1) := by decide +kernel
theorem dL_law_816 : decode cL_law 816 = .ok (.iaload, 1) := by decide +kernel
theorem dL_law_817 : decode cL_law 817 = .ok (.invokevirtual 107, 3) := by decide +kernel
theorem dL_law_820 : decode cL_law 820 = .ok (.aload_n 2, 1) := by decide +kernel
theorem dL_law_821 : decode cL_law 821 = .ok (.aload_n 0, 1) := by decide +kernel
theorem dL_law_822 : decode cL_law 822 = .ok (.iload_n 3, 1) := by decide +kernel
theorem dL_law_823 : decode cL_law 823 = .ok (.iconst 1, 1) := by decide +kernel
theorem dL_law_824 : decode cL_law 824 = .ok (.iadd, 1) := by decide +kernel
theorem dL_law_825 : decode cL_law 825 = .ok (.iaload, 1) := by decide +kernel
theorem dL_law_826 : decode cL_law 826 = .ok (.aload_n 0, 1) := by decide +kernel
theorem dL_law_827 : decode cL_law 827 = .ok (.iload_n 3, 1) := by decide +kernel
theorem dL_law_828 : decode cL_law 828 = .ok (.iconst 2, 1) := by decide +kernel
theorem dL_law_829 : decode cL_law 829 = .ok (.iadd, 1) := by decide +kernel
theorem dL_law_830 : decode cL_law 830 = .ok (.iaload, 1) := by decide +kernel
theorem dL_law_831 : decode cL_law 831 = .ok (.invokevirtual 110, 3) := by decide +kernel
theorem dL_law_834 : decode cL_law 834 = .ok (.if_icmp .eq 81, 3) := by decide +kernel
theorem dL_law_837 : decode cL_law 837 = .ok (.iconst 0, 1) := by decide +kernel
theorem dL_law_838 : decode cL_law 838 = .ok (.ireturn, 1) := by decide +kernel
theorem dL_law_839 : decode cL_law 839 = .ok (.aload_n 1, 1) := by decide +kernel
theorem dL_law_840 : decode cL_law 840 = .ok (.aload_n 0, 1) := by decide +kernel
theorem dL_law_841 : decode cL_law 841 = .ok (.iload_n 3, 1) := by decide +kernel
theorem dL_law_842 : decode cL_law 842 = .ok (.iconst 1, 1) := by decide +kernel
theorem dL_law_843 : decode cL_law 843 = .ok (.iadd, 1) := by decide +kernel
theorem dL_law_844 : decode cL_law 844 = .ok (.iaload, 1) := by decide +kernel
theorem dL_law_845 : decode cL_law 845 = .ok (.aload_n 0, 1) := by decide +kernel
theorem dL_law_846 : decode cL_law 846 = .ok (.iload_n 3, 1) := by decide +kernel
theorem dL_law_847 : decode cL_law 847 = .ok (.iconst 2, 1) := by decide +kernel
theorem dL_law_848 : decode cL_law 848 = .ok (.iadd, 1) := by decide +kernel
theorem dL_law_849 : decode cL_law 849 = .ok (.iaload, 1) := by decide +kernel
theorem dL_law_850 : decode cL_law 850 = .ok (.aload_n 0, 1) := by decide +kernel
theorem dL_law_851 : decode cL_law 851 = .ok (.iload_n 3, 1) := by decide +kernel
theorem dL_law_852 : decode cL_law 852 = .ok (.iconst 3, 1) := by decide +kernel
theorem dL_law_853 : decode cL_law 853 = .ok (.iadd, 1) := by decide +kernel
theorem dL_law_854 : decode cL_law 854 = .ok (.iaload, 1) := by decide +kernel
theorem dL_law_855 : decode cL_law 855 = .ok (.aload_n 0, 1) := by decide +kernel
theorem dL_law_856 : decode cL_law 856 = .ok (.iload_n 3, 1) := by decide +kernel
theorem dL_law_857 : decode cL_law 857 = .ok (.iconst 4, 1) := by decide +kernel
theorem dL_law_858 : decode cL_law 858 = .ok (.iadd, 1) := by decide +kernel
theorem dL_law_859 : decode cL_law 859 = .ok (.iaload, 1) := by decide +kernel
theorem dL_law_860 : decode cL_law 860 = .ok (.invokevirtual 111, 3) := by decide +kernel
theorem dL_law_863 : decode cL_law 863 = .ok (.aload_n 2, 1) := by decide +kernel
theorem dL_law_864 : decode cL_law 864 = .ok (.aload_n 0, 1) := by decide +kernel
theorem dL_law_865 : decode cL_law 865 = .ok (.iload_n 3, 1) := by decide +kernel
theorem dL_law_866 : decode cL_law 866 = .ok (.iconst 1, 1) := by decide +kernel
theorem dL_law_867 : decode cL_law 867 = .ok (.iadd, 1) := by decide +kernel
theorem dL_law_868 : decode cL_law 868 = .ok (.iaload, 1) := by decide +kernel
theorem dL_law_869 : decode cL_law 869 = .ok (.aload_n 0, 1) := by decide +kernel
theorem dL_law_870 : decode cL_law 870 = .ok (.iload_n 3, 1) := by decide +kernel
theorem dL_law_871 : decode cL_law 871 = .ok (.iconst 2, 1) := by decide +kernel
theorem dL_law_872 : decode cL_law 872 = .ok (.iadd, 1) := by decide +kernel
theorem dL_law_873 : decode cL_law 873 = .ok (.iaload, 1) := by decide +kernel
theorem dL_law_874 : decode cL_law 874 = .ok (.aload_n 0, 1) := by decide +kernel
theorem dL_law_875 : decode cL_law 875 = .ok (.iload_n 3, 1) := by decide +kernel
theorem dL_law_876 : decode cL_law 876 = .ok (.iconst 3, 1) := by decide +kernel
theorem dL_law_877 : decode cL_law 877 = .ok (.iadd, 1) := by decide +kernel
theorem dL_law_878 : decode cL_law 878 = .ok (.iaload, 1) := by decide +kernel
theorem dL_law_879 : decode cL_law 879 = .ok (.aload_n 0, 1) := by decide +kernel
theorem dL_law_880 : decode cL_law 880 = .ok (.iload_n 3, 1) := by decide +kernel
theorem dL_law_881 : decode cL_law 881 = .ok (.iconst 4, 1) := by decide +kernel
theorem dL_law_882 : decode cL_law 882 = .ok (.iadd, 1) := by decide +kernel
theorem dL_law_883 : decode cL_law 883 = .ok (.iaload, 1) := by decide +kernel
theorem dL_law_884 : decode cL_law 884 = .ok (.invokevirtual 114, 3) := by decide +kernel
theorem dL_law_887 : decode cL_law 887 = .ok (.if_icmp .eq 28, 3) := by decide +kernel
theorem dL_law_890 : decode cL_law 890 = .ok (.iconst 0, 1) := by decide +kernel
theorem dL_law_891 : decode cL_law 891 = .ok (.ireturn, 1) := by decide +kernel
theorem dL_law_892 : decode cL_law 892 = .ok (.aload_n 1, 1) := by decide +kernel
theorem dL_law_893 : decode cL_law 893 = .ok (.aload_n 0, 1) := by decide +kernel
theorem dL_law_894 : decode cL_law 894 = .ok (.iload_n 3, 1) := by decide +kernel
theorem dL_law_895 : decode cL_law 895 = .ok (.iconst 1, 1) := by decide +kernel
theorem dL_law_896 : decode cL_law 896 = .ok (.iadd, 1) := by decide +kernel
theorem dL_law_897 : decode cL_law 897 = .ok (.iaload, 1) := by decide +kernel
theorem dL_law_898 : decode cL_law 898 = .ok (.invokevirtual 115, 3) := by decide +kernel
theorem dL_law_901 : decode cL_law 901 = .ok (.aload_n 2, 1) := by decide +kernel
theorem dL_law_902 : decode cL_law 902 = .ok (.aload_n 0, 1) := by decide +kernel
theorem dL_law_903 : decode cL_law 903 = .ok (.iload_n 3, 1) := by decide +kernel
theorem dL_law_904 : decode cL_law 904 = .ok (.iconst 1, 1) := by decide +kernel
theorem dL_law_905 : decode cL_law 905 = .ok (.iadd, 1) := by decide +kernel
theorem dL_law_906 : decode cL_law 906 = .ok (.iaload, 1) := by decide +kernel
theorem dL_law_907 : decode cL_law 907 = .ok (.invokevirtual 118, 3) := by decide +kernel
theorem dL_law_910 : decode cL_law 910 = .ok (.if_icmp .eq 5, 3) := by decide +kernel
theorem dL_law_913 : decode cL_law 913 = .ok (.iconst 0, 1) := by decide +kernel
theorem dL_law_914 : decode cL_law 914 = .ok (.ireturn, 1) := by decide +kernel
theorem dL_law_915 : decode cL_law 915 = .ok (.iinc 3 5, 3) := by decide +kernel
theorem dL_law_918 : decode cL_law 918 = .ok (.goto (-900), 3) := by decide +kernel
theorem dL_law_921 : decode cL_law 921 = .ok (.iconst 1, 1) := by decide +kernel
theorem dL_law_922 : decode cL_law 922 = .ok (.ireturn, 1) := by decide +kernel
