theorem dX5_firm_105 : decode cX5_firm 105 = .ok (.ireturn, 1) := by decide +kernel
theorem dX5_firm_106 : decode cX5_firm 106 = .ok (.aload_n 3, 1) := by decide +kernel
theorem dX5_firm_107 : decode cX5_firm 107 = .ok (.getfield 190, 3) := by decide +kernel
theorem dX5_firm_110 : decode cX5_firm 110 = .ok (.ireturn, 1) := by decide +kernel
theorem dX5_firm_111 : decode cX5_firm 111 = .ok (.aload_n 3, 1) := by decide +kernel
theorem dX5_firm_112 : decode cX5_firm 112 = .ok (.getfield 116, 3) := by decide +kernel
theorem dX5_firm_115 : decode cX5_firm 115 = .ok (.ireturn, 1) := by decide +kernel
theorem dX5_firm_116 : decode cX5_firm 116 = .ok (.aload_n 3, 1) := by decide +kernel
theorem dX5_firm_117 : decode cX5_firm 117 = .ok (.getfield 130, 3) := by decide +kernel
theorem dX5_firm_120 : decode cX5_firm 120 = .ok (.ireturn, 1) := by decide +kernel
theorem dX5_firm_121 : decode cX5_firm 121 = .ok (.aload_n 3, 1) := by decide +kernel
theorem dX5_firm_122 : decode cX5_firm 122 = .ok (.getfield 193, 3) := by decide +kernel
theorem dX5_firm_125 : decode cX5_firm 125 = .ok (.ireturn, 1) := by decide +kernel
theorem dX5_firm_126 : decode cX5_firm 126 = .ok (.aload_n 3, 1) := by decide +kernel
theorem dX5_firm_127 : decode cX5_firm 127 = .ok (.aload_n 0, 1) := by decide +kernel
theorem dX5_firm_128 : decode cX5_firm 128 = .ok (.getfield 12, 3) := by decide +kernel
theorem dX5_firm_131 : decode cX5_firm 131 = .ok (.getfield 62, 3) := by decide +kernel
theorem dX5_firm_134 : decode cX5_firm 134 = .ok (.invokevirtual 196, 3) := by decide +kernel
theorem dX5_firm_137 : decode cX5_firm 137 = .ok (.ireturn, 1) := by decide +kernel
theorem dX5_firm_138 : decode cX5_firm 138 = .ok (.bipush (-2), 2) := by decide +kernel
theorem dX5_firm_140 : decode cX5_firm 140 = .ok (.ireturn, 1) := by decide +kernel
theorem dX5_holds_0 : decode cX5_holds 0 = .ok (.aload_n 0, 1) := by decide +kernel
theorem dX5_holds_1 : decode cX5_holds 1 = .ok (.getfield 12, 3) := by decide +kernel
theorem dX5_holds_4 : decode cX5_holds 4 = .ok (.iload_n 1, 1) := by decide +kernel
theorem dX5_holds_5 : decode cX5_holds 5 = .ok (.invokevirtual 65, 3) := by decide +kernel
theorem dX5_holds_8 : decode cX5_holds 8 = .ok (.astore_n 3, 1) := by decide +kernel
theorem dX5_holds_9 : decode cX5_holds 9 = .ok (.aload_n 3, 1) := by decide +kernel
theorem dX5_holds_10 : decode cX5_holds 10 = .ok (.ifnull 10, 3) := by decide +kernel
theorem dX5_holds_13 : decode cX5_holds 13 = .ok (.iload_n 2, 1) := by decide +kernel
theorem dX5_holds_14 : decode cX5_holds 14 = .ok (.invokestatic 101, 3) := by decide +kernel
theorem dX5_holds_17 : decode cX5_holds 17 = .ok (.ifCond .ne 5, 3) := by decide +kernel
theorem dX5_holds_20 : decode cX5_holds 20 = .ok (.iconst (-1), 1) := by decide +kernel
theorem dX5_holds_21 : decode cX5_holds 21 = .ok (.ireturn, 1) := by decide +kernel
theorem dX5_holds_22 : decode cX5_holds 22 = .ok (.aload_n 3, 1) := by decide +kernel
theorem dX5_holds_23 : decode cX5_holds 23 = .ok (.getfield 77, 3) := by decide +kernel
theorem dX5_holds_26 : decode cX5_holds 26 = .ok (.iload_n 2, 1) := by decide +kernel
theorem dX5_holds_27 : decode cX5_holds 27 = .ok (.iaload, 1) := by decide +kernel
theorem dX5_holds_28 : decode cX5_holds 28 = .ok (.ireturn, 1) := by decide +kernel
theorem dX5_offsets_0 : decode cX5_offsets 0 = .ok (.aload_n 0, 1) := by decide +kernel
theorem dX5_offsets_1 : decode cX5_offsets 1 = .ok (.getfield 12, 3) := by decide +kernel
theorem dX5_offsets_4 : decode cX5_offsets 4 = .ok (.iload_n 1, 1) := by decide +kernel
theorem dX5_offsets_5 : decode cX5_offsets 5 = .ok (.invokevirtual 65, 3) := by decide +kernel
theorem dX5_offsets_8 : decode cX5_offsets 8 = .ok (.astore 4, 2) := by decide +kernel
theorem dX5_offsets_10 : decode cX5_offsets 10 = .ok (.aload 4, 2) := by decide +kernel
theorem dX5_offsets_12 : decode cX5_offsets 12 = .ok (.ifnull 10, 3) := by decide +kernel
theorem dX5_offsets_15 : decode cX5_offsets 15 = .ok (.iload_n 2, 1) := by decide +kernel
theorem dX5_offsets_16 : decode cX5_offsets 16 = .ok (.invokestatic 85, 3) := by decide +kernel
theorem dX5_offsets_19 : decode cX5_offsets 19 = .ok (.ifCond .ne 5, 3) := by decide +kernel
theorem dX5_offsets_22 : decode cX5_offsets 22 = .ok (.iconst (-1), 1) := by decide +kernel
theorem dX5_offsets_23 : decode cX5_offsets 23 = .ok (.ireturn, 1) := by decide +kernel
theorem dX5_offsets_24 : decode cX5_offsets 24 = .ok (.iload_n 3, 1) := by decide +kernel
theorem dX5_offsets_25 : decode cX5_offsets 25 = .ok (.tableswitch 59 0 2 #[27, 35, 51], 27) := by decide +kernel
theorem dX5_offsets_52 : decode cX5_offsets 52 = .ok (.aload 4, 2) := by decide +kernel
theorem dX5_offsets_54 : decode cX5_offsets 54 = .ok (.getfield 88, 3) := by decide +kernel
theorem dX5_offsets_57 : decode cX5_offsets 57 = .ok (.iload_n 2, 1) := by decide +kernel
theorem dX5_offsets_58 : decode cX5_offsets 58 = .ok (.iaload, 1) := by decide +kernel
theorem dX5_offsets_59 : decode cX5_offsets 59 = .ok (.ireturn, 1) := by decide +kernel
theorem dX5_offsets_60 : decode cX5_offsets 60 = .ok (.aload 4, 2) := by decide +kernel
theorem dX5_offsets_62 : decode cX5_offsets 62 = .ok (.iload_n 2, 1) := by decide +kernel
theorem dX5_offsets_63 : decode cX5_offsets 63 = .ok (.aload_n 0, 1) := by decide +kernel
theorem dX5_offsets_64 : decode cX5_offsets 64 = .ok (.getfield 12, 3) := by decide +kernel
theorem dX5_offsets_67 : decode cX5_offsets 67 = .ok (.getfield 62, 3) := by decide +kernel
theorem dX5_offsets_70 : decode cX5_offsets 70 = .ok (.iload_n 2, 1) := by decide +kernel
theorem dX5_offsets_71 : decode cX5_offsets 71 = .ok (.iaload, 1) := by decide +kernel
theorem dX5_offsets_72 : decode cX5_offsets 72 = .ok (.invokevirtual 200, 3) := by decide +kernel
theorem dX5_offsets_75 : decode cX5_offsets 75 = .ok (.ireturn, 1) := by decide +kernel
theorem dX5_offsets_76 : decode cX5_offsets 76 = .ok (.aload 4, 2) := by decide +kernel
theorem dX5_offsets_78 : decode cX5_offsets 78 = .ok (.getfield 204, 3) := by decide +kernel
theorem dX5_offsets_81 : decode cX5_offsets 81 = .ok (.iload_n 2, 1) := by decide +kernel
theorem dX5_offsets_82 : decode cX5_offsets 82 = .ok (.iaload, 1) := by decide +kernel
theorem dX5_offsets_83 : decode cX5_offsets 83 = .ok (.ireturn, 1) := by decide +kernel
theorem dX5_offsets_84 : decode cX5_offsets 84 = .ok (.bipush (-2), 2) := by decide +kernel
theorem dX5_offsets_86 : decode cX5_offsets 86 = .ok (.ireturn, 1) := by decide +kernel
theorem dX5_vintage_0 : decode cX5_vintage 0 = .ok (.iload_n 1, 1) := by decide +kernel
theorem dX5_vintage_1 : decode cX5_vintage 1 = .ok (.invokestatic 101, 3) := by decide +kernel
theorem dX5_vintage_4 : decode cX5_vintage 4 = .ok (.ifCond .ne 5, 3) := by decide +kernel
theorem dX5_vintage_7 : decode cX5_vintage 7 = .ok (.iconst (-1), 1) := by decide +kernel
theorem dX5_vintage_8 : decode cX5_vintage 8 = .ok (.ireturn, 1) := by decide +kernel
theorem dX5_vintage_9 : decode cX5_vintage 9 = .ok (.iload_n 2, 1) := by decide +kernel
theorem dX5_vintage_10 : decode cX5_vintage 10 = .ok (.tableswitch 109 0 6 #[42, 52, 61, 71, 81, 91, 100], 42) := by decide +kernel
theorem dX5_vintage_52 : decode cX5_vintage 52 = .ok (.aload_n 0, 1) := by decide +kernel
theorem dX5_vintage_53 : decode cX5_vintage 53 = .ok (.getfield 12, 3) := by decide +kernel
theorem dX5_vintage_56 : decode cX5_vintage 56 = .ok (.getfield 82, 3) := by decide +kernel
theorem dX5_vintage_59 : decode cX5_vintage 59 = .ok (.iload_n 1, 1) := by decide +kernel
theorem dX5_vintage_60 : decode cX5_vintage 60 = .ok (.iaload, 1) := by decide +kernel
theorem dX5_vintage_61 : decode cX5_vintage 61 = .ok (.ireturn, 1) := by decide +kernel
theorem dX5_vintage_62 : decode cX5_vintage 62 = .ok (.aload_n 0, 1) := by decide +kernel
theorem dX5_vintage_63 : decode cX5_vintage 63 = .ok (.getfield 12, 3) := by decide +kernel
theorem dX5_vintage_66 : decode cX5_vintage 66 = .ok (.iload_n 1, 1) := by decide +kernel
theorem dX5_vintage_67 : decode cX5_vintage 67 = .ok (.invokevirtual 207, 3) := by decide +kernel
theorem dX5_vintage_70 : decode cX5_vintage 70 = .ok (.ireturn, 1) := by decide +kernel
theorem dX5_vintage_71 : decode cX5_vintage 71 = .ok (.aload_n 0, 1) := by decide +kernel
theorem dX5_vintage_72 : decode cX5_vintage 72 = .ok (.getfield 12, 3) := by decide +kernel
theorem dX5_vintage_75 : decode cX5_vintage 75 = .ok (.getfield 211, 3) := by decide +kernel
theorem dX5_vintage_78 : decode cX5_vintage 78 = .ok (.iload_n 1, 1) := by decide +kernel
theorem dX5_vintage_79 : decode cX5_vintage 79 = .ok (.iaload, 1) := by decide +kernel
theorem dX5_vintage_80 : decode cX5_vintage 80 = .ok (.ireturn, 1) := by decide +kernel
theorem dX5_vintage_81 : decode cX5_vintage 81 = .ok (.aload_n 0, 1) := by decide +kernel
theorem dX5_vintage_82 : decode cX5_vintage 82 = .ok (.getfield 12, 3) := by decide +kernel
theorem dX5_vintage_85 : decode cX5_vintage 85 = .ok (.getfield 104, 3) := by decide +kernel
theorem dX5_vintage_88 : decode cX5_vintage 88 = .ok (.iload_n 1, 1) := by decide +kernel
theorem dX5_vintage_89 : decode cX5_vintage 89 = .ok (.iaload, 1) := by decide +kernel
theorem dX5_vintage_90 : decode cX5_vintage 90 = .ok (.ireturn, 1) := by decide +kernel
theorem dX5_vintage_91 : decode cX5_vintage 91 = .ok (.aload_n 0, 1) := by decide +kernel
theorem dX5_vintage_92 : decode cX5_vintage 92 = .ok (.getfield 12, 3) := by decide +kernel
theorem dX5_vintage_95 : decode cX5_vintage 95 = .ok (.getfield 213, 3) := by decide +kernel
theorem dX5_vintage_98 : decode cX5_vintage 98 = .ok (.iload_n 1, 1) := by decide +kernel
theorem dX5_vintage_99 : decode cX5_vintage 99 = .ok (.iaload, 1) := by decide +kernel
theorem dX5_vintage_100 : decode cX5_vintage 100 = .ok (.ireturn, 1) := by decide +kernel
theorem dX5_vintage_101 : decode cX5_vintage 101 = .ok (.aload_n 0, 1) := by decide +kernel
theorem dX5_vintage_102 : decode cX5_vintage 102 = .ok (.getfield 12, 3) := by decide +kernel
theorem dX5_vintage_105 : decode cX5_vintage 105 = .ok (.iload_n 1, 1) := by decide +kernel
theorem dX5_vintage_106 : decode cX5_vintage 106 = .ok (.invokevirtual 216, 3) := by decide +kernel
theorem dX5_vintage_109 : decode cX5_vintage 109 = .ok (.ireturn, 1) := by decide +kernel
theorem dX5_vintage_110 : decode cX5_vintage 110 = .ok (.aload_n 0, 1) := by decide +kernel
theorem dX5_vintage_111 : decode cX5_vintage 111 = .ok (.getfield 12, 3) := by decide +kernel
theorem dX5_vintage_114 : decode cX5_vintage 114 = .ok (.iload_n 1, 1) := by decide +kernel
theorem dX5_vintage_115 : decode cX5_vintage 115 = .ok (.invokevirtual 219, 3) := by decide +kernel
theorem dX5_vintage_118 : decode cX5_vintage 118 = .ok (.ireturn, 1) := by decide +kernel
theorem dX5_vintage_119 : decode cX5_vintage 119 = .ok (.bipush (-2), 2) := by decide +kernel
theorem dX5_vintage_121 : decode cX5_vintage 121 = .ok (.ireturn, 1) := by decide +kernel
theorem dX5_grade_0 : decode cX5_grade 0 = .ok (.iload_n 1, 1) := by decide +kernel
theorem dX5_grade_1 : decode cX5_grade 1 = .ok (.invokestatic 85, 3) := by decide +kernel
theorem dX5_grade_4 : decode cX5_grade 4 = .ok (.ifCond .ne 5, 3) := by decide +kernel
theorem dX5_grade_7 : decode cX5_grade 7 = .ok (.iconst (-1), 1) := by decide +kernel
theorem dX5_grade_8 : decode cX5_grade 8 = .ok (.ireturn, 1) := by decide +kernel
theorem dX5_grade_9 : decode cX5_grade 9 = .ok (.iload_n 2, 1) := by decide +kernel
theorem dX5_grade_10 : decode cX5_grade 10 = .ok (.tableswitch 55 0 2 #[26, 36, 45], 26) := by decide +kernel
theorem dX5_grade_36 : decode cX5_grade 36 = .ok (.aload_n 0, 1) := by decide +kernel
theorem dX5_grade_37 : decode cX5_grade 37 = .ok (.getfield 12, 3) := by decide +kernel
theorem dX5_grade_40 : decode cX5_grade 40 = .ok (.getfield 91, 3) := by decide +kernel
theorem dX5_grade_43 : decode cX5_grade 43 = .ok (.iload_n 1, 1) := by decide +kernel
theorem dX5_grade_44 : decode cX5_grade 44 = .ok (.iaload, 1) := by decide +kernel
theorem dX5_grade_45 : decode cX5_grade 45 = .ok (.ireturn, 1) := by decide +kernel
theorem dX5_grade_46 : decode cX5_grade 46 = .ok (.aload_n 0, 1) := by decide +kernel
theorem dX5_grade_47 : decode cX5_grade 47 = .ok (.getfield 12, 3) := by decide +kernel
theorem dX5_grade_50 : decode cX5_grade 50 = .ok (.iload_n 1, 1) := by decide +kernel
theorem dX5_grade_51 : decode cX5_grade 51 = .ok (.invokevirtual 222, 3) := by decide +kernel
theorem dX5_grade_54 : decode cX5_grade 54 = .ok (.ireturn, 1) := by decide +kernel
theorem dX5_grade_55 : decode cX5_grade 55 = .ok (.aload_n 0, 1) := by decide +kernel
theorem dX5_grade_56 : decode cX5_grade 56 = .ok (.getfield 12, 3) := by decide +kernel
theorem dX5_grade_59 : decode cX5_grade 59 = .ok (.getfield 225, 3) := by decide +kernel
theorem dX5_grade_62 : decode cX5_grade 62 = .ok (.iload_n 1, 1) := by decide +kernel
theorem dX5_grade_63 : decode cX5_grade 63 = .ok (.iaload, 1) := by decide +kernel
theorem dX5_grade_64 : decode cX5_grade 64 = .ok (.ireturn, 1) := by decide +kernel
theorem dX5_grade_65 : decode cX5_grade 65 = .ok (.bipush (-2), 2) := by decide +kernel
theorem dX5_grade_67 : decode cX5_grade 67 = .ok (.ireturn, 1) := by decide +kernel
theorem dX5_holder_0 : decode cX5_holder 0 = .ok (.iload_n 1, 1) := by decide +kernel
theorem dX5_holder_1 : decode cX5_holder 1 = .ok (.invokestatic 101, 3) := by decide +kernel
theorem dX5_holder_4 : decode cX5_holder 4 = .ok (.ifCond .ne 5, 3) := by decide +kernel
theorem dX5_holder_7 : decode cX5_holder 7 = .ok (.iconst (-1), 1) := by decide +kernel
theorem dX5_holder_8 : decode cX5_holder 8 = .ok (.ireturn, 1) := by decide +kernel
theorem dX5_holder_9 : decode cX5_holder 9 = .ok (.iload_n 2, 1) := by decide +kernel
theorem dX5_holder_10 : decode cX5_holder 10 = .ok (.ifCond .ge 6, 3) := by decide +kernel
theorem dX5_holder_13 : decode cX5_holder 13 = .ok (.bipush (-2), 2) := by decide +kernel
theorem dX5_holder_15 : decode cX5_holder 15 = .ok (.ireturn, 1) := by decide +kernel
theorem dX5_holder_16 : decode cX5_holder 16 = .ok (.aload_n 0, 1) := by decide +kernel
theorem dX5_holder_17 : decode cX5_holder 17 = .ok (.getfield 12, 3) := by decide +kernel
theorem dX5_holder_20 : decode cX5_holder 20 = .ok (.iload_n 1, 1) := by decide +kernel
theorem dX5_holder_21 : decode cX5_holder 21 = .ok (.iload_n 2, 1) := by decide +kernel
theorem dX5_holder_22 : decode cX5_holder 22 = .ok (.invokevirtual 228, 3) := by decide +kernel
theorem dX5_holder_25 : decode cX5_holder 25 = .ok (.ireturn, 1) := by decide +kernel
theorem dX5_plan_0 : decode cX5_plan 0 = .ok (.aload_n 0, 1) := by decide +kernel
theorem dX5_plan_1 : decode cX5_plan 1 = .ok (.getfield 12, 3) := by decide +kernel
theorem dX5_plan_4 : decode cX5_plan 4 = .ok (.iload_n 1, 1) := by decide +kernel
theorem dX5_plan_5 : decode cX5_plan 5 = .ok (.invokevirtual 65, 3) := by decide +kernel
theorem dX5_plan_8 : decode cX5_plan 8 = .ok (.astore 5, 2) := by decide +kernel
theorem dX5_plan_10 : decode cX5_plan 10 = .ok (.aload 5, 2) := by decide +kernel
theorem dX5_plan_12 : decode cX5_plan 12 = .ok (.ifnonnull 5, 3) := by decide +kernel
theorem dX5_plan_15 : decode cX5_plan 15 = .ok (.iconst (-1), 1) := by decide +kernel
theorem dX5_plan_16 : decode cX5_plan 16 = .ok (.ireturn, 1) := by decide +kernel
theorem dX5_plan_17 : decode cX5_plan 17 = .ok (.iload_n 2, 1) := by decide +kernel
theorem dX5_plan_18 : decode cX5_plan 18 = .ok (.invokestatic 69, 3) := by decide +kernel
theorem dX5_plan_21 : decode cX5_plan 21 = .ok (.ifCond .eq 21, 3) := by decide +kernel
theorem dX5_plan_24 : decode cX5_plan 24 = .ok (.iload_n 3, 1) := by decide +kernel
theorem dX5_plan_25 : decode cX5_plan 25 = .ok (.invokestatic 113, 3) := by decide +kernel
theorem dX5_plan_28 : decode cX5_plan 28 = .ok (.ifCond .eq 14, 3) := by decide +kernel
theorem dX5_plan_31 : decode cX5_plan 31 = .ok (.iload 4, 2) := by decide +kernel
theorem dX5_plan_33 : decode cX5_plan 33 = .ok (.ifCond .lt 9, 3) := by decide +kernel
theorem dX5_plan_36 : decode cX5_plan 36 = .ok (.iload 4, 2) := by decide +kernel
theorem dX5_plan_38 : decode cX5_plan 38 = .ok (.iconst 5, 1) := by decide +kernel
theorem dX5_plan_39 : decode cX5_plan 39 = .ok (.if_icmp .le 6, 3) := by decide +kernel
theorem dX5_plan_42 : decode cX5_plan 42 = .ok (.bipush (-2), 2) := by decide +kernel
theorem dX5_plan_44 : decode cX5_plan 44 = .ok (.ireturn, 1) := by decide +kernel
theorem dX5_plan_45 : decode cX5_plan 45 = .ok (.aload_n 0, 1) := by decide +kernel
theorem dX5_plan_46 : decode cX5_plan 46 = .ok (.getfield 32, 3) := by decide +kernel
theorem dX5_plan_49 : decode cX5_plan 49 = .ok (.aload 5, 2) := by decide +kernel
theorem dX5_plan_51 : decode cX5_plan 51 = .ok (.aload_n 0, 1) := by decide +kernel
theorem dX5_plan_52 : decode cX5_plan 52 = .ok (.getfield 12, 3) := by decide +kernel
theorem dX5_plan_55 : decode cX5_plan 55 = .ok (.getfield 62, 3) := by decide +kernel
theorem dX5_plan_58 : decode cX5_plan 58 = .ok (.iload_n 2, 1) := by decide +kernel
theorem dX5_plan_59 : decode cX5_plan 59 = .ok (.iload_n 3, 1) := by decide +kernel
theorem dX5_plan_60 : decode cX5_plan 60 = .ok (.invokevirtual 119, 3) := by decide +kernel
theorem dX5_plan_63 : decode cX5_plan 63 = .ok (.aload_n 0, 1) := by decide +kernel
theorem dX5_plan_64 : decode cX5_plan 64 = .ok (.getfield 32, 3) := by decide +kernel
theorem dX5_plan_67 : decode cX5_plan 67 = .ok (.getfield 123, 3) := by decide +kernel
theorem dX5_plan_70 : decode cX5_plan 70 = .ok (.ifCond .le 6, 3) := by decide +kernel
theorem dX5_plan_73 : decode cX5_plan 73 = .ok (.bipush (-4), 2) := by decide +kernel
theorem dX5_plan_75 : decode cX5_plan 75 = .ok (.ireturn, 1) := by decide +kernel
theorem dX5_plan_76 : decode cX5_plan 76 = .ok (.iload 4, 2) := by decide +kernel
theorem dX5_plan_78 : decode cX5_plan 78 = .ok (.tableswitch 80 0 4 #[34, 42, 52, 62, 72], 34) := by decide +kernel
theorem dX5_plan_112 : decode cX5_plan 112 = .ok (.aload_n 0, 1) := by decide +kernel
theorem dX5_plan_113 : decode cX5_plan 113 = .ok (.getfield 32, 3) := by decide +kernel
theorem dX5_plan_116 : decode cX5_plan 116 = .ok (.getfield 231, 3) := by decide +kernel
theorem dX5_plan_119 : decode cX5_plan 119 = .ok (.ireturn, 1) := by decide +kernel
theorem dX5_plan_120 : decode cX5_plan 120 = .ok (.aload_n 0, 1) := by decide +kernel
theorem dX5_plan_121 : decode cX5_plan 121 = .ok (.getfield 32, 3) := by decide +kernel
theorem dX5_plan_124 : decode cX5_plan 124 = .ok (.getfield 234, 3) := by decide +kernel
theorem dX5_plan_127 : decode cX5_plan 127 = .ok (.iconst 0, 1) := by decide +kernel
theorem dX5_plan_128 : decode cX5_plan 128 = .ok (.iaload, 1) := by decide +kernel
theorem dX5_plan_129 : decode cX5_plan 129 = .ok (.ireturn, 1) := by decide +kernel
theorem dX5_plan_130 : decode cX5_plan 130 = .ok (.aload_n 0, 1) := by decide +kernel
theorem dX5_plan_131 : decode cX5_plan 131 = .ok (.getfield 32, 3) := by decide +kernel
theorem dX5_plan_134 : decode cX5_plan 134 = .ok (.getfield 234, 3) := by decide +kernel
theorem dX5_plan_137 : decode cX5_plan 137 = .ok (.iconst 1, 1) := by decide +kernel
theorem dX5_plan_138 : decode cX5_plan 138 = .ok (.iaload, 1) := by decide +kernel
theorem dX5_plan_139 : decode cX5_plan 139 = .ok (.ireturn, 1) := by decide +kernel
theorem dX5_plan_140 : decode cX5_plan 140 = .ok (.aload_n 0, 1) := by decide +kernel
theorem dX5_plan_141 : decode cX5_plan 141 = .ok (.getfield 32, 3) := by decide +kernel
theorem dX5_plan_144 : decode cX5_plan 144 = .ok (.getfield 234, 3) := by decide +kernel
theorem dX5_plan_147 : decode cX5_plan 147 = .ok (.iconst 2, 1) := by decide +kernel
theorem dX5_plan_148 : decode cX5_plan 148 = .ok (.iaload, 1) := by decide +kernel
theorem dX5_plan_149 : decode cX5_plan 149 = .ok (.ireturn, 1) := by decide +kernel
theorem dX5_plan_150 : decode cX5_plan 150 = .ok (.aload_n 0, 1) := by decide +kernel
theorem dX5_plan_151 : decode cX5_plan 151 = .ok (.getfield 32, 3) := by decide +kernel
theorem dX5_plan_154 : decode cX5_plan 154 = .ok (.getfield 237, 3) := by decide +kernel
theorem dX5_plan_157 : decode cX5_plan 157 = .ok (.ireturn, 1) := by decide +kernel
theorem dX5_plan_158 : decode cX5_plan 158 = .ok (.aload_n 0, 1) := by decide +kernel
theorem dX5_plan_159 : decode cX5_plan 159 = .ok (.getfield 32, 3) := by decide +kernel
theorem dX5_plan_162 : decode cX5_plan 162 = .ok (.getfield 240, 3) := by decide +kernel
theorem dX5_plan_165 : decode cX5_plan 165 = .ok (.ireturn, 1) := by decide +kernel
theorem dX5_count_0 : decode cX5_count 0 = .ok (.iload_n 1, 1) := by decide +kernel
theorem dX5_count_1 : decode cX5_count 1 = .ok (.iconst 3, 1) := by decide +kernel
theorem dX5_count_2 : decode cX5_count 2 = .ok (.if_icmp .lt 21, 3) := by decide +kernel
theorem dX5_count_5 : decode cX5_count 5 = .ok (.iload_n 1, 1) := by decide +kernel
theorem dX5_count_6 : decode cX5_count 6 = .ok (.bipush 8, 2) := by decide +kernel
theorem dX5_count_8 : decode cX5_count 8 = .ok (.if_icmp .ge 15, 3) := by decide +kernel
theorem dX5_count_11 : decode cX5_count 11 = .ok (.aload_n 0, 1) := by decide +kernel
theorem dX5_count_12 : decode cX5_count 12 = .ok (.getfield 12, 3) := by decide +kernel
theorem dX5_count_15 : decode cX5_count 15 = .ok (.getfield 62, 3) := by decide +kernel
theorem dX5_count_18 : decode cX5_count 18 = .ok (.iload_n 1, 1) := by decide +kernel
theorem dX5_count_19 : decode cX5_count 19 = .ok (.iconst 3, 1) := by decide +kernel
theorem dX5_count_20 : decode cX5_count 20 = .ok (.isub, 1) := by decide +kernel
theorem dX5_count_21 : decode cX5_count 21 = .ok (.iaload, 1) := by decide +kernel
theorem dX5_count_22 : decode cX5_count 22 = .ok (.ireturn, 1) := by decide +kernel
theorem dX5_count_23 : decode cX5_count 23 = .ok (.iload_n 1, 1) := by decide +kernel
theorem dX5_count_24 : decode cX5_count 24 = .ok (.tableswitch 156 0 14 #[76, 84, 92, 156, 156, 156, 156, 156, 100, 108, 116, 124, 132, 140, 148], 76) := by decide +kernel
theorem dX5_count_100 : decode cX5_count 100 = .ok (.aload_n 0, 1) := by decide +kernel
theorem dX5_count_101 : decode cX5_count 101 = .ok (.getfield 12, 3) := by decide +kernel
theorem dX5_count_104 : decode cX5_count 104 = .ok (.getfield 133, 3) := by decide +kernel
theorem dX5_count_107 : decode cX5_count 107 = .ok (.ireturn, 1) := by decide +kernel
theorem dX5_count_108 : decode cX5_count 108 = .ok (.aload_n 0, 1) := by decide +kernel
theorem dX5_count_109 : decode cX5_count 109 = .ok (.getfield 12, 3) := by decide +kernel
theorem dX5_count_112 : decode cX5_count 112 = .ok (.invokevirtual 73, 3) := by decide +kernel
theorem dX5_count_115 : decode cX5_count 115 = .ok (.ireturn, 1) := by decide +kernel
theorem dX5_count_116 : decode cX5_count 116 = .ok (.aload_n 0, 1) := by decide +kernel
theorem dX5_count_117 : decode cX5_count 117 = .ok (.getfield 12, 3) := by decide +kernel
theorem dX5_count_120 : decode cX5_count 120 = .ok (.getfield 47, 3) := by decide +kernel
theorem dX5_count_123 : decode cX5_count 123 = .ok (.ireturn, 1) := by decide +kernel
theorem dX5_count_124 : decode cX5_count 124 = .ok (.aload_n 0, 1) := by decide +kernel
theorem dX5_count_125 : decode cX5_count 125 = .ok (.getfield 12, 3) := by decide +kernel
theorem dX5_count_128 : decode cX5_count 128 = .ok (.invokevirtual 243, 3) := by decide +kernel
theorem dX5_count_131 : decode cX5_count 131 = .ok (.ireturn, 1) := by decide +kernel
theorem dX5_count_132 : decode cX5_count 132 = .ok (.aload_n 0, 1) := by decide +kernel
theorem dX5_count_133 : decode cX5_count 133 = .ok (.getfield 12, 3) := by decide +kernel
theorem dX5_count_136 : decode cX5_count 136 = .ok (.invokevirtual 246, 3) := by decide +kernel
theorem dX5_count_139 : decode cX5_count 139 = .ok (.ireturn, 1) := by decide +kernel
theorem dX5_count_140 : decode cX5_count 140 = .ok (.aload_n 0, 1) := by decide +kernel
theorem dX5_count_141 : decode cX5_count 141 = .ok (.getfield 12, 3) := by decide +kernel
theorem dX5_count_144 : decode cX5_count 144 = .ok (.invokevirtual 249, 3) := by decide +kernel
theorem dX5_count_147 : decode cX5_count 147 = .ok (.ireturn, 1) := by decide +kernel
theorem dX5_count_148 : decode cX5_count 148 = .ok (.aload_n 0, 1) := by decide +kernel
theorem dX5_count_149 : decode cX5_count 149 = .ok (.getfield 12, 3) := by decide +kernel
theorem dX5_count_152 : decode cX5_count 152 = .ok (.invokevirtual 252, 3) := by decide +kernel
theorem dX5_count_155 : decode cX5_count 155 = .ok (.ireturn, 1) := by decide +kernel
theorem dX5_count_156 : decode cX5_count 156 = .ok (.aload_n 0, 1) := by decide +kernel
theorem dX5_count_157 : decode cX5_count 157 = .ok (.getfield 12, 3) := by decide +kernel
theorem dX5_count_160 : decode cX5_count 160 = .ok (.invokevirtual 255, 3) := by decide +kernel
theorem dX5_count_163 : decode cX5_count 163 = .ok (.ireturn, 1) := by decide +kernel
theorem dX5_count_164 : decode cX5_count 164 = .ok (.aload_n 0, 1) := by decide +kernel
theorem dX5_count_165 : decode cX5_count 165 = .ok (.getfield 25, 3) := by decide +kernel
theorem dX5_count_168 : decode cX5_count 168 = .ok (.getfield 172, 3) := by decide +kernel
theorem dX5_count_171 : decode cX5_count 171 = .ok (.ireturn, 1) := by decide +kernel
theorem dX5_count_172 : decode cX5_count 172 = .ok (.aload_n 0, 1) := by decide +kernel
theorem dX5_count_173 : decode cX5_count 173 = .ok (.getfield 39, 3) := by decide +kernel
theorem dX5_count_176 : decode cX5_count 176 = .ok (.getfield 139, 3) := by decide +kernel
theorem dX5_count_179 : decode cX5_count 179 = .ok (.ireturn, 1) := by decide +kernel
theorem dX5_count_180 : decode cX5_count 180 = .ok (.bipush (-2), 2) := by decide +kernel
theorem dX5_count_182 : decode cX5_count 182 = .ok (.ireturn, 1) := by decide +kernel
theorem dX5_isVintage_0 : decode cX5_isVintage 0 = .ok (.iload_n 0, 1) := by decide +kernel
theorem dX5_isVintage_1 : decode cX5_isVintage 1 = .ok (.ifCond .lt 13, 3) := by decide +kernel
theorem dX5_isVintage_4 : decode cX5_isVintage 4 = .ok (.iload_n 0, 1) := by decide +kernel
theorem dX5_isVintage_5 : decode cX5_isVintage 5 = .ok (.bipush 20, 2) := by decide +kernel
theorem dX5_isVintage_7 : decode cX5_isVintage 7 = .ok (.if_icmp .ge 7, 3) := by decide +kernel
theorem dX5_isVintage_10 : decode cX5_isVintage 10 = .ok (.iconst 1, 1) := by decide +kernel
theorem dX5_isVintage_11 : decode cX5_isVintage 11 = .ok (.goto 4, 3) := by decide +kernel
theorem dX5_isVintage_14 : decode cX5_isVintage 14 = .ok (.iconst 0, 1) := by decide +kernel
theorem dX5_isVintage_15 : decode cX5_isVintage 15 = .ok (.ireturn, 1) := by decide +kernel
theorem dX5_isGrade_0 : decode cX5_isGrade 0 = .ok (.iload_n 0, 1) := by decide +kernel
theorem dX5_isGrade_1 : decode cX5_isGrade 1 = .ok (.ifCond .lt 12, 3) := by decide +kernel
theorem dX5_isGrade_4 : decode cX5_isGrade 4 = .ok (.iload_n 0, 1) := by decide +kernel
theorem dX5_isGrade_5 : decode cX5_isGrade 5 = .ok (.iconst 3, 1) := by decide +kernel
theorem dX5_isGrade_6 : decode cX5_isGrade 6 = .ok (.if_icmp .ge 7, 3) := by decide +kernel
theorem dX5_isGrade_9 : decode cX5_isGrade 9 = .ok (.iconst 1, 1) := by decide +kernel
theorem dX5_isGrade_10 : decode cX5_isGrade 10 = .ok (.goto 4, 3) := by decide +kernel
theorem dX5_isGrade_13 : decode cX5_isGrade 13 = .ok (.iconst 0, 1) := by decide +kernel
theorem dX5_isGrade_14 : decode cX5_isGrade 14 = .ok (.ireturn, 1) := by decide +kernel
theorem dX5_isTonnes_0 : decode cX5_isTonnes 0 = .ok (.iload_n 0, 1) := by decide +kernel
theorem dX5_isTonnes_1 : decode cX5_isTonnes 1 = .ok (.iconst 1, 1) := by decide +kernel
theorem dX5_isTonnes_2 : decode cX5_isTonnes 2 = .ok (.if_icmp .lt 14, 3) := by decide +kernel
theorem dX5_isTonnes_5 : decode cX5_isTonnes 5 = .ok (.iload_n 0, 1) := by decide +kernel
theorem dX5_isTonnes_6 : decode cX5_isTonnes 6 = .ok (.sipush 9999, 3) := by decide +kernel
theorem dX5_isTonnes_9 : decode cX5_isTonnes 9 = .ok (.if_icmp .gt 7, 3) := by decide +kernel
theorem dX5_isTonnes_12 : decode cX5_isTonnes 12 = .ok (.iconst 1, 1) := by decide +kernel
theorem dX5_isTonnes_13 : decode cX5_isTonnes 13 = .ok (.goto 4, 3) := by decide +kernel
theorem dX5_isTonnes_16 : decode cX5_isTonnes 16 = .ok (.iconst 0, 1) := by decide +kernel
theorem dX5_isTonnes_17 : decode cX5_isTonnes 17 = .ok (.ireturn, 1) := by decide +kernel
theorem dX5_isWay_0 : decode cX5_isWay 0 = .ok (.iload_n 0, 1) := by decide +kernel
theorem dX5_isWay_1 : decode cX5_isWay 1 = .ok (.ifCond .lt 12, 3) := by decide +kernel
theorem dX5_isWay_4 : decode cX5_isWay 4 = .ok (.iload_n 0, 1) := by decide +kernel
theorem dX5_isWay_5 : decode cX5_isWay 5 = .ok (.iconst 2, 1) := by decide +kernel
theorem dX5_isWay_6 : decode cX5_isWay 6 = .ok (.if_icmp .gt 7, 3) := by decide +kernel
theorem dX5_isWay_9 : decode cX5_isWay 9 = .ok (.iconst 1, 1) := by decide +kernel
theorem dX5_isWay_10 : decode cX5_isWay 10 = .ok (.goto 4, 3) := by decide +kernel
theorem dX5_isWay_13 : decode cX5_isWay 13 = .ok (.iconst 0, 1) := by decide +kernel
theorem dX5_isWay_14 : decode cX5_isWay 14 = .ok (.ireturn, 1) := by decide +kernel
theorem dX5_copyState_0 : decode cX5_copyState 0 = .ok (.aload_n 0, 1) := by decide +kernel
theorem dX5_copyState_1 : decode cX5_copyState 1 = .ok (.ifnull 7, 3) := by decide +kernel
theorem dX5_copyState_4 : decode cX5_copyState 4 = .ok (.aload_n 1, 1) := by decide +kernel
theorem dX5_copyState_5 : decode cX5_copyState 5 = .ok (.ifnonnull 4, 3) := by decide +kernel
theorem dX5_copyState_8 : decode cX5_copyState 8 = .ok (.return_, 1) := by decide +kernel
theorem dX5_copyState_9 : decode cX5_copyState 9 = .ok (.aload_n 1, 1) := by decide +kernel
theorem dX5_copyState_10 : decode cX5_copyState 10 = .ok (.aload_n 0, 1) := by decide +kernel
theorem dX5_copyState_11 : decode cX5_copyState 11 = .ok (.getfield 133, 3) := by decide +kernel
theorem dX5_copyState_14 : decode cX5_copyState 14 = .ok (.putfield 133, 3) := by decide +kernel
theorem dX5_copyState_17 : decode cX5_copyState 17 = .ok (.aload_n 1, 1) := by decide +kernel
theorem dX5_copyState_18 : decode cX5_copyState 18 = .ok (.aload_n 0, 1) := by decide +kernel
theorem dX5_copyState_19 : decode cX5_copyState 19 = .ok (.getfield 47, 3) := by decide +kernel
theorem dX5_copyState_22 : decode cX5_copyState 22 = .ok (.putfield 47, 3) := by decide +kernel
theorem dX5_copyState_25 : decode cX5_copyState 25 = .ok (.aload_n 0, 1) := by decide +kernel
theorem dX5_copyState_26 : decode cX5_copyState 26 = .ok (.getfield 62, 3) := by decide +kernel
theorem dX5_copyState_29 : decode cX5_copyState 29 = .ok (.aload_n 1, 1) := by decide +kernel
theorem dX5_copyState_30 : decode cX5_copyState 30 = .ok (.getfield 62, 3) := by decide +kernel
theorem dX5_copyState_33 : decode cX5_copyState 33 = .ok (.invokestatic 258, 3) := by decide +kernel
theorem dX5_copyState_36 : decode cX5_copyState 36 = .ok (.aload_n 0, 1) := by decide +kernel
theorem dX5_copyState_37 : decode cX5_copyState 37 = .ok (.getfield 82, 3) := by decide +kernel
theorem dX5_copyState_40 : decode cX5_copyState 40 = .ok (.aload_n 1, 1) := by decide +kernel
theorem dX5_copyState_41 : decode cX5_copyState 41 = .ok (.getfield 82, 3) := by decide +kernel
theorem dX5_copyState_44 : decode cX5_copyState 44 = .ok (.invokestatic 258, 3) := by decide +kernel
theorem dX5_copyState_47 : decode cX5_copyState 47 = .ok (.aload_n 0, 1) := by decide +kernel
theorem dX5_copyState_48 : decode cX5_copyState 48 = .ok (.getfield 211, 3) := by decide +kernel
theorem dX5_copyState_51 : decode cX5_copyState 51 = .ok (.aload_n 1, 1) := by decide +kernel
theorem dX5_copyState_52 : decode cX5_copyState 52 = .ok (.getfield 211, 3) := by decide +kernel
theorem dX5_copyState_55 : decode cX5_copyState 55 = .ok (.invokestatic 258, 3) := by decide +kernel
theorem dX5_copyState_58 : decode cX5_copyState 58 = .ok (.aload_n 0, 1) := by decide +kernel
theorem dX5_copyState_59 : decode cX5_copyState 59 = .ok (.getfield 104, 3) := by decide +kernel
theorem dX5_copyState_62 : decode cX5_copyState 62 = .ok (.aload_n 1, 1) := by decide +kernel
theorem dX5_copyState_63 : decode cX5_copyState 63 = .ok (.getfield 104, 3) := by decide +kernel
theorem dX5_copyState_66 : decode cX5_copyState 66 = .ok (.invokestatic 258, 3) := by decide +kernel
theorem dX5_copyState_69 : decode cX5_copyState 69 = .ok (.aload_n 0, 1) := by decide +kernel
theorem dX5_copyState_70 : decode cX5_copyState 70 = .ok (.getfield 213, 3) := by decide +kernel
theorem dX5_copyState_73 : decode cX5_copyState 73 = .ok (.aload_n 1, 1) := by decide +kernel
theorem dX5_copyState_74 : decode cX5_copyState 74 = .ok (.getfield 213, 3) := by decide +kernel
theorem dX5_copyState_77 : decode cX5_copyState 77 = .ok (.invokestatic 258, 3) := by decide +kernel
theorem dX5_copyState_80 : decode cX5_copyState 80 = .ok (.aload_n 0, 1) := by decide +kernel
theorem dX5_copyState_81 : decode cX5_copyState 81 = .ok (.getfield 91, 3) := by decide +kernel
theorem dX5_copyState_84 : decode cX5_copyState 84 = .ok (.aload_n 1, 1) := by decide +kernel
theorem dX5_copyState_85 : decode cX5_copyState 85 = .ok (.getfield 91, 3) := by decide +kernel
theorem dX5_copyState_88 : decode cX5_copyState 88 = .ok (.invokestatic 258, 3) := by decide +kernel
theorem dX5_copyState_91 : decode cX5_copyState 91 = .ok (.aload_n 0, 1) := by decide +kernel
theorem dX5_copyState_92 : decode cX5_copyState 92 = .ok (.getfield 225, 3) := by decide +kernel
theorem dX5_copyState_95 : decode cX5_copyState 95 = .ok (.aload_n 1, 1) := by decide +kernel
theorem dX5_copyState_96 : decode cX5_copyState 96 = .ok (.getfield 225, 3) := by decide +kernel
theorem dX5_copyState_99 : decode cX5_copyState 99 = .ok (.invokestatic 258, 3) := by decide +kernel
theorem dX5_copyState_102 : decode cX5_copyState 102 = .ok (.iconst 0, 1) := by decide +kernel
theorem dX5_copyState_103 : decode cX5_copyState 103 = .ok (.istore_n 2, 1) := by decide +kernel
theorem dX5_copyState_104 : decode cX5_copyState 104 = .ok (.iload_n 2, 1) := by decide +kernel
theorem dX5_copyState_105 : decode cX5_copyState 105 = .ok (.bipush 8, 2) := by decide +kernel
theorem dX5_copyState_107 : decode cX5_copyState 107 = .ok (.if_icmp .ge 24, 3) := by decide +kernel
theorem dX5_copyState_110 : decode cX5_copyState 110 = .ok (.aload_n 0, 1) := by decide +kernel
theorem dX5_copyState_111 : decode cX5_copyState 111 = .ok (.getfield 262, 3) := by decide +kernel
theorem dX5_copyState_114 : decode cX5_copyState 114 = .ok (.iload_n 2, 1) := by decide +kernel
theorem dX5_copyState_115 : decode cX5_copyState 115 = .ok (.aaload, 1) := by decide +kernel
theorem dX5_copyState_116 : decode cX5_copyState 116 = .ok (.aload_n 1, 1) := by decide +kernel
theorem dX5_copyState_117 : decode cX5_copyState 117 = .ok (.getfield 262, 3) := by decide +kernel
theorem dX5_copyState_120 : decode cX5_copyState 120 = .ok (.iload_n 2, 1) := by decide +kernel
theorem dX5_copyState_121 : decode cX5_copyState 121 = .ok (.aaload, 1) := by decide +kernel
theorem dX5_copyState_122 : decode cX5_copyState 122 = .ok (.invokestatic 266, 3) := by decide +kernel
theorem dX5_copyState_125 : decode cX5_copyState 125 = .ok (.iinc 2 1, 3) := by decide +kernel
theorem dX5_copyState_128 : decode cX5_copyState 128 = .ok (.goto (-24), 3) := by decide +kernel
theorem dX5_copyState_131 : decode cX5_copyState 131 = .ok (.return_, 1) := by decide +kernel
theorem dX5_copyFirm_0 : decode cX5_copyFirm 0 = .ok (.aload_n 0, 1) := by decide +kernel
theorem dX5_copyFirm_1 : decode cX5_copyFirm 1 = .ok (.ifnull 7, 3) := by decide +kernel
theorem dX5_copyFirm_4 : decode cX5_copyFirm 4 = .ok (.aload_n 1, 1) := by decide +kernel
theorem dX5_copyFirm_5 : decode cX5_copyFirm 5 = .ok (.ifnonnull 4, 3) := by decide +kernel
theorem dX5_copyFirm_8 : decode cX5_copyFirm 8 = .ok (.return_, 1) := by decide +kernel
theorem dX5_copyFirm_9 : decode cX5_copyFirm 9 = .ok (.aload_n 0, 1) := by decide +kernel
theorem dX5_copyFirm_10 : decode cX5_copyFirm 10 = .ok (.getfield 77, 3) := by decide +kernel
theorem dX5_copyFirm_13 : decode cX5_copyFirm 13 = .ok (.aload_n 1, 1) := by decide +kernel
theorem dX5_copyFirm_14 : decode cX5_copyFirm 14 = .ok (.getfield 77, 3) := by decide +kernel
theorem dX5_copyFirm_17 : decode cX5_copyFirm 17 = .ok (.invokestatic 258, 3) := by decide +kernel
theorem dX5_copyFirm_20 : decode cX5_copyFirm 20 = .ok (.aload_n 0, 1) := by decide +kernel
theorem dX5_copyFirm_21 : decode cX5_copyFirm 21 = .ok (.getfield 88, 3) := by decide +kernel
theorem dX5_copyFirm_24 : decode cX5_copyFirm 24 = .ok (.aload_n 1, 1) := by decide +kernel
theorem dX5_copyFirm_25 : decode cX5_copyFirm 25 = .ok (.getfield 88, 3) := by decide +kernel
theorem dX5_copyFirm_28 : decode cX5_copyFirm 28 = .ok (.invokestatic 258, 3) := by decide +kernel
theorem dX5_copyFirm_31 : decode cX5_copyFirm 31 = .ok (.aload_n 0, 1) := by decide +kernel
theorem dX5_copyFirm_32 : decode cX5_copyFirm 32 = .ok (.getfield 204, 3) := by decide +kernel
theorem dX5_copyFirm_35 : decode cX5_copyFirm 35 = .ok (.aload_n 1, 1) := by decide +kernel
theorem dX5_copyFirm_36 : decode cX5_copyFirm 36 = .ok (.getfield 204, 3) := by decide +kernel
theorem dX5_copyFirm_39 : decode cX5_copyFirm 39 = .ok (.invokestatic 258, 3) := by decide +kernel
theorem dX5_copyFirm_42 : decode cX5_copyFirm 42 = .ok (.aload_n 1, 1) := by decide +kernel
theorem dX5_copyFirm_43 : decode cX5_copyFirm 43 = .ok (.aload_n 0, 1) := by decide +kernel
theorem dX5_copyFirm_44 : decode cX5_copyFirm 44 = .ok (.getfield 107, 3) := by decide +kernel
theorem dX5_copyFirm_47 : decode cX5_copyFirm 47 = .ok (.putfield 107, 3) := by decide +kernel
theorem dX5_copyFirm_50 : decode cX5_copyFirm 50 = .ok (.aload_n 1, 1) := by decide +kernel
theorem dX5_copyFirm_51 : decode cX5_copyFirm 51 = .ok (.aload_n 0, 1) := by decide +kernel
theorem dX5_copyFirm_52 : decode cX5_copyFirm 52 = .ok (.getfield 110, 3) := by decide +kernel
theorem dX5_copyFirm_55 : decode cX5_copyFirm 55 = .ok (.putfield 110, 3) := by decide +kernel
theorem dX5_copyFirm_58 : decode cX5_copyFirm 58 = .ok (.aload_n 1, 1) := by decide +kernel
theorem dX5_copyFirm_59 : decode cX5_copyFirm 59 = .ok (.aload_n 0, 1) := by decide +kernel
theorem dX5_copyFirm_60 : decode cX5_copyFirm 60 = .ok (.getfield 190, 3) := by decide +kernel
theorem dX5_copyFirm_63 : decode cX5_copyFirm 63 = .ok (.putfield 190, 3) := by decide +kernel
theorem dX5_copyFirm_66 : decode cX5_copyFirm 66 = .ok (.aload_n 1, 1) := by decide +kernel
theorem dX5_copyFirm_67 : decode cX5_copyFirm 67 = .ok (.aload_n 0, 1) := by decide +kernel
theorem dX5_copyFirm_68 : decode cX5_copyFirm 68 = .ok (.getfield 116, 3) := by decide +kernel
theorem dX5_copyFirm_71 : decode cX5_copyFirm 71 = .ok (.putfield 116, 3) := by decide +kernel
theorem dX5_copyFirm_74 : decode cX5_copyFirm 74 = .ok (.aload_n 1, 1) := by decide +kernel
theorem dX5_copyFirm_75 : decode cX5_copyFirm 75 = .ok (.aload_n 0, 1) := by decide +kernel
theorem dX5_copyFirm_76 : decode cX5_copyFirm 76 = .ok (.getfield 130, 3) := by decide +kernel
theorem dX5_copyFirm_79 : decode cX5_copyFirm 79 = .ok (.putfield 130, 3) := by decide +kernel
theorem dX5_copyFirm_82 : decode cX5_copyFirm 82 = .ok (.aload_n 1, 1) := by decide +kernel
theorem dX5_copyFirm_83 : decode cX5_copyFirm 83 = .ok (.aload_n 0, 1) := by decide +kernel
theorem dX5_copyFirm_84 : decode cX5_copyFirm 84 = .ok (.getfield 193, 3) := by decide +kernel
theorem dX5_copyFirm_87 : decode cX5_copyFirm 87 = .ok (.putfield 193, 3) := by decide +kernel
theorem dX5_copyFirm_90 : decode cX5_copyFirm 90 = .ok (.return_, 1) := by decide +kernel
theorem dX5_copyNumbers_0 : decode cX5_copyNumbers 0 = .ok (.aload_n 0, 1) := by decide +kernel
theorem dX5_copyNumbers_1 : decode cX5_copyNumbers 1 = .ok (.iconst 0, 1) := by decide +kernel
theorem dX5_copyNumbers_2 : decode cX5_copyNumbers 2 = .ok (.aload_n 1, 1) := by decide +kernel
theorem dX5_copyNumbers_3 : decode cX5_copyNumbers 3 = .ok (.iconst 0, 1) := by decide +kernel
theorem dX5_copyNumbers_4 : decode cX5_copyNumbers 4 = .ok (.aload_n 0, 1) := by decide +kernel
theorem dX5_copyNumbers_5 : decode cX5_copyNumbers 5 = .ok (.arraylength, 1) := by decide +kernel
theorem dX5_copyNumbers_6 : decode cX5_copyNumbers 6 = .ok (.aload_n 1, 1) := by decide +kernel
theorem dX5_copyNumbers_7 : decode cX5_copyNumbers 7 = .ok (.arraylength, 1) := by decide +kernel
theorem dX5_copyNumbers_8 : decode cX5_copyNumbers 8 = .ok (.invokestatic 270, 3) := by decide +kernel
theorem dX5_copyNumbers_11 : decode cX5_copyNumbers 11 = .ok (.invokestatic 275, 3) := by decide +kernel
theorem dX5_copyNumbers_14 : decode cX5_copyNumbers 14 = .ok (.return_, 1) := by decide +kernel
theorem dJ9_max_7cf53_0 : decode cJ9_max_7cf53 0 = .ok (.iload_n 0, 1) := by decide +kernel
theorem dJ9_max_7cf53_1 : decode cJ9_max_7cf53 1 = .ok (.iload_n 1, 1) := by decide +kernel
theorem dJ9_max_7cf53_2 : decode cJ9_max_7cf53 2 = .ok (.if_icmp .lt 7, 3) := by decide +kernel
theorem dJ9_max_7cf53_5 : decode cJ9_max_7cf53 5 = .ok (.iload_n 0, 1) := by decide +kernel
theorem dJ9_max_7cf53_6 : decode cJ9_max_7cf53 6 = .ok (.goto 4, 3) := by decide +kernel
theorem dJ9_max_7cf53_9 : decode cJ9_max_7cf53 9 = .ok (.iload_n 1, 1) := by decide +kernel
theorem dJ9_max_7cf53_10 : decode cJ9_max_7cf53 10 = .ok (.ireturn, 1) := by decide +kernel
theorem dJ9_min_7cf53_0 : decode cJ9_min_7cf53 0 = .ok (.iload_n 0, 1) := by decide +kernel
theorem dJ9_min_7cf53_1 : decode cJ9_min_7cf53 1 = .ok (.iload_n 1, 1) := by decide +kernel
theorem dJ9_min_7cf53_2 : decode cJ9_min_7cf53 2 = .ok (.if_icmp .gt 7, 3) := by decide +kernel
theorem dJ9_min_7cf53_5 : decode cJ9_min_7cf53 5 = .ok (.iload_n 0, 1) := by decide +kernel
theorem dJ9_min_7cf53_6 : decode cJ9_min_7cf53 6 = .ok (.goto 4, 3) := by decide +kernel
theorem dJ9_min_7cf53_9 : decode cJ9_min_7cf53 9 = .ok (.iload_n 1, 1) := by decide +kernel
theorem dJ9_min_7cf53_10 : decode cJ9_min_7cf53 10 = .ok (.ireturn, 1) := by decide +kernel
theorem dL_cell_0 : decode cL_cell 0 = .ok (.iload_n 1, 1) := by decide +kernel
theorem dL_cell_1 : decode cL_cell 1 = .ok (.aload_n 0, 1) := by decide +kernel
theorem dL_cell_2 : decode cL_cell 2 = .ok (.arraylength, 1) := by decide +kernel
theorem dL_cell_3 : decode cL_cell 3 = .ok (.if_icmp .ge 9, 3) := by decide +kernel
theorem dL_cell_6 : decode cL_cell 6 = .ok (.aload_n 0, 1) := by decide +kernel
theorem dL_cell_7 : decode cL_cell 7 = .ok (.iload_n 1, 1) := by decide +kernel
theorem dL_cell_8 : decode cL_cell 8 = .ok (.iaload, 1) := by decide +kernel
theorem dL_cell_9 : decode cL_cell 9 = .ok (.goto 16, 3) := by decide +kernel
theorem dL_cell_12 : decode cL_cell 12 = .ok (.sipush 7919, 3) := by decide +kernel
theorem dL_cell_15 : decode cL_cell 15 = .ok (.iload_n 1, 1) := by decide +kernel
theorem dL_cell_16 : decode cL_cell 16 = .ok (.bipush 23, 2) := by decide +kernel
theorem dL_cell_18 : decode cL_cell 18 = .ok (.iadd, 1) := by decide +kernel
theorem dL_cell_19 : decode cL_cell 19 = .ok (.imul, 1) := by decide +kernel
theorem dL_cell_20 : decode cL_cell 20 = .ok (.iload_n 1, 1) := by decide +kernel
theorem dL_cell_21 : decode cL_cell 21 = .ok (.bipush 53, 2) := by decide +kernel
theorem dL_cell_23 : decode cL_cell 23 = .ok (.iadd, 1) := by decide +kernel
theorem dL_cell_24 : decode cL_cell 24 = .ok (.imul, 1) := by decide +kernel
theorem dL_cell_25 : decode cL_cell 25 = .ok (.ireturn, 1) := by decide +kernel
theorem dL_low_0 : decode cL_low 0 = .ok (.iload_n 0, 1) := by decide +kernel
theorem dL_low_1 : decode cL_low 1 = .ok (.ldc 7, 2) := by decide +kernel
theorem dL_low_3 : decode cL_low 3 = .ok (.iand, 1) := by decide +kernel
theorem dL_low_4 : decode cL_low 4 = .ok (.iload_n 1, 1) := by decide +kernel
theorem dL_low_5 : decode cL_low 5 = .ok (.irem, 1) := by decide +kernel
theorem dL_low_6 : decode cL_low 6 = .ok (.ireturn, 1) := by decide +kernel
theorem dL_all_0 : decode cL_all 0 = .ok (.ldc2_w 8, 3) := by decide +kernel
theorem dL_all_3 : decode cL_all 3 = .ok (.lstore_n 1, 1) := by decide +kernel
theorem dL_all_4 : decode cL_all 4 = .ok (.iconst 0, 1) := by decide +kernel
theorem dL_all_5 : decode cL_all 5 = .ok (.istore_n 3, 1) := by decide +kernel
theorem dL_all_6 : decode cL_all 6 = .ok (.iload_n 3, 1) := by decide +kernel
theorem dL_all_7 : decode cL_all 7 = .ok (.bipush 13, 2) := by decide +kernel
theorem dL_all_9 : decode cL_all 9 = .ok (.if_icmp .ge 22, 3) := by decide +kernel
theorem dL_all_12 : decode cL_all 12 = .ok (.ldc2_w 10, 3) := by decide +kernel
theorem dL_all_15 : decode cL_all 15 = .ok (.lload_n 1, 1) := by decide +kernel
theorem dL_all_16 : decode cL_all 16 = .ok (.lmul, 1) := by decide +kernel
theorem dL_all_17 : decode cL_all 17 = .ok (.aload_n 0, 1) := by decide +kernel
theorem dL_all_18 : decode cL_all 18 = .ok (.iload_n 3, 1) := by decide +kernel
theorem dL_all_19 : decode cL_all 19 = .ok (.invokevirtual 12, 3) := by decide +kernel
theorem dL_all_22 : decode cL_all 22 = .ok (.i2l, 1) := by decide +kernel
theorem dL_all_23 : decode cL_all 23 = .ok (.ladd, 1) := by decide +kernel
theorem dL_all_24 : decode cL_all 24 = .ok (.lstore_n 1, 1) := by decide +kernel
theorem dL_all_25 : decode cL_all 25 = .ok (.iinc 3 1, 3) := by decide +kernel
theorem dL_all_28 : decode cL_all 28 = .ok (.goto (-22), 3) := by decide +kernel
theorem dL_all_31 : decode cL_all 31 = .ok (.iconst 0, 1) := by decide +kernel
theorem dL_all_32 : decode cL_all 32 = .ok (.istore_n 3, 1) := by decide +kernel
theorem dL_all_33 : decode cL_all 33 = .ok (.iload_n 3, 1) := by decide +kernel
theorem dL_all_34 : decode cL_all 34 = .ok (.aload_n 0, 1) := by decide +kernel
theorem dL_all_35 : decode cL_all 35 = .ok (.iconst 2, 1) := by decide +kernel
theorem dL_all_36 : decode cL_all 36 = .ok (.invokevirtual 12, 3) := by decide +kernel
theorem dL_all_39 : decode cL_all 39 = .ok (.if_icmp .ge 108, 3) := by decide +kernel
theorem dL_all_42 : decode cL_all 42 = .ok (.iconst 0, 1) := by decide +kernel
theorem dL_all_43 : decode cL_all 43 = .ok (.istore 4, 2) := by decide +kernel
theorem dL_all_45 : decode cL_all 45 = .ok (.iload 4, 2) := by decide +kernel
theorem dL_all_47 : decode cL_all 47 = .ok (.bipush 11, 2) := by decide +kernel
theorem dL_all_49 : decode cL_all 49 = .ok (.if_icmp .ge 24, 3) := by decide +kernel
theorem dL_all_52 : decode cL_all 52 = .ok (.ldc2_w 10, 3) := by decide +kernel
theorem dL_all_55 : decode cL_all 55 = .ok (.lload_n 1, 1) := by decide +kernel
theorem dL_all_56 : decode cL_all 56 = .ok (.lmul, 1) := by decide +kernel
theorem dL_all_57 : decode cL_all 57 = .ok (.aload_n 0, 1) := by decide +kernel
theorem dL_all_58 : decode cL_all 58 = .ok (.iload_n 3, 1) := by decide +kernel
theorem dL_all_59 : decode cL_all 59 = .ok (.iload 4, 2) := by decide +kernel
theorem dL_all_61 : decode cL_all 61 = .ok (.invokevirtual 18, 3) := by decide +kernel
theorem dL_all_64 : decode cL_all 64 = .ok (.i2l, 1) := by decide +kernel
theorem dL_all_65 : decode cL_all 65 = .ok (.ladd, 1) := by decide +kernel
theorem dL_all_66 : decode cL_all 66 = .ok (.lstore_n 1, 1) := by decide +kernel
theorem dL_all_67 : decode cL_all 67 = .ok (.iinc 4 1, 3) := by decide +kernel
theorem dL_all_70 : decode cL_all 70 = .ok (.goto (-25), 3) := by decide +kernel
theorem dL_all_73 : decode cL_all 73 = .ok (.iconst 0, 1) := by decide +kernel
theorem dL_all_74 : decode cL_all 74 = .ok (.istore 4, 2) := by decide +kernel
theorem dL_all_76 : decode cL_all 76 = .ok (.iload 4, 2) := by decide +kernel
theorem dL_all_78 : decode cL_all 78 = .ok (.bipush 20, 2) := by decide +kernel
theorem dL_all_80 : decode cL_all 80 = .ok (.if_icmp .ge 24, 3) := by decide +kernel
theorem dL_all_83 : decode cL_all 83 = .ok (.ldc2_w 10, 3) := by decide +kernel
theorem dL_all_86 : decode cL_all 86 = .ok (.lload_n 1, 1) := by decide +kernel
theorem dL_all_87 : decode cL_all 87 = .ok (.lmul, 1) := by decide +kernel
theorem dL_all_88 : decode cL_all 88 = .ok (.aload_n 0, 1) := by decide +kernel
theorem dL_all_89 : decode cL_all 89 = .ok (.iload_n 3, 1) := by decide +kernel
theorem dL_all_90 : decode cL_all 90 = .ok (.iload 4, 2) := by decide +kernel
theorem dL_all_92 : decode cL_all 92 = .ok (.invokevirtual 22, 3) := by decide +kernel
theorem dL_all_95 : decode cL_all 95 = .ok (.i2l, 1) := by decide +kernel
theorem dL_all_96 : decode cL_all 96 = .ok (.ladd, 1) := by decide +kernel
theorem dL_all_97 : decode cL_all 97 = .ok (.lstore_n 1, 1) := by decide +kernel
theorem dL_all_98 : decode cL_all 98 = .ok (.iinc 4 1, 3) := by decide +kernel
theorem dL_all_101 : decode cL_all 101 = .ok (.goto (-25), 3) := by decide +kernel
theorem dL_all_104 : decode cL_all 104 = .ok (.iconst 0, 1) := by decide +kernel
theorem dL_all_105 : decode cL_all 105 = .ok (.istore 4, 2) := by decide +kernel
theorem dL_all_107 : decode cL_all 107 = .ok (.iload 4, 2) := by decide +kernel
theorem dL_all_109 : decode cL_all 109 = .ok (.bipush 9, 2) := by decide +kernel
theorem dL_all_111 : decode cL_all 111 = .ok (.if_icmp .ge 30, 3) := by decide +kernel
theorem dL_all_114 : decode cL_all 114 = .ok (.ldc2_w 10, 3) := by decide +kernel
theorem dL_all_117 : decode cL_all 117 = .ok (.lload_n 1, 1) := by decide +kernel
theorem dL_all_118 : decode cL_all 118 = .ok (.lmul, 1) := by decide +kernel
theorem dL_all_119 : decode cL_all 119 = .ok (.aload_n 0, 1) := by decide +kernel
theorem dL_all_120 : decode cL_all 120 = .ok (.iload_n 3, 1) := by decide +kernel
theorem dL_all_121 : decode cL_all 121 = .ok (.iload 4, 2) := by decide +kernel
theorem dL_all_123 : decode cL_all 123 = .ok (.iconst 3, 1) := by decide +kernel
theorem dL_all_124 : decode cL_all 124 = .ok (.idiv, 1) := by decide +kernel
theorem dL_all_125 : decode cL_all 125 = .ok (.iload 4, 2) := by decide +kernel
theorem dL_all_127 : decode cL_all 127 = .ok (.iconst 3, 1) := by decide +kernel
theorem dL_all_128 : decode cL_all 128 = .ok (.irem, 1) := by decide +kernel
theorem dL_all_129 : decode cL_all 129 = .ok (.invokevirtual 25, 3) := by decide +kernel
theorem dL_all_132 : decode cL_all 132 = .ok (.i2l, 1) := by decide +kernel
theorem dL_all_133 : decode cL_all 133 = .ok (.ladd, 1) := by decide +kernel
theorem dL_all_134 : decode cL_all 134 = .ok (.lstore_n 1, 1) := by decide +kernel
theorem dL_all_135 : decode cL_all 135 = .ok (.iinc 4 1, 3) := by decide +kernel
theorem dL_all_138 : decode cL_all 138 = .ok (.goto (-31), 3) := by decide +kernel
theorem dL_all_141 : decode cL_all 141 = .ok (.iinc 3 1, 3) := by decide +kernel
theorem dL_all_144 : decode cL_all 144 = .ok (.goto (-111), 3) := by decide +kernel
theorem dL_all_147 : decode cL_all 147 = .ok (.iconst 0, 1) := by decide +kernel
theorem dL_all_148 : decode cL_all 148 = .ok (.istore_n 3, 1) := by decide +kernel
theorem dL_all_149 : decode cL_all 149 = .ok (.iload_n 3, 1) := by decide +kernel
theorem dL_all_150 : decode cL_all 150 = .ok (.sipush 140, 3) := by decide +kernel
theorem dL_all_153 : decode cL_all 153 = .ok (.if_icmp .ge 29, 3) := by decide +kernel
theorem dL_all_156 : decode cL_all 156 = .ok (.ldc2_w 10, 3) := by decide +kernel
theorem dL_all_159 : decode cL_all 159 = .ok (.lload_n 1, 1) := by decide +kernel
theorem dL_all_160 : decode cL_all 160 = .ok (.lmul, 1) := by decide +kernel
theorem dL_all_161 : decode cL_all 161 = .ok (.aload_n 0, 1) := by decide +kernel
theorem dL_all_162 : decode cL_all 162 = .ok (.iload_n 3, 1) := by decide +kernel
theorem dL_all_163 : decode cL_all 163 = .ok (.bipush 7, 2) := by decide +kernel
theorem dL_all_165 : decode cL_all 165 = .ok (.idiv, 1) := by decide +kernel
theorem dL_all_166 : decode cL_all 166 = .ok (.iload_n 3, 1) := by decide +kernel
theorem dL_all_167 : decode cL_all 167 = .ok (.bipush 7, 2) := by decide +kernel
theorem dL_all_169 : decode cL_all 169 = .ok (.irem, 1) := by decide +kernel
theorem dL_all_170 : decode cL_all 170 = .ok (.invokevirtual 29, 3) := by decide +kernel
theorem dL_all_173 : decode cL_all 173 = .ok (.i2l, 1) := by decide +kernel
theorem dL_all_174 : decode cL_all 174 = .ok (.ladd, 1) := by decide +kernel
theorem dL_all_175 : decode cL_all 175 = .ok (.lstore_n 1, 1) := by decide +kernel
theorem dL_all_176 : decode cL_all 176 = .ok (.iinc 3 1, 3) := by decide +kernel
theorem dL_all_179 : decode cL_all 179 = .ok (.goto (-30), 3) := by decide +kernel
theorem dL_all_182 : decode cL_all 182 = .ok (.iconst 0, 1) := by decide +kernel
theorem dL_all_183 : decode cL_all 183 = .ok (.istore_n 3, 1) := by decide +kernel
theorem dL_all_184 : decode cL_all 184 = .ok (.iload_n 3, 1) := by decide +kernel
theorem dL_all_185 : decode cL_all 185 = .ok (.bipush 9, 2) := by decide +kernel
theorem dL_all_187 : decode cL_all 187 = .ok (.if_icmp .ge 27, 3) := by decide +kernel
theorem dL_all_190 : decode cL_all 190 = .ok (.ldc2_w 10, 3) := by decide +kernel
theorem dL_all_193 : decode cL_all 193 = .ok (.lload_n 1, 1) := by decide +kernel
theorem dL_all_194 : decode cL_all 194 = .ok (.lmul, 1) := by decide +kernel
theorem dL_all_195 : decode cL_all 195 = .ok (.aload_n 0, 1) := by decide +kernel
theorem dL_all_196 : decode cL_all 196 = .ok (.iload_n 3, 1) := by decide +kernel
theorem dL_all_197 : decode cL_all 197 = .ok (.iconst 3, 1) := by decide +kernel
theorem dL_all_198 : decode cL_all 198 = .ok (.idiv, 1) := by decide +kernel
theorem dL_all_199 : decode cL_all 199 = .ok (.iload_n 3, 1) := by decide +kernel
theorem dL_all_200 : decode cL_all 200 = .ok (.iconst 3, 1) := by decide +kernel
theorem dL_all_201 : decode cL_all 201 = .ok (.irem, 1) := by decide +kernel
theorem dL_all_202 : decode cL_all 202 = .ok (.invokevirtual 32, 3) := by decide +kernel
theorem dL_all_205 : decode cL_all 205 = .ok (.i2l, 1) := by decide +kernel
theorem dL_all_206 : decode cL_all 206 = .ok (.ladd, 1) := by decide +kernel
theorem dL_all_207 : decode cL_all 207 = .ok (.lstore_n 1, 1) := by decide +kernel
theorem dL_all_208 : decode cL_all 208 = .ok (.iinc 3 1, 3) := by decide +kernel
theorem dL_all_211 : decode cL_all 211 = .ok (.goto (-27), 3) := by decide +kernel
theorem dL_all_214 : decode cL_all 214 = .ok (.lload_n 1, 1) := by decide +kernel
theorem dL_all_215 : decode cL_all 215 = .ok (.lreturn, 1) := by decide +kernel
theorem dL_isSound_0 : decode cL_isSound 0 = .ok (.aload_n 0, 1) := by decide +kernel
theorem dL_isSound_1 : decode cL_isSound 1 = .ok (.iconst 2, 1) := by decide +kernel
theorem dL_isSound_2 : decode cL_isSound 2 = .ok (.invokevirtual 12, 3) := by decide +kernel
theorem dL_isSound_5 : decode cL_isSound 5 = .ok (.istore_n 1, 1) := by decide +kernel
theorem dL_isSound_6 : decode cL_isSound 6 = .ok (.iconst 0, 1) := by decide +kernel
theorem dL_isSound_7 : decode cL_isSound 7 = .ok (.istore_n 2, 1) := by decide +kernel
theorem dL_isSound_8 : decode cL_isSound 8 = .ok (.iconst 0, 1) := by decide +kernel
theorem dL_isSound_9 : decode cL_isSound 9 = .ok (.istore_n 3, 1) := by decide +kernel
theorem dL_isSound_10 : decode cL_isSound 10 = .ok (.iconst 0, 1) := by decide +kernel
theorem dL_isSound_11 : decode cL_isSound 11 = .ok (.istore 4, 2) := by decide +kernel
theorem dL_isSound_13 : decode cL_isSound 13 = .ok (.iconst 0, 1) := by decide +kernel
theorem dL_isSound_14 : decode cL_isSound 14 = .ok (.istore 5, 2) := by decide +kernel
theorem dL_isSound_16 : decode cL_isSound 16 = .ok (.iload 5, 2) := by decide +kernel
theorem dL_isSound_18 : decode cL_isSound 18 = .ok (.bipush 20, 2) := by decide +kernel
theorem dL_isSound_20 : decode cL_isSound 20 = .ok (.if_icmp .ge 319, 3) := by decide +kernel
theorem dL_isSound_23 : decode cL_isSound 23 = .ok (.iconst 0, 1) := by decide +kernel
theorem dL_isSound_24 : decode cL_isSound 24 = .ok (.istore 6, 2) := by decide +kernel
theorem dL_isSound_26 : decode cL_isSound 26 = .ok (.iconst 0, 1) := by decide +kernel
theorem dL_isSound_27 : decode cL_isSound 27 = .ok (.istore 7, 2) := by decide +kernel
theorem dL_isSound_29 : decode cL_isSound 29 = .ok (.ldc 35, 2) := by decide +kernel
theorem dL_isSound_31 : decode cL_isSound 31 = .ok (.istore 8, 2) := by decide +kernel
theorem dL_isSound_33 : decode cL_isSound 33 = .ok (.iconst 0, 1) := by decide +kernel
theorem dL_isSound_34 : decode cL_isSound 34 = .ok (.istore 9, 2) := by decide +kernel
theorem dL_isSound_36 : decode cL_isSound 36 = .ok (.iload 9, 2) := by decide +kernel
theorem dL_isSound_38 : decode cL_isSound 38 = .ok (.iload_n 1, 1) := by decide +kernel
theorem dL_isSound_39 : decode cL_isSound 39 = .ok (.if_icmp .ge 104, 3) := by decide +kernel
theorem dL_isSound_42 : decode cL_isSound 42 = .ok (.iload 6, 2) := by decide +kernel
theorem dL_isSound_44 : decode cL_isSound 44 = .ok (.aload_n 0, 1) := by decide +kernel
theorem dL_isSound_45 : decode cL_isSound 45 = .ok (.iload 9, 2) := by decide +kernel
theorem dL_isSound_47 : decode cL_isSound 47 = .ok (.iload 5, 2) := by decide +kernel
theorem dL_isSound_49 : decode cL_isSound 49 = .ok (.invokevirtual 22, 3) := by decide +kernel
theorem dL_isSound_52 : decode cL_isSound 52 = .ok (.iadd, 1) := by decide +kernel
theorem dL_isSound_53 : decode cL_isSound 53 = .ok (.istore 6, 2) := by decide +kernel
theorem dL_isSound_55 : decode cL_isSound 55 = .ok (.iload 7, 2) := by decide +kernel
theorem dL_isSound_57 : decode cL_isSound 57 = .ok (.aload_n 0, 1) := by decide +kernel
theorem dL_isSound_58 : decode cL_isSound 58 = .ok (.iload 9, 2) := by decide +kernel
theorem dL_isSound_60 : decode cL_isSound 60 = .ok (.iload 5, 2) := by decide +kernel
theorem dL_isSound_62 : decode cL_isSound 62 = .ok (.invokevirtual 22, 3) := by decide +kernel
theorem dL_isSound_65 : decode cL_isSound 65 = .ok (.ifCond .le 7, 3) := by decide +kernel
theorem dL_isSound_68 : decode cL_isSound 68 = .ok (.iconst 1, 1) := by decide +kernel
theorem dL_isSound_69 : decode cL_isSound 69 = .ok (.goto 4, 3) := by decide +kernel
theorem dL_isSound_72 : decode cL_isSound 72 = .ok (.iconst 0, 1) := by decide +kernel
theorem dL_isSound_73 : decode cL_isSound 73 = .ok (.iadd, 1) := by decide +kernel
theorem dL_isSound_74 : decode cL_isSound 74 = .ok (.istore 7, 2) := by decide +kernel
theorem dL_isSound_76 : decode cL_isSound 76 = .ok (.aload_n 0, 1) := by decide +kernel
theorem dL_isSound_77 : decode cL_isSound 77 = .ok (.iload 5, 2) := by decide +kernel
theorem dL_isSound_79 : decode cL_isSound 79 = .ok (.iload 9, 2) := by decide +kernel
theorem dL_isSound_81 : decode cL_isSound 81 = .ok (.invokevirtual 36, 3) := by decide +kernel
theorem dL_isSound_84 : decode cL_isSound 84 = .ok (.istore 10, 2) := by decide +kernel
theorem dL_isSound_86 : decode cL_isSound 86 = .ok (.iload 10, 2) := by decide +kernel
theorem dL_isSound_88 : decode cL_isSound 88 = .ok (.ifCond .lt 30, 3) := by decide +kernel
theorem dL_isSound_91 : decode cL_isSound 91 = .ok (.aload_n 0, 1) := by decide +kernel
theorem dL_isSound_92 : decode cL_isSound 92 = .ok (.iload 10, 2) := by decide +kernel
theorem dL_isSound_94 : decode cL_isSound 94 = .ok (.iload 5, 2) := by decide +kernel
theorem dL_isSound_96 : decode cL_isSound 96 = .ok (.invokevirtual 22, 3) := by decide +kernel
theorem dL_isSound_99 : decode cL_isSound 99 = .ok (.iconst 1, 1) := by decide +kernel
theorem dL_isSound_100 : decode cL_isSound 100 = .ok (.if_icmp .lt 16, 3) := by decide +kernel
theorem dL_isSound_103 : decode cL_isSound 103 = .ok (.aload_n 0, 1) := by decide +kernel
theorem dL_isSound_104 : decode cL_isSound 104 = .ok (.iload 10, 2) := by decide +kernel
theorem dL_isSound_106 : decode cL_isSound 106 = .ok (.iload 5, 2) := by decide +kernel
theorem dL_isSound_108 : decode cL_isSound 108 = .ok (.invokevirtual 22, 3) := by decide +kernel
theorem dL_isSound_111 : decode cL_isSound 111 = .ok (.iload 8, 2) := by decide +kernel
theorem dL_isSound_113 : decode cL_isSound 113 = .ok (.if_icmp .le 5, 3) := by decide +kernel
theorem dL_isSound_116 : decode cL_isSound 116 = .ok (.iconst 0, 1) := by decide +kernel
theorem dL_isSound_117 : decode cL_isSound 117 = .ok (.ireturn, 1) := by decide +kernel
theorem dL_isSound_118 : decode cL_isSound 118 = .ok (.iload 10, 2) := by decide +kernel
theorem dL_isSound_120 : decode cL_isSound 120 = .ok (.ifCond .lt 14, 3) := by decide +kernel
theorem dL_isSound_123 : decode cL_isSound 123 = .ok (.aload_n 0, 1) := by decide +kernel
theorem dL_isSound_124 : decode cL_isSound 124 = .ok (.iload 10, 2) := by decide +kernel
theorem dL_isSound_126 : decode cL_isSound 126 = .ok (.iload 5, 2) := by decide +kernel
theorem dL_isSound_128 : decode cL_isSound 128 = .ok (.invokevirtual 22, 3) := by decide +kernel
theorem dL_isSound_131 : decode cL_isSound 131 = .ok (.goto 4, 3) := by decide +kernel
theorem dL_isSound_134 : decode cL_isSound 134 = .ok (.iconst 0, 1) := by decide +kernel
theorem dL_isSound_135 : decode cL_isSound 135 = .ok (.istore 8, 2) := by decide +kernel
theorem dL_isSound_137 : decode cL_isSound 137 = .ok (.iinc 9 1, 3) := by decide +kernel
theorem dL_isSound_140 : decode cL_isSound 140 = .ok (.goto (-104), 3) := by decide +kernel
theorem dL_isSound_143 : decode cL_isSound 143 = .ok (.aload_n 0, 1) := by decide +kernel
theorem dL_isSound_144 : decode cL_isSound 144 = .ok (.iload 5, 2) := by decide +kernel
theorem dL_isSound_146 : decode cL_isSound 146 = .ok (.iconst 0, 1) := by decide +kernel
theorem dL_isSound_147 : decode cL_isSound 147 = .ok (.invokevirtual 29, 3) := by decide +kernel
theorem dL_isSound_150 : decode cL_isSound 150 = .ok (.aload_n 0, 1) := by decide +kernel
theorem dL_isSound_151 : decode cL_isSound 151 = .ok (.iload 5, 2) := by decide +kernel
theorem dL_isSound_153 : decode cL_isSound 153 = .ok (.iconst 1, 1) := by decide +kernel
theorem dL_isSound_154 : decode cL_isSound 154 = .ok (.invokevirtual 29, 3) := by decide +kernel
theorem dL_isSound_157 : decode cL_isSound 157 = .ok (.aload_n 0, 1) := by decide +kernel
theorem dL_isSound_158 : decode cL_isSound 158 = .ok (.iload 5, 2) := by decide +kernel
theorem dL_isSound_160 : decode cL_isSound 160 = .ok (.iconst 2, 1) := by decide +kernel
theorem dL_isSound_161 : decode cL_isSound 161 = .ok (.invokevirtual 29, 3) := by decide +kernel
theorem dL_isSound_164 : decode cL_isSound 164 = .ok (.iadd, 1) := by decide +kernel
theorem dL_isSound_165 : decode cL_isSound 165 = .ok (.aload_n 0, 1) := by decide +kernel
theorem dL_isSound_166 : decode cL_isSound 166 = .ok (.iload 5, 2) := by decide +kernel
theorem dL_isSound_168 : decode cL_isSound 168 = .ok (.iconst 3, 1) := by decide +kernel
theorem dL_isSound_169 : decode cL_isSound 169 = .ok (.invokevirtual 29, 3) := by decide +kernel
theorem dL_isSound_172 : decode cL_isSound 172 = .ok (.iadd, 1) := by decide +kernel
theorem dL_isSound_173 : decode cL_isSound 173 = .ok (.aload_n 0, 1) := by decide +kernel
theorem dL_isSound_174 : decode cL_isSound 174 = .ok (.iload 5, 2) := by decide +kernel
theorem dL_isSound_176 : decode cL_isSound 176 = .ok (.iconst 4, 1) := by decide +kernel
theorem dL_isSound_177 : decode cL_isSound 177 = .ok (.invokevirtual 29, 3) := by decide +kernel
theorem dL_isSound_180 : decode cL_isSound 180 = .ok (.iadd, 1) := by decide +kernel
theorem dL_isSound_181 : decode cL_isSound 181 = .ok (.if_icmp .ne 60, 3) := by decide +kernel
theorem dL_isSound_184 : decode cL_isSound 184 = .ok (.aload_n 0, 1) := by decide +kernel
theorem dL_isSound_185 : decode cL_isSound 185 = .ok (.iload 5, 2) := by decide +kernel
theorem dL_isSound_187 : decode cL_isSound 187 = .ok (.iconst 1, 1) := by decide +kernel
theorem dL_isSound_188 : decode cL_isSound 188 = .ok (.invokevirtual 29, 3) := by decide +kernel
theorem dL_isSound_191 : decode cL_isSound 191 = .ok (.iload 6, 2) := by decide +kernel
theorem dL_isSound_193 : decode cL_isSound 193 = .ok (.if_icmp .ne 48, 3) := by decide +kernel
theorem dL_isSound_196 : decode cL_isSound 196 = .ok (.aload_n 0, 1) := by decide +kernel
theorem dL_isSound_197 : decode cL_isSound 197 = .ok (.iload 5, 2) := by decide +kernel
theorem dL_isSound_199 : decode cL_isSound 199 = .ok (.iconst 5, 1) := by decide +kernel
theorem dL_isSound_200 : decode cL_isSound 200 = .ok (.invokevirtual 29, 3) := by decide +kernel
theorem dL_isSound_203 : decode cL_isSound 203 = .ok (.iload 7, 2) := by decide +kernel
theorem dL_isSound_205 : decode cL_isSound 205 = .ok (.if_icmp .ne 36, 3) := by decide +kernel
theorem dL_isSound_208 : decode cL_isSound 208 = .ok (.aload_n 0, 1) := by decide +kernel
theorem dL_isSound_209 : decode cL_isSound 209 = .ok (.iload 5, 2) := by decide +kernel
theorem dL_isSound_211 : decode cL_isSound 211 = .ok (.iload 7, 2) := by decide +kernel
theorem dL_isSound_213 : decode cL_isSound 213 = .ok (.invokevirtual 36, 3) := by decide +kernel
theorem dL_isSound_216 : decode cL_isSound 216 = .ok (.bipush (-5), 2) := by decide +kernel
theorem dL_isSound_218 : decode cL_isSound 218 = .ok (.if_icmp .ne 23, 3) := by decide +kernel
theorem dL_isSound_221 : decode cL_isSound 221 = .ok (.iload 5, 2) := by decide +kernel
theorem dL_isSound_223 : decode cL_isSound 223 = .ok (.aload_n 0, 1) := by decide +kernel
theorem dL_isSound_224 : decode cL_isSound 224 = .ok (.iconst 1, 1) := by decide +kernel
theorem dL_isSound_225 : decode cL_isSound 225 = .ok (.invokevirtual 12, 3) := by decide +kernel
theorem dL_isSound_228 : decode cL_isSound 228 = .ok (.if_icmp .le 15, 3) := by decide +kernel
theorem dL_isSound_231 : decode cL_isSound 231 = .ok (.aload_n 0, 1) := by decide +kernel
theorem dL_isSound_232 : decode cL_isSound 232 = .ok (.iload 5, 2) := by decide +kernel
theorem dL_isSound_234 : decode cL_isSound 234 = .ok (.iconst 0, 1) := by decide +kernel
theorem dL_isSound_235 : decode cL_isSound 235 = .ok (.invokevirtual 29, 3) := by decide +kernel
theorem dL_isSound_238 : decode cL_isSound 238 = .ok (.ifCond .eq 5, 3) := by decide +kernel
theorem dL_isSound_241 : decode cL_isSound 241 = .ok (.iconst 0, 1) := by decide +kernel
theorem dL_isSound_242 : decode cL_isSound 242 = .ok (.ireturn, 1) := by decide +kernel
theorem dL_isSound_243 : decode cL_isSound 243 = .ok (.aload_n 0, 1) := by decide +kernel
theorem dL_isSound_244 : decode cL_isSound 244 = .ok (.iload 5, 2) := by decide +kernel
theorem dL_isSound_246 : decode cL_isSound 246 = .ok (.bipush 6, 2) := by decide +kernel
theorem dL_isSound_248 : decode cL_isSound 248 = .ok (.invokevirtual 29, 3) := by decide +kernel
theorem dL_isSound_251 : decode cL_isSound 251 = .ok (.istore 9, 2) := by decide +kernel
theorem dL_isSound_253 : decode cL_isSound 253 = .ok (.iload 6, 2) := by decide +kernel
theorem dL_isSound_255 : decode cL_isSound 255 = .ok (.ifCond .ne 13, 3) := by decide +kernel
theorem dL_isSound_258 : decode cL_isSound 258 = .ok (.iload 9, 2) := by decide +kernel
theorem dL_isSound_260 : decode cL_isSound 260 = .ok (.bipush (-5), 2) := by decide +kernel
theorem dL_isSound_262 : decode cL_isSound 262 = .ok (.if_icmp .eq 44, 3) := by decide +kernel
theorem dL_isSound_265 : decode cL_isSound 265 = .ok (.goto 39, 3) := by decide +kernel
theorem dL_isSound_268 : decode cL_isSound 268 = .ok (.iload 9, 2) := by decide +kernel
theorem dL_isSound_270 : decode cL_isSound 270 = .ok (.iconst 1, 1) := by decide +kernel
theorem dL_isSound_271 : decode cL_isSound 271 = .ok (.if_icmp .lt 33, 3) := by decide +kernel
theorem dL_isSound_274 : decode cL_isSound 274 = .ok (.iload 9, 2) := by decide +kernel
theorem dL_isSound_276 : decode cL_isSound 276 = .ok (.aload_n 0, 1) := by decide +kernel
theorem dL_isSound_277 : decode cL_isSound 277 = .ok (.iconst 0, 1) := by decide +kernel
theorem dL_isSound_278 : decode cL_isSound 278 = .ok (.invokevirtual 12, 3) := by decide +kernel
theorem dL_isSound_281 : decode cL_isSound 281 = .ok (.iadd, 1) := by decide +kernel
theorem dL_isSound_282 : decode cL_isSound 282 = .ok (.bipush 12, 2) := by decide +kernel
theorem dL_isSound_284 : decode cL_isSound 284 = .ok (.irem, 1) := by decide +kernel
theorem dL_isSound_285 : decode cL_isSound 285 = .ok (.ifCond .ne 19, 3) := by decide +kernel
theorem dL_isSound_288 : decode cL_isSound 288 = .ok (.iload 9, 2) := by decide +kernel
theorem dL_isSound_290 : decode cL_isSound 290 = .ok (.aload_n 0, 1) := by decide +kernel
theorem dL_isSound_291 : decode cL_isSound 291 = .ok (.iconst 0, 1) := by decide +kernel
theorem dL_isSound_292 : decode cL_isSound 292 = .ok (.invokevirtual 12, 3) := by decide +kernel
theorem dL_isSound_295 : decode cL_isSound 295 = .ok (.iadd, 1) := by decide +kernel
theorem dL_isSound_296 : decode cL_isSound 296 = .ok (.bipush 12, 2) := by decide +kernel
theorem dL_isSound_298 : decode cL_isSound 298 = .ok (.idiv, 1) := by decide +kernel
theorem dL_isSound_299 : decode cL_isSound 299 = .ok (.iload 5, 2) := by decide +kernel
theorem dL_isSound_301 : decode cL_isSound 301 = .ok (.if_icmp .gt 5, 3) := by decide +kernel
theorem dL_isSound_304 : decode cL_isSound 304 = .ok (.iconst 0, 1) := by decide +kernel
theorem dL_isSound_305 : decode cL_isSound 305 = .ok (.ireturn, 1) := by decide +kernel
theorem dL_isSound_306 : decode cL_isSound 306 = .ok (.iload_n 2, 1) := by decide +kernel
theorem dL_isSound_307 : decode cL_isSound 307 = .ok (.aload_n 0, 1) := by decide +kernel
theorem dL_isSound_308 : decode cL_isSound 308 = .ok (.iload 5, 2) := by decide +kernel
theorem dL_isSound_310 : decode cL_isSound 310 = .ok (.iconst 2, 1) := by decide +kernel
theorem dL_isSound_311 : decode cL_isSound 311 = .ok (.invokevirtual 29, 3) := by decide +kernel
theorem dL_isSound_314 : decode cL_isSound 314 = .ok (.iadd, 1) := by decide +kernel
theorem dL_isSound_315 : decode cL_isSound 315 = .ok (.istore_n 2, 1) := by decide +kernel
theorem dL_isSound_316 : decode cL_isSound 316 = .ok (.iload_n 3, 1) := by decide +kernel
theorem dL_isSound_317 : decode cL_isSound 317 = .ok (.iload 6, 2) := by decide +kernel
theorem dL_isSound_319 : decode cL_isSound 319 = .ok (.iadd, 1) := by decide +kernel
theorem dL_isSound_320 : decode cL_isSound 320 = .ok (.istore_n 3, 1) := by decide +kernel
theorem dL_isSound_321 : decode cL_isSound 321 = .ok (.iload 4, 2) := by decide +kernel
theorem dL_isSound_323 : decode cL_isSound 323 = .ok (.aload_n 0, 1) := by decide +kernel
theorem dL_isSound_324 : decode cL_isSound 324 = .ok (.iload 5, 2) := by decide +kernel
theorem dL_isSound_326 : decode cL_isSound 326 = .ok (.iconst 4, 1) := by decide +kernel
theorem dL_isSound_327 : decode cL_isSound 327 = .ok (.invokevirtual 29, 3) := by decide +kernel
theorem dL_isSound_330 : decode cL_isSound 330 = .ok (.iadd, 1) := by decide +kernel
theorem dL_isSound_331 : decode cL_isSound 331 = .ok (.istore 4, 2) := by decide +kernel
theorem dL_isSound_333 : decode cL_isSound 333 = .ok (.iinc 5 1, 3) := by decide +kernel
theorem dL_isSound_336 : decode cL_isSound 336 = .ok (.goto (-320), 3) := by decide +kernel
theorem dL_isSound_339 : decode cL_isSound 339 = .ok (.iconst 0, 1) := by decide +kernel
theorem dL_isSound_340 : decode cL_isSound 340 = .ok (.istore 5, 2) := by decide +kernel
theorem dL_isSound_342 : decode cL_isSound 342 = .ok (.iload 5, 2) := by decide +kernel
theorem dL_isSound_344 : decode cL_isSound 344 = .ok (.iconst 3, 1) := by decide +kernel
theorem dL_isSound_345 : decode cL_isSound 345 = .ok (.if_icmp .ge 128, 3) := by decide +kernel
theorem dL_isSound_348 : decode cL_isSound 348 = .ok (.iconst 0, 1) := by decide +kernel
theorem dL_isSound_349 : decode cL_isSound 349 = .ok (.istore 6, 2) := by decide +kernel
theorem dL_isSound_351 : decode cL_isSound 351 = .ok (.iconst 0, 1) := by decide +kernel
theorem dL_isSound_352 : decode cL_isSound 352 = .ok (.istore 7, 2) := by decide +kernel
theorem dL_isSound_354 : decode cL_isSound 354 = .ok (.iload 7, 2) := by decide +kernel
theorem dL_isSound_356 : decode cL_isSound 356 = .ok (.iload_n 1, 1) := by decide +kernel
theorem dL_isSound_357 : decode cL_isSound 357 = .ok (.if_icmp .ge 61, 3) := by decide +kernel
theorem dL_isSound_360 : decode cL_isSound 360 = .ok (.iload 6, 2) := by decide +kernel
theorem dL_isSound_362 : decode cL_isSound 362 = .ok (.aload_n 0, 1) := by decide +kernel
