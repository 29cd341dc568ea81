theorem dX6_addFirm_4 : decode cX6_addFirm 4 = .ok (.iconst 1, 1) := by decide +kernel
theorem dX6_addFirm_5 : decode cX6_addFirm 5 = .ok (.iaload, 1) := by decide +kernel
theorem dX6_addFirm_6 : decode cX6_addFirm 6 = .ok (.bipush 8, 2) := by decide +kernel
theorem dX6_addFirm_8 : decode cX6_addFirm 8 = .ok (.if_icmp .ne 6, 3) := by decide +kernel
theorem dX6_addFirm_11 : decode cX6_addFirm 11 = .ok (.bipush (-3), 2) := by decide +kernel
theorem dX6_addFirm_13 : decode cX6_addFirm 13 = .ok (.ireturn, 1) := by decide +kernel
theorem dX6_addFirm_14 : decode cX6_addFirm 14 = .ok (.aload_n 0, 1) := by decide +kernel
theorem dX6_addFirm_15 : decode cX6_addFirm 15 = .ok (.iconst 0, 1) := by decide +kernel
theorem dX6_addFirm_16 : decode cX6_addFirm 16 = .ok (.invokevirtual 41, 3) := by decide +kernel
theorem dX6_addFirm_19 : decode cX6_addFirm 19 = .ok (.aload_n 0, 1) := by decide +kernel
theorem dX6_addFirm_20 : decode cX6_addFirm 20 = .ok (.getfield 7, 3) := by decide +kernel
theorem dX6_addFirm_23 : decode cX6_addFirm 23 = .ok (.iconst 1, 1) := by decide +kernel
theorem dX6_addFirm_24 : decode cX6_addFirm 24 = .ok (.iaload, 1) := by decide +kernel
theorem dX6_addFirm_25 : decode cX6_addFirm 25 = .ok (.istore_n 1, 1) := by decide +kernel
theorem dX6_addFirm_26 : decode cX6_addFirm 26 = .ok (.iconst 0, 1) := by decide +kernel
theorem dX6_addFirm_27 : decode cX6_addFirm 27 = .ok (.istore_n 2, 1) := by decide +kernel
theorem dX6_addFirm_28 : decode cX6_addFirm 28 = .ok (.iload_n 2, 1) := by decide +kernel
theorem dX6_addFirm_29 : decode cX6_addFirm 29 = .ok (.bipush 32, 2) := by decide +kernel
theorem dX6_addFirm_31 : decode cX6_addFirm 31 = .ok (.if_icmp .ge 20, 3) := by decide +kernel
theorem dX6_addFirm_34 : decode cX6_addFirm 34 = .ok (.aload_n 0, 1) := by decide +kernel
theorem dX6_addFirm_35 : decode cX6_addFirm 35 = .ok (.getfield 7, 3) := by decide +kernel
theorem dX6_addFirm_38 : decode cX6_addFirm 38 = .ok (.iload_n 1, 1) := by decide +kernel
theorem dX6_addFirm_39 : decode cX6_addFirm 39 = .ok (.iload_n 2, 1) := by decide +kernel
theorem dX6_addFirm_40 : decode cX6_addFirm 40 = .ok (.invokestatic 45, 3) := by decide +kernel
theorem dX6_addFirm_43 : decode cX6_addFirm 43 = .ok (.iconst 0, 1) := by decide +kernel
theorem dX6_addFirm_44 : decode cX6_addFirm 44 = .ok (.iastore, 1) := by decide +kernel
theorem dX6_addFirm_45 : decode cX6_addFirm 45 = .ok (.iinc 2 1, 3) := by decide +kernel
theorem dX6_addFirm_48 : decode cX6_addFirm 48 = .ok (.goto (-20), 3) := by decide +kernel
theorem dX6_addFirm_51 : decode cX6_addFirm 51 = .ok (.aload_n 0, 1) := by decide +kernel
theorem dX6_addFirm_52 : decode cX6_addFirm 52 = .ok (.getfield 7, 3) := by decide +kernel
theorem dX6_addFirm_55 : decode cX6_addFirm 55 = .ok (.iconst 1, 1) := by decide +kernel
theorem dX6_addFirm_56 : decode cX6_addFirm 56 = .ok (.dup2, 1) := by decide +kernel
theorem dX6_addFirm_57 : decode cX6_addFirm 57 = .ok (.iaload, 1) := by decide +kernel
theorem dX6_addFirm_58 : decode cX6_addFirm 58 = .ok (.iconst 1, 1) := by decide +kernel
theorem dX6_addFirm_59 : decode cX6_addFirm 59 = .ok (.iadd, 1) := by decide +kernel
theorem dX6_addFirm_60 : decode cX6_addFirm 60 = .ok (.iastore, 1) := by decide +kernel
theorem dX6_addFirm_61 : decode cX6_addFirm 61 = .ok (.iload_n 1, 1) := by decide +kernel
theorem dX6_addFirm_62 : decode cX6_addFirm 62 = .ok (.ireturn, 1) := by decide +kernel
theorem dX6_set_0 : decode cX6_set 0 = .ok (.iload_n 1, 1) := by decide +kernel
theorem dX6_set_1 : decode cX6_set 1 = .ok (.iconst 3, 1) := by decide +kernel
theorem dX6_set_2 : decode cX6_set 2 = .ok (.if_icmp .ne 7, 3) := by decide +kernel
theorem dX6_set_5 : decode cX6_set 5 = .ok (.iconst 1, 1) := by decide +kernel
theorem dX6_set_6 : decode cX6_set 6 = .ok (.goto 4, 3) := by decide +kernel
theorem dX6_set_9 : decode cX6_set 9 = .ok (.iconst 0, 1) := by decide +kernel
theorem dX6_set_10 : decode cX6_set 10 = .ok (.istore_n 3, 1) := by decide +kernel
theorem dX6_set_11 : decode cX6_set 11 = .ok (.iload_n 1, 1) := by decide +kernel
theorem dX6_set_12 : decode cX6_set 12 = .ok (.iconst 3, 1) := by decide +kernel
theorem dX6_set_13 : decode cX6_set 13 = .ok (.if_icmp .ne 7, 3) := by decide +kernel
theorem dX6_set_16 : decode cX6_set 16 = .ok (.iconst 5, 1) := by decide +kernel
theorem dX6_set_17 : decode cX6_set 17 = .ok (.goto 15, 3) := by decide +kernel
theorem dX6_set_20 : decode cX6_set 20 = .ok (.iload_n 1, 1) := by decide +kernel
theorem dX6_set_21 : decode cX6_set 21 = .ok (.iconst 4, 1) := by decide +kernel
theorem dX6_set_22 : decode cX6_set 22 = .ok (.if_icmp .ne 8, 3) := by decide +kernel
theorem dX6_set_25 : decode cX6_set 25 = .ok (.bipush 99, 2) := by decide +kernel
theorem dX6_set_27 : decode cX6_set 27 = .ok (.goto 5, 3) := by decide +kernel
theorem dX6_set_30 : decode cX6_set 30 = .ok (.bipush 100, 2) := by decide +kernel
theorem dX6_set_32 : decode cX6_set 32 = .ok (.istore 4, 2) := by decide +kernel
theorem dX6_set_34 : decode cX6_set 34 = .ok (.iload_n 1, 1) := by decide +kernel
theorem dX6_set_35 : decode cX6_set 35 = .ok (.iconst 0, 1) := by decide +kernel
theorem dX6_set_36 : decode cX6_set 36 = .ok (.iconst 4, 1) := by decide +kernel
theorem dX6_set_37 : decode cX6_set 37 = .ok (.invokestatic 25, 3) := by decide +kernel
theorem dX6_set_40 : decode cX6_set 40 = .ok (.ifCond .eq 13, 3) := by decide +kernel
theorem dX6_set_43 : decode cX6_set 43 = .ok (.iload_n 2, 1) := by decide +kernel
theorem dX6_set_44 : decode cX6_set 44 = .ok (.iload_n 3, 1) := by decide +kernel
theorem dX6_set_45 : decode cX6_set 45 = .ok (.iload 4, 2) := by decide +kernel
theorem dX6_set_47 : decode cX6_set 47 = .ok (.invokestatic 25, 3) := by decide +kernel
theorem dX6_set_50 : decode cX6_set 50 = .ok (.ifCond .ne 6, 3) := by decide +kernel
theorem dX6_set_53 : decode cX6_set 53 = .ok (.bipush (-2), 2) := by decide +kernel
theorem dX6_set_55 : decode cX6_set 55 = .ok (.ireturn, 1) := by decide +kernel
theorem dX6_set_56 : decode cX6_set 56 = .ok (.aload_n 0, 1) := by decide +kernel
theorem dX6_set_57 : decode cX6_set 57 = .ok (.getfield 7, 3) := by decide +kernel
theorem dX6_set_60 : decode cX6_set 60 = .ok (.iconst 2, 1) := by decide +kernel
theorem dX6_set_61 : decode cX6_set 61 = .ok (.iload_n 1, 1) := by decide +kernel
theorem dX6_set_62 : decode cX6_set 62 = .ok (.iadd, 1) := by decide +kernel
theorem dX6_set_63 : decode cX6_set 63 = .ok (.iaload, 1) := by decide +kernel
theorem dX6_set_64 : decode cX6_set 64 = .ok (.istore 5, 2) := by decide +kernel
theorem dX6_set_66 : decode cX6_set 66 = .ok (.iload 5, 2) := by decide +kernel
theorem dX6_set_68 : decode cX6_set 68 = .ok (.iload_n 2, 1) := by decide +kernel
theorem dX6_set_69 : decode cX6_set 69 = .ok (.if_icmp .ne 6, 3) := by decide +kernel
theorem dX6_set_72 : decode cX6_set 72 = .ok (.bipush (-5), 2) := by decide +kernel
theorem dX6_set_74 : decode cX6_set 74 = .ok (.ireturn, 1) := by decide +kernel
theorem dX6_set_75 : decode cX6_set 75 = .ok (.aload_n 0, 1) := by decide +kernel
theorem dX6_set_76 : decode cX6_set 76 = .ok (.iconst 0, 1) := by decide +kernel
theorem dX6_set_77 : decode cX6_set 77 = .ok (.invokevirtual 41, 3) := by decide +kernel
theorem dX6_set_80 : decode cX6_set 80 = .ok (.aload_n 0, 1) := by decide +kernel
theorem dX6_set_81 : decode cX6_set 81 = .ok (.getfield 7, 3) := by decide +kernel
theorem dX6_set_84 : decode cX6_set 84 = .ok (.iconst 2, 1) := by decide +kernel
theorem dX6_set_85 : decode cX6_set 85 = .ok (.iload_n 1, 1) := by decide +kernel
theorem dX6_set_86 : decode cX6_set 86 = .ok (.iadd, 1) := by decide +kernel
theorem dX6_set_87 : decode cX6_set 87 = .ok (.iload_n 2, 1) := by decide +kernel
theorem dX6_set_88 : decode cX6_set 88 = .ok (.iastore, 1) := by decide +kernel
theorem dX6_set_89 : decode cX6_set 89 = .ok (.iload 5, 2) := by decide +kernel
theorem dX6_set_91 : decode cX6_set 91 = .ok (.ireturn, 1) := by decide +kernel
theorem dX6_issue_0 : decode cX6_issue 0 = .ok (.aload_n 0, 1) := by decide +kernel
theorem dX6_issue_1 : decode cX6_issue 1 = .ok (.iload_n 1, 1) := by decide +kernel
theorem dX6_issue_2 : decode cX6_issue 2 = .ok (.invokevirtual 49, 3) := by decide +kernel
theorem dX6_issue_5 : decode cX6_issue 5 = .ok (.ifCond .ne 5, 3) := by decide +kernel
theorem dX6_issue_8 : decode cX6_issue 8 = .ok (.iconst (-1), 1) := by decide +kernel
theorem dX6_issue_9 : decode cX6_issue 9 = .ok (.ireturn, 1) := by decide +kernel
theorem dX6_issue_10 : decode cX6_issue 10 = .ok (.iload_n 2, 1) := by decide +kernel
theorem dX6_issue_11 : decode cX6_issue 11 = .ok (.invokestatic 53, 3) := by decide +kernel
theorem dX6_issue_14 : decode cX6_issue 14 = .ok (.ifCond .ne 6, 3) := by decide +kernel
theorem dX6_issue_17 : decode cX6_issue 17 = .ok (.bipush (-2), 2) := by decide +kernel
theorem dX6_issue_19 : decode cX6_issue 19 = .ok (.ireturn, 1) := by decide +kernel
theorem dX6_issue_20 : decode cX6_issue 20 = .ok (.aload_n 0, 1) := by decide +kernel
theorem dX6_issue_21 : decode cX6_issue 21 = .ok (.iconst 0, 1) := by decide +kernel
theorem dX6_issue_22 : decode cX6_issue 22 = .ok (.invokevirtual 41, 3) := by decide +kernel
theorem dX6_issue_25 : decode cX6_issue 25 = .ok (.aload_n 0, 1) := by decide +kernel
theorem dX6_issue_26 : decode cX6_issue 26 = .ok (.getfield 7, 3) := by decide +kernel
theorem dX6_issue_29 : decode cX6_issue 29 = .ok (.iload_n 1, 1) := by decide +kernel
theorem dX6_issue_30 : decode cX6_issue 30 = .ok (.iconst 0, 1) := by decide +kernel
theorem dX6_issue_31 : decode cX6_issue 31 = .ok (.aload_n 0, 1) := by decide +kernel
theorem dX6_issue_32 : decode cX6_issue 32 = .ok (.invokevirtual 56, 3) := by decide +kernel
theorem dX6_issue_35 : decode cX6_issue 35 = .ok (.iadd, 1) := by decide +kernel
theorem dX6_issue_36 : decode cX6_issue 36 = .ok (.invokestatic 45, 3) := by decide +kernel
theorem dX6_issue_39 : decode cX6_issue 39 = .ok (.dup2, 1) := by decide +kernel
theorem dX6_issue_40 : decode cX6_issue 40 = .ok (.iaload, 1) := by decide +kernel
theorem dX6_issue_41 : decode cX6_issue 41 = .ok (.iload_n 2, 1) := by decide +kernel
theorem dX6_issue_42 : decode cX6_issue 42 = .ok (.iadd, 1) := by decide +kernel
theorem dX6_issue_43 : decode cX6_issue 43 = .ok (.iastore, 1) := by decide +kernel
theorem dX6_issue_44 : decode cX6_issue 44 = .ok (.aload_n 0, 1) := by decide +kernel
theorem dX6_issue_45 : decode cX6_issue 45 = .ok (.getfield 7, 3) := by decide +kernel
theorem dX6_issue_48 : decode cX6_issue 48 = .ok (.sipush 263, 3) := by decide +kernel
theorem dX6_issue_51 : decode cX6_issue 51 = .ok (.aload_n 0, 1) := by decide +kernel
theorem dX6_issue_52 : decode cX6_issue 52 = .ok (.invokevirtual 56, 3) := by decide +kernel
theorem dX6_issue_55 : decode cX6_issue 55 = .ok (.iadd, 1) := by decide +kernel
theorem dX6_issue_56 : decode cX6_issue 56 = .ok (.dup2, 1) := by decide +kernel
theorem dX6_issue_57 : decode cX6_issue 57 = .ok (.iaload, 1) := by decide +kernel
theorem dX6_issue_58 : decode cX6_issue 58 = .ok (.iload_n 2, 1) := by decide +kernel
theorem dX6_issue_59 : decode cX6_issue 59 = .ok (.iadd, 1) := by decide +kernel
theorem dX6_issue_60 : decode cX6_issue 60 = .ok (.iastore, 1) := by decide +kernel
theorem dX6_issue_61 : decode cX6_issue 61 = .ok (.aload_n 0, 1) := by decide +kernel
theorem dX6_issue_62 : decode cX6_issue 62 = .ok (.getfield 7, 3) := by decide +kernel
theorem dX6_issue_65 : decode cX6_issue 65 = .ok (.iload_n 1, 1) := by decide +kernel
theorem dX6_issue_66 : decode cX6_issue 66 = .ok (.iconst 0, 1) := by decide +kernel
theorem dX6_issue_67 : decode cX6_issue 67 = .ok (.aload_n 0, 1) := by decide +kernel
theorem dX6_issue_68 : decode cX6_issue 68 = .ok (.invokevirtual 56, 3) := by decide +kernel
theorem dX6_issue_71 : decode cX6_issue 71 = .ok (.iadd, 1) := by decide +kernel
theorem dX6_issue_72 : decode cX6_issue 72 = .ok (.invokestatic 45, 3) := by decide +kernel
theorem dX6_issue_75 : decode cX6_issue 75 = .ok (.iaload, 1) := by decide +kernel
theorem dX6_issue_76 : decode cX6_issue 76 = .ok (.ireturn, 1) := by decide +kernel
theorem dX6_issueOffsets_0 : decode cX6_issueOffsets 0 = .ok (.aload_n 0, 1) := by decide +kernel
theorem dX6_issueOffsets_1 : decode cX6_issueOffsets 1 = .ok (.iload_n 1, 1) := by decide +kernel
theorem dX6_issueOffsets_2 : decode cX6_issueOffsets 2 = .ok (.invokevirtual 49, 3) := by decide +kernel
theorem dX6_issueOffsets_5 : decode cX6_issueOffsets 5 = .ok (.ifCond .eq 10, 3) := by decide +kernel
theorem dX6_issueOffsets_8 : decode cX6_issueOffsets 8 = .ok (.iload_n 2, 1) := by decide +kernel
theorem dX6_issueOffsets_9 : decode cX6_issueOffsets 9 = .ok (.invokestatic 60, 3) := by decide +kernel
theorem dX6_issueOffsets_12 : decode cX6_issueOffsets 12 = .ok (.ifCond .ne 5, 3) := by decide +kernel
theorem dX6_issueOffsets_15 : decode cX6_issueOffsets 15 = .ok (.iconst (-1), 1) := by decide +kernel
theorem dX6_issueOffsets_16 : decode cX6_issueOffsets 16 = .ok (.ireturn, 1) := by decide +kernel
theorem dX6_issueOffsets_17 : decode cX6_issueOffsets 17 = .ok (.iload_n 3, 1) := by decide +kernel
theorem dX6_issueOffsets_18 : decode cX6_issueOffsets 18 = .ok (.invokestatic 53, 3) := by decide +kernel
theorem dX6_issueOffsets_21 : decode cX6_issueOffsets 21 = .ok (.ifCond .ne 6, 3) := by decide +kernel
theorem dX6_issueOffsets_24 : decode cX6_issueOffsets 24 = .ok (.bipush (-2), 2) := by decide +kernel
theorem dX6_issueOffsets_26 : decode cX6_issueOffsets 26 = .ok (.ireturn, 1) := by decide +kernel
theorem dX6_issueOffsets_27 : decode cX6_issueOffsets 27 = .ok (.aload_n 0, 1) := by decide +kernel
theorem dX6_issueOffsets_28 : decode cX6_issueOffsets 28 = .ok (.iconst 0, 1) := by decide +kernel
theorem dX6_issueOffsets_29 : decode cX6_issueOffsets 29 = .ok (.invokevirtual 41, 3) := by decide +kernel
theorem dX6_issueOffsets_32 : decode cX6_issueOffsets 32 = .ok (.aload_n 0, 1) := by decide +kernel
theorem dX6_issueOffsets_33 : decode cX6_issueOffsets 33 = .ok (.getfield 7, 3) := by decide +kernel
theorem dX6_issueOffsets_36 : decode cX6_issueOffsets 36 = .ok (.iload_n 1, 1) := by decide +kernel
theorem dX6_issueOffsets_37 : decode cX6_issueOffsets 37 = .ok (.bipush 20, 2) := by decide +kernel
theorem dX6_issueOffsets_39 : decode cX6_issueOffsets 39 = .ok (.iload_n 2, 1) := by decide +kernel
theorem dX6_issueOffsets_40 : decode cX6_issueOffsets 40 = .ok (.iadd, 1) := by decide +kernel
theorem dX6_issueOffsets_41 : decode cX6_issueOffsets 41 = .ok (.invokestatic 45, 3) := by decide +kernel
theorem dX6_issueOffsets_44 : decode cX6_issueOffsets 44 = .ok (.dup2, 1) := by decide +kernel
theorem dX6_issueOffsets_45 : decode cX6_issueOffsets 45 = .ok (.iaload, 1) := by decide +kernel
theorem dX6_issueOffsets_46 : decode cX6_issueOffsets 46 = .ok (.iload_n 3, 1) := by decide +kernel
theorem dX6_issueOffsets_47 : decode cX6_issueOffsets 47 = .ok (.iadd, 1) := by decide +kernel
theorem dX6_issueOffsets_48 : decode cX6_issueOffsets 48 = .ok (.iastore, 1) := by decide +kernel
theorem dX6_issueOffsets_49 : decode cX6_issueOffsets 49 = .ok (.aload_n 0, 1) := by decide +kernel
theorem dX6_issueOffsets_50 : decode cX6_issueOffsets 50 = .ok (.getfield 7, 3) := by decide +kernel
theorem dX6_issueOffsets_53 : decode cX6_issueOffsets 53 = .ok (.sipush 343, 3) := by decide +kernel
theorem dX6_issueOffsets_56 : decode cX6_issueOffsets 56 = .ok (.iload_n 2, 1) := by decide +kernel
theorem dX6_issueOffsets_57 : decode cX6_issueOffsets 57 = .ok (.iadd, 1) := by decide +kernel
theorem dX6_issueOffsets_58 : decode cX6_issueOffsets 58 = .ok (.dup2, 1) := by decide +kernel
theorem dX6_issueOffsets_59 : decode cX6_issueOffsets 59 = .ok (.iaload, 1) := by decide +kernel
theorem dX6_issueOffsets_60 : decode cX6_issueOffsets 60 = .ok (.iload_n 3, 1) := by decide +kernel
theorem dX6_issueOffsets_61 : decode cX6_issueOffsets 61 = .ok (.iadd, 1) := by decide +kernel
theorem dX6_issueOffsets_62 : decode cX6_issueOffsets 62 = .ok (.iastore, 1) := by decide +kernel
theorem dX6_issueOffsets_63 : decode cX6_issueOffsets 63 = .ok (.aload_n 0, 1) := by decide +kernel
theorem dX6_issueOffsets_64 : decode cX6_issueOffsets 64 = .ok (.getfield 7, 3) := by decide +kernel
theorem dX6_issueOffsets_67 : decode cX6_issueOffsets 67 = .ok (.iload_n 1, 1) := by decide +kernel
theorem dX6_issueOffsets_68 : decode cX6_issueOffsets 68 = .ok (.bipush 20, 2) := by decide +kernel
theorem dX6_issueOffsets_70 : decode cX6_issueOffsets 70 = .ok (.iload_n 2, 1) := by decide +kernel
theorem dX6_issueOffsets_71 : decode cX6_issueOffsets 71 = .ok (.iadd, 1) := by decide +kernel
theorem dX6_issueOffsets_72 : decode cX6_issueOffsets 72 = .ok (.invokestatic 45, 3) := by decide +kernel
theorem dX6_issueOffsets_75 : decode cX6_issueOffsets 75 = .ok (.iaload, 1) := by decide +kernel
theorem dX6_issueOffsets_76 : decode cX6_issueOffsets 76 = .ok (.ireturn, 1) := by decide +kernel
theorem dX6_noTransfer_0 : decode cX6_noTransfer 0 = .ok (.aload_n 0, 1) := by decide +kernel
theorem dX6_noTransfer_1 : decode cX6_noTransfer 1 = .ok (.iload_n 1, 1) := by decide +kernel
theorem dX6_noTransfer_2 : decode cX6_noTransfer 2 = .ok (.invokevirtual 49, 3) := by decide +kernel
theorem dX6_noTransfer_5 : decode cX6_noTransfer 5 = .ok (.ifCond .eq 15, 3) := by decide +kernel
theorem dX6_noTransfer_8 : decode cX6_noTransfer 8 = .ok (.aload_n 0, 1) := by decide +kernel
theorem dX6_noTransfer_9 : decode cX6_noTransfer 9 = .ok (.iload_n 2, 1) := by decide +kernel
theorem dX6_noTransfer_10 : decode cX6_noTransfer 10 = .ok (.invokevirtual 49, 3) := by decide +kernel
theorem dX6_noTransfer_13 : decode cX6_noTransfer 13 = .ok (.ifCond .eq 7, 3) := by decide +kernel
theorem dX6_noTransfer_16 : decode cX6_noTransfer 16 = .ok (.iload_n 3, 1) := by decide +kernel
theorem dX6_noTransfer_17 : decode cX6_noTransfer 17 = .ok (.ifCond .ne 5, 3) := by decide +kernel
theorem dX6_noTransfer_20 : decode cX6_noTransfer 20 = .ok (.iconst (-1), 1) := by decide +kernel
theorem dX6_noTransfer_21 : decode cX6_noTransfer 21 = .ok (.ireturn, 1) := by decide +kernel
theorem dX6_noTransfer_22 : decode cX6_noTransfer 22 = .ok (.iload 5, 2) := by decide +kernel
theorem dX6_noTransfer_24 : decode cX6_noTransfer 24 = .ok (.invokestatic 53, 3) := by decide +kernel
theorem dX6_noTransfer_27 : decode cX6_noTransfer 27 = .ok (.ifCond .eq 8, 3) := by decide +kernel
theorem dX6_noTransfer_30 : decode cX6_noTransfer 30 = .ok (.iload_n 1, 1) := by decide +kernel
theorem dX6_noTransfer_31 : decode cX6_noTransfer 31 = .ok (.iload_n 2, 1) := by decide +kernel
theorem dX6_noTransfer_32 : decode cX6_noTransfer 32 = .ok (.if_icmp .ne 6, 3) := by decide +kernel
theorem dX6_noTransfer_35 : decode cX6_noTransfer 35 = .ok (.bipush (-2), 2) := by decide +kernel
theorem dX6_noTransfer_37 : decode cX6_noTransfer 37 = .ok (.ireturn, 1) := by decide +kernel
theorem dX6_noTransfer_38 : decode cX6_noTransfer 38 = .ok (.aload_n 0, 1) := by decide +kernel
theorem dX6_noTransfer_39 : decode cX6_noTransfer 39 = .ok (.getfield 7, 3) := by decide +kernel
theorem dX6_noTransfer_42 : decode cX6_noTransfer 42 = .ok (.iload_n 1, 1) := by decide +kernel
theorem dX6_noTransfer_43 : decode cX6_noTransfer 43 = .ok (.iload 4, 2) := by decide +kernel
theorem dX6_noTransfer_45 : decode cX6_noTransfer 45 = .ok (.invokestatic 45, 3) := by decide +kernel
theorem dX6_noTransfer_48 : decode cX6_noTransfer 48 = .ok (.iaload, 1) := by decide +kernel
theorem dX6_noTransfer_49 : decode cX6_noTransfer 49 = .ok (.iload 5, 2) := by decide +kernel
theorem dX6_noTransfer_51 : decode cX6_noTransfer 51 = .ok (.if_icmp .ge 8, 3) := by decide +kernel
theorem dX6_noTransfer_54 : decode cX6_noTransfer 54 = .ok (.bipush (-4), 2) := by decide +kernel
theorem dX6_noTransfer_56 : decode cX6_noTransfer 56 = .ok (.goto 4, 3) := by decide +kernel
theorem dX6_noTransfer_59 : decode cX6_noTransfer 59 = .ok (.iconst 0, 1) := by decide +kernel
theorem dX6_noTransfer_60 : decode cX6_noTransfer 60 = .ok (.ireturn, 1) := by decide +kernel
theorem dX6_doTransfer_0 : decode cX6_doTransfer 0 = .ok (.aload_n 0, 1) := by decide +kernel
theorem dX6_doTransfer_1 : decode cX6_doTransfer 1 = .ok (.getfield 7, 3) := by decide +kernel
theorem dX6_doTransfer_4 : decode cX6_doTransfer 4 = .ok (.iload_n 1, 1) := by decide +kernel
theorem dX6_doTransfer_5 : decode cX6_doTransfer 5 = .ok (.iload_n 3, 1) := by decide +kernel
theorem dX6_doTransfer_6 : decode cX6_doTransfer 6 = .ok (.invokestatic 45, 3) := by decide +kernel
theorem dX6_doTransfer_9 : decode cX6_doTransfer 9 = .ok (.dup2, 1) := by decide +kernel
theorem dX6_doTransfer_10 : decode cX6_doTransfer 10 = .ok (.iaload, 1) := by decide +kernel
theorem dX6_doTransfer_11 : decode cX6_doTransfer 11 = .ok (.iload 4, 2) := by decide +kernel
theorem dX6_doTransfer_13 : decode cX6_doTransfer 13 = .ok (.isub, 1) := by decide +kernel
theorem dX6_doTransfer_14 : decode cX6_doTransfer 14 = .ok (.iastore, 1) := by decide +kernel
theorem dX6_doTransfer_15 : decode cX6_doTransfer 15 = .ok (.aload_n 0, 1) := by decide +kernel
theorem dX6_doTransfer_16 : decode cX6_doTransfer 16 = .ok (.getfield 7, 3) := by decide +kernel
theorem dX6_doTransfer_19 : decode cX6_doTransfer 19 = .ok (.iload_n 2, 1) := by decide +kernel
theorem dX6_doTransfer_20 : decode cX6_doTransfer 20 = .ok (.iload_n 3, 1) := by decide +kernel
theorem dX6_doTransfer_21 : decode cX6_doTransfer 21 = .ok (.invokestatic 45, 3) := by decide +kernel
theorem dX6_doTransfer_24 : decode cX6_doTransfer 24 = .ok (.dup2, 1) := by decide +kernel
theorem dX6_doTransfer_25 : decode cX6_doTransfer 25 = .ok (.iaload, 1) := by decide +kernel
theorem dX6_doTransfer_26 : decode cX6_doTransfer 26 = .ok (.iload 4, 2) := by decide +kernel
theorem dX6_doTransfer_28 : decode cX6_doTransfer 28 = .ok (.iadd, 1) := by decide +kernel
theorem dX6_doTransfer_29 : decode cX6_doTransfer 29 = .ok (.iastore, 1) := by decide +kernel
theorem dX6_doTransfer_30 : decode cX6_doTransfer 30 = .ok (.aload_n 0, 1) := by decide +kernel
theorem dX6_doTransfer_31 : decode cX6_doTransfer 31 = .ok (.getfield 7, 3) := by decide +kernel
theorem dX6_doTransfer_34 : decode cX6_doTransfer 34 = .ok (.iload_n 1, 1) := by decide +kernel
theorem dX6_doTransfer_35 : decode cX6_doTransfer 35 = .ok (.iload_n 3, 1) := by decide +kernel
theorem dX6_doTransfer_36 : decode cX6_doTransfer 36 = .ok (.invokestatic 45, 3) := by decide +kernel
theorem dX6_doTransfer_39 : decode cX6_doTransfer 39 = .ok (.iaload, 1) := by decide +kernel
theorem dX6_doTransfer_40 : decode cX6_doTransfer 40 = .ok (.ireturn, 1) := by decide +kernel
theorem dX6_transfer_0 : decode cX6_transfer 0 = .ok (.iload_n 3, 1) := by decide +kernel
theorem dX6_transfer_1 : decode cX6_transfer 1 = .ok (.invokestatic 63, 3) := by decide +kernel
theorem dX6_transfer_4 : decode cX6_transfer 4 = .ok (.ifCond .eq 9, 3) := by decide +kernel
theorem dX6_transfer_7 : decode cX6_transfer 7 = .ok (.iconst 0, 1) := by decide +kernel
theorem dX6_transfer_8 : decode cX6_transfer 8 = .ok (.iload_n 3, 1) := by decide +kernel
theorem dX6_transfer_9 : decode cX6_transfer 9 = .ok (.iadd, 1) := by decide +kernel
theorem dX6_transfer_10 : decode cX6_transfer 10 = .ok (.goto 4, 3) := by decide +kernel
theorem dX6_transfer_13 : decode cX6_transfer 13 = .ok (.iconst 0, 1) := by decide +kernel
theorem dX6_transfer_14 : decode cX6_transfer 14 = .ok (.istore 5, 2) := by decide +kernel
theorem dX6_transfer_16 : decode cX6_transfer 16 = .ok (.aload_n 0, 1) := by decide +kernel
theorem dX6_transfer_17 : decode cX6_transfer 17 = .ok (.iload_n 1, 1) := by decide +kernel
theorem dX6_transfer_18 : decode cX6_transfer 18 = .ok (.iload_n 2, 1) := by decide +kernel
theorem dX6_transfer_19 : decode cX6_transfer 19 = .ok (.iload_n 3, 1) := by decide +kernel
theorem dX6_transfer_20 : decode cX6_transfer 20 = .ok (.invokestatic 63, 3) := by decide +kernel
theorem dX6_transfer_23 : decode cX6_transfer 23 = .ok (.iload 5, 2) := by decide +kernel
theorem dX6_transfer_25 : decode cX6_transfer 25 = .ok (.iload 4, 2) := by decide +kernel
theorem dX6_transfer_27 : decode cX6_transfer 27 = .ok (.invokevirtual 66, 3) := by decide +kernel
theorem dX6_transfer_30 : decode cX6_transfer 30 = .ok (.istore 6, 2) := by decide +kernel
theorem dX6_transfer_32 : decode cX6_transfer 32 = .ok (.iload 6, 2) := by decide +kernel
theorem dX6_transfer_34 : decode cX6_transfer 34 = .ok (.ifCond .eq 6, 3) := by decide +kernel
theorem dX6_transfer_37 : decode cX6_transfer 37 = .ok (.iload 6, 2) := by decide +kernel
theorem dX6_transfer_39 : decode cX6_transfer 39 = .ok (.ireturn, 1) := by decide +kernel
theorem dX6_transfer_40 : decode cX6_transfer 40 = .ok (.aload_n 0, 1) := by decide +kernel
theorem dX6_transfer_41 : decode cX6_transfer 41 = .ok (.iconst 0, 1) := by decide +kernel
theorem dX6_transfer_42 : decode cX6_transfer 42 = .ok (.invokevirtual 41, 3) := by decide +kernel
theorem dX6_transfer_45 : decode cX6_transfer 45 = .ok (.aload_n 0, 1) := by decide +kernel
theorem dX6_transfer_46 : decode cX6_transfer 46 = .ok (.iload_n 1, 1) := by decide +kernel
theorem dX6_transfer_47 : decode cX6_transfer 47 = .ok (.iload_n 2, 1) := by decide +kernel
theorem dX6_transfer_48 : decode cX6_transfer 48 = .ok (.iload 5, 2) := by decide +kernel
theorem dX6_transfer_50 : decode cX6_transfer 50 = .ok (.iload 4, 2) := by decide +kernel
theorem dX6_transfer_52 : decode cX6_transfer 52 = .ok (.invokevirtual 70, 3) := by decide +kernel
theorem dX6_transfer_55 : decode cX6_transfer 55 = .ok (.ireturn, 1) := by decide +kernel
theorem dX6_transferOffsets_0 : decode cX6_transferOffsets 0 = .ok (.iload_n 3, 1) := by decide +kernel
theorem dX6_transferOffsets_1 : decode cX6_transferOffsets 1 = .ok (.invokestatic 60, 3) := by decide +kernel
theorem dX6_transferOffsets_4 : decode cX6_transferOffsets 4 = .ok (.ifCond .eq 10, 3) := by decide +kernel
theorem dX6_transferOffsets_7 : decode cX6_transferOffsets 7 = .ok (.bipush 20, 2) := by decide +kernel
theorem dX6_transferOffsets_9 : decode cX6_transferOffsets 9 = .ok (.iload_n 3, 1) := by decide +kernel
theorem dX6_transferOffsets_10 : decode cX6_transferOffsets 10 = .ok (.iadd, 1) := by decide +kernel
theorem dX6_transferOffsets_11 : decode cX6_transferOffsets 11 = .ok (.goto 4, 3) := by decide +kernel
theorem dX6_transferOffsets_14 : decode cX6_transferOffsets 14 = .ok (.iconst 0, 1) := by decide +kernel
theorem dX6_transferOffsets_15 : decode cX6_transferOffsets 15 = .ok (.istore 5, 2) := by decide +kernel
theorem dX6_transferOffsets_17 : decode cX6_transferOffsets 17 = .ok (.aload_n 0, 1) := by decide +kernel
theorem dX6_transferOffsets_18 : decode cX6_transferOffsets 18 = .ok (.iload_n 1, 1) := by decide +kernel
theorem dX6_transferOffsets_19 : decode cX6_transferOffsets 19 = .ok (.iload_n 2, 1) := by decide +kernel
theorem dX6_transferOffsets_20 : decode cX6_transferOffsets 20 = .ok (.iload_n 3, 1) := by decide +kernel
theorem dX6_transferOffsets_21 : decode cX6_transferOffsets 21 = .ok (.invokestatic 60, 3) := by decide +kernel
theorem dX6_transferOffsets_24 : decode cX6_transferOffsets 24 = .ok (.iload 5, 2) := by decide +kernel
theorem dX6_transferOffsets_26 : decode cX6_transferOffsets 26 = .ok (.iload 4, 2) := by decide +kernel
theorem dX6_transferOffsets_28 : decode cX6_transferOffsets 28 = .ok (.invokevirtual 66, 3) := by decide +kernel
theorem dX6_transferOffsets_31 : decode cX6_transferOffsets 31 = .ok (.istore 6, 2) := by decide +kernel
theorem dX6_transferOffsets_33 : decode cX6_transferOffsets 33 = .ok (.iload 6, 2) := by decide +kernel
theorem dX6_transferOffsets_35 : decode cX6_transferOffsets 35 = .ok (.ifCond .eq 6, 3) := by decide +kernel
theorem dX6_transferOffsets_38 : decode cX6_transferOffsets 38 = .ok (.iload 6, 2) := by decide +kernel
theorem dX6_transferOffsets_40 : decode cX6_transferOffsets 40 = .ok (.ireturn, 1) := by decide +kernel
theorem dX6_transferOffsets_41 : decode cX6_transferOffsets 41 = .ok (.aload_n 0, 1) := by decide +kernel
theorem dX6_transferOffsets_42 : decode cX6_transferOffsets 42 = .ok (.iconst 0, 1) := by decide +kernel
theorem dX6_transferOffsets_43 : decode cX6_transferOffsets 43 = .ok (.invokevirtual 41, 3) := by decide +kernel
theorem dX6_transferOffsets_46 : decode cX6_transferOffsets 46 = .ok (.aload_n 0, 1) := by decide +kernel
theorem dX6_transferOffsets_47 : decode cX6_transferOffsets 47 = .ok (.iload_n 1, 1) := by decide +kernel
theorem dX6_transferOffsets_48 : decode cX6_transferOffsets 48 = .ok (.iload_n 2, 1) := by decide +kernel
theorem dX6_transferOffsets_49 : decode cX6_transferOffsets 49 = .ok (.iload 5, 2) := by decide +kernel
theorem dX6_transferOffsets_51 : decode cX6_transferOffsets 51 = .ok (.iload 4, 2) := by decide +kernel
theorem dX6_transferOffsets_53 : decode cX6_transferOffsets 53 = .ok (.invokevirtual 70, 3) := by decide +kernel
theorem dX6_transferOffsets_56 : decode cX6_transferOffsets 56 = .ok (.ireturn, 1) := by decide +kernel
theorem dX6_cancel_0 : decode cX6_cancel 0 = .ok (.aload_n 0, 1) := by decide +kernel
theorem dX6_cancel_1 : decode cX6_cancel 1 = .ok (.iload_n 1, 1) := by decide +kernel
theorem dX6_cancel_2 : decode cX6_cancel 2 = .ok (.invokevirtual 49, 3) := by decide +kernel
theorem dX6_cancel_5 : decode cX6_cancel 5 = .ok (.ifCond .eq 10, 3) := by decide +kernel
theorem dX6_cancel_8 : decode cX6_cancel 8 = .ok (.iload_n 2, 1) := by decide +kernel
theorem dX6_cancel_9 : decode cX6_cancel 9 = .ok (.invokestatic 63, 3) := by decide +kernel
theorem dX6_cancel_12 : decode cX6_cancel 12 = .ok (.ifCond .ne 5, 3) := by decide +kernel
theorem dX6_cancel_15 : decode cX6_cancel 15 = .ok (.iconst (-1), 1) := by decide +kernel
theorem dX6_cancel_16 : decode cX6_cancel 16 = .ok (.ireturn, 1) := by decide +kernel
theorem dX6_cancel_17 : decode cX6_cancel 17 = .ok (.iload_n 3, 1) := by decide +kernel
theorem dX6_cancel_18 : decode cX6_cancel 18 = .ok (.invokestatic 53, 3) := by decide +kernel
theorem dX6_cancel_21 : decode cX6_cancel 21 = .ok (.ifCond .ne 6, 3) := by decide +kernel
theorem dX6_cancel_24 : decode cX6_cancel 24 = .ok (.bipush (-2), 2) := by decide +kernel
theorem dX6_cancel_26 : decode cX6_cancel 26 = .ok (.ireturn, 1) := by decide +kernel
theorem dX6_cancel_27 : decode cX6_cancel 27 = .ok (.aload_n 0, 1) := by decide +kernel
theorem dX6_cancel_28 : decode cX6_cancel 28 = .ok (.getfield 7, 3) := by decide +kernel
theorem dX6_cancel_31 : decode cX6_cancel 31 = .ok (.iload_n 1, 1) := by decide +kernel
theorem dX6_cancel_32 : decode cX6_cancel 32 = .ok (.iconst 0, 1) := by decide +kernel
theorem dX6_cancel_33 : decode cX6_cancel 33 = .ok (.iload_n 2, 1) := by decide +kernel
theorem dX6_cancel_34 : decode cX6_cancel 34 = .ok (.iadd, 1) := by decide +kernel
theorem dX6_cancel_35 : decode cX6_cancel 35 = .ok (.invokestatic 45, 3) := by decide +kernel
theorem dX6_cancel_38 : decode cX6_cancel 38 = .ok (.iaload, 1) := by decide +kernel
theorem dX6_cancel_39 : decode cX6_cancel 39 = .ok (.iload_n 3, 1) := by decide +kernel
theorem dX6_cancel_40 : decode cX6_cancel 40 = .ok (.if_icmp .ge 6, 3) := by decide +kernel
theorem dX6_cancel_43 : decode cX6_cancel 43 = .ok (.bipush (-4), 2) := by decide +kernel
theorem dX6_cancel_45 : decode cX6_cancel 45 = .ok (.ireturn, 1) := by decide +kernel
theorem dX6_cancel_46 : decode cX6_cancel 46 = .ok (.aload_n 0, 1) := by decide +kernel
theorem dX6_cancel_47 : decode cX6_cancel 47 = .ok (.iconst 0, 1) := by decide +kernel
theorem dX6_cancel_48 : decode cX6_cancel 48 = .ok (.invokevirtual 41, 3) := by decide +kernel
theorem dX6_cancel_51 : decode cX6_cancel 51 = .ok (.aload_n 0, 1) := by decide +kernel
theorem dX6_cancel_52 : decode cX6_cancel 52 = .ok (.getfield 7, 3) := by decide +kernel
theorem dX6_cancel_55 : decode cX6_cancel 55 = .ok (.iload_n 1, 1) := by decide +kernel
theorem dX6_cancel_56 : decode cX6_cancel 56 = .ok (.iconst 0, 1) := by decide +kernel
theorem dX6_cancel_57 : decode cX6_cancel 57 = .ok (.iload_n 2, 1) := by decide +kernel
theorem dX6_cancel_58 : decode cX6_cancel 58 = .ok (.iadd, 1) := by decide +kernel
theorem dX6_cancel_59 : decode cX6_cancel 59 = .ok (.invokestatic 45, 3) := by decide +kernel
theorem dX6_cancel_62 : decode cX6_cancel 62 = .ok (.dup2, 1) := by decide +kernel
theorem dX6_cancel_63 : decode cX6_cancel 63 = .ok (.iaload, 1) := by decide +kernel
theorem dX6_cancel_64 : decode cX6_cancel 64 = .ok (.iload_n 3, 1) := by decide +kernel
theorem dX6_cancel_65 : decode cX6_cancel 65 = .ok (.isub, 1) := by decide +kernel
theorem dX6_cancel_66 : decode cX6_cancel 66 = .ok (.iastore, 1) := by decide +kernel
theorem dX6_cancel_67 : decode cX6_cancel 67 = .ok (.aload_n 0, 1) := by decide +kernel
theorem dX6_cancel_68 : decode cX6_cancel 68 = .ok (.getfield 7, 3) := by decide +kernel
theorem dX6_cancel_71 : decode cX6_cancel 71 = .ok (.sipush 303, 3) := by decide +kernel
theorem dX6_cancel_74 : decode cX6_cancel 74 = .ok (.iload_n 2, 1) := by decide +kernel
theorem dX6_cancel_75 : decode cX6_cancel 75 = .ok (.iadd, 1) := by decide +kernel
theorem dX6_cancel_76 : decode cX6_cancel 76 = .ok (.dup2, 1) := by decide +kernel
theorem dX6_cancel_77 : decode cX6_cancel 77 = .ok (.iaload, 1) := by decide +kernel
theorem dX6_cancel_78 : decode cX6_cancel 78 = .ok (.iload_n 3, 1) := by decide +kernel
theorem dX6_cancel_79 : decode cX6_cancel 79 = .ok (.iadd, 1) := by decide +kernel
theorem dX6_cancel_80 : decode cX6_cancel 80 = .ok (.iastore, 1) := by decide +kernel
theorem dX6_cancel_81 : decode cX6_cancel 81 = .ok (.aload_n 0, 1) := by decide +kernel
theorem dX6_cancel_82 : decode cX6_cancel 82 = .ok (.getfield 7, 3) := by decide +kernel
theorem dX6_cancel_85 : decode cX6_cancel 85 = .ok (.iload_n 1, 1) := by decide +kernel
theorem dX6_cancel_86 : decode cX6_cancel 86 = .ok (.iconst 0, 1) := by decide +kernel
theorem dX6_cancel_87 : decode cX6_cancel 87 = .ok (.iload_n 2, 1) := by decide +kernel
theorem dX6_cancel_88 : decode cX6_cancel 88 = .ok (.iadd, 1) := by decide +kernel
theorem dX6_cancel_89 : decode cX6_cancel 89 = .ok (.invokestatic 45, 3) := by decide +kernel
theorem dX6_cancel_92 : decode cX6_cancel 92 = .ok (.iaload, 1) := by decide +kernel
theorem dX6_cancel_93 : decode cX6_cancel 93 = .ok (.ireturn, 1) := by decide +kernel
theorem dX6_report_0 : decode cX6_report 0 = .ok (.aload_n 0, 1) := by decide +kernel
theorem dX6_report_1 : decode cX6_report 1 = .ok (.iload_n 1, 1) := by decide +kernel
theorem dX6_report_2 : decode cX6_report 2 = .ok (.invokevirtual 49, 3) := by decide +kernel
theorem dX6_report_5 : decode cX6_report 5 = .ok (.ifCond .ne 5, 3) := by decide +kernel
theorem dX6_report_8 : decode cX6_report 8 = .ok (.iconst (-1), 1) := by decide +kernel
theorem dX6_report_9 : decode cX6_report 9 = .ok (.ireturn, 1) := by decide +kernel
theorem dX6_report_10 : decode cX6_report 10 = .ok (.iload_n 2, 1) := by decide +kernel
theorem dX6_report_11 : decode cX6_report 11 = .ok (.invokestatic 53, 3) := by decide +kernel
theorem dX6_report_14 : decode cX6_report 14 = .ok (.ifCond .ne 6, 3) := by decide +kernel
theorem dX6_report_17 : decode cX6_report 17 = .ok (.bipush (-2), 2) := by decide +kernel
theorem dX6_report_19 : decode cX6_report 19 = .ok (.ireturn, 1) := by decide +kernel
theorem dX6_report_20 : decode cX6_report 20 = .ok (.aload_n 0, 1) := by decide +kernel
theorem dX6_report_21 : decode cX6_report 21 = .ok (.getfield 7, 3) := by decide +kernel
theorem dX6_report_24 : decode cX6_report 24 = .ok (.iload_n 1, 1) := by decide +kernel
theorem dX6_report_25 : decode cX6_report 25 = .ok (.bipush 26, 2) := by decide +kernel
theorem dX6_report_27 : decode cX6_report 27 = .ok (.invokestatic 45, 3) := by decide +kernel
theorem dX6_report_30 : decode cX6_report 30 = .ok (.iaload, 1) := by decide +kernel
theorem dX6_report_31 : decode cX6_report 31 = .ok (.aload_n 0, 1) := by decide +kernel
theorem dX6_report_32 : decode cX6_report 32 = .ok (.getfield 7, 3) := by decide +kernel
theorem dX6_report_35 : decode cX6_report 35 = .ok (.iload_n 1, 1) := by decide +kernel
theorem dX6_report_36 : decode cX6_report 36 = .ok (.bipush 27, 2) := by decide +kernel
theorem dX6_report_38 : decode cX6_report 38 = .ok (.invokestatic 45, 3) := by decide +kernel
theorem dX6_report_41 : decode cX6_report 41 = .ok (.iaload, 1) := by decide +kernel
theorem dX6_report_42 : decode cX6_report 42 = .ok (.iadd, 1) := by decide +kernel
theorem dX6_report_43 : decode cX6_report 43 = .ok (.iload_n 2, 1) := by decide +kernel
theorem dX6_report_44 : decode cX6_report 44 = .ok (.iadd, 1) := by decide +kernel
theorem dX6_report_45 : decode cX6_report 45 = .ok (.sipush 9999, 3) := by decide +kernel
theorem dX6_report_48 : decode cX6_report 48 = .ok (.if_icmp .le 6, 3) := by decide +kernel
theorem dX6_report_51 : decode cX6_report 51 = .ok (.bipush (-3), 2) := by decide +kernel
theorem dX6_report_53 : decode cX6_report 53 = .ok (.ireturn, 1) := by decide +kernel
theorem dX6_report_54 : decode cX6_report 54 = .ok (.aload_n 0, 1) := by decide +kernel
theorem dX6_report_55 : decode cX6_report 55 = .ok (.iconst 0, 1) := by decide +kernel
theorem dX6_report_56 : decode cX6_report 56 = .ok (.invokevirtual 41, 3) := by decide +kernel
theorem dX6_report_59 : decode cX6_report 59 = .ok (.aload_n 0, 1) := by decide +kernel
theorem dX6_report_60 : decode cX6_report 60 = .ok (.getfield 7, 3) := by decide +kernel
theorem dX6_report_63 : decode cX6_report 63 = .ok (.iload_n 1, 1) := by decide +kernel
theorem dX6_report_64 : decode cX6_report 64 = .ok (.bipush 26, 2) := by decide +kernel
theorem dX6_report_66 : decode cX6_report 66 = .ok (.invokestatic 45, 3) := by decide +kernel
theorem dX6_report_69 : decode cX6_report 69 = .ok (.dup2, 1) := by decide +kernel
theorem dX6_report_70 : decode cX6_report 70 = .ok (.iaload, 1) := by decide +kernel
theorem dX6_report_71 : decode cX6_report 71 = .ok (.iload_n 2, 1) := by decide +kernel
theorem dX6_report_72 : decode cX6_report 72 = .ok (.iadd, 1) := by decide +kernel
theorem dX6_report_73 : decode cX6_report 73 = .ok (.iastore, 1) := by decide +kernel
theorem dX6_report_74 : decode cX6_report 74 = .ok (.aload_n 0, 1) := by decide +kernel
theorem dX6_report_75 : decode cX6_report 75 = .ok (.getfield 7, 3) := by decide +kernel
theorem dX6_report_78 : decode cX6_report 78 = .ok (.iload_n 1, 1) := by decide +kernel
theorem dX6_report_79 : decode cX6_report 79 = .ok (.bipush 26, 2) := by decide +kernel
theorem dX6_report_81 : decode cX6_report 81 = .ok (.invokestatic 45, 3) := by decide +kernel
theorem dX6_report_84 : decode cX6_report 84 = .ok (.iaload, 1) := by decide +kernel
theorem dX6_report_85 : decode cX6_report 85 = .ok (.ireturn, 1) := by decide +kernel
theorem dX6_verify_0 : decode cX6_verify 0 = .ok (.aload_n 0, 1) := by decide +kernel
theorem dX6_verify_1 : decode cX6_verify 1 = .ok (.iload_n 1, 1) := by decide +kernel
theorem dX6_verify_2 : decode cX6_verify 2 = .ok (.invokevirtual 49, 3) := by decide +kernel
theorem dX6_verify_5 : decode cX6_verify 5 = .ok (.ifCond .ne 5, 3) := by decide +kernel
theorem dX6_verify_8 : decode cX6_verify 8 = .ok (.iconst (-1), 1) := by decide +kernel
theorem dX6_verify_9 : decode cX6_verify 9 = .ok (.ireturn, 1) := by decide +kernel
theorem dX6_verify_10 : decode cX6_verify 10 = .ok (.aload_n 0, 1) := by decide +kernel
theorem dX6_verify_11 : decode cX6_verify 11 = .ok (.getfield 7, 3) := by decide +kernel
theorem dX6_verify_14 : decode cX6_verify 14 = .ok (.iload_n 1, 1) := by decide +kernel
theorem dX6_verify_15 : decode cX6_verify 15 = .ok (.bipush 26, 2) := by decide +kernel
theorem dX6_verify_17 : decode cX6_verify 17 = .ok (.invokestatic 45, 3) := by decide +kernel
theorem dX6_verify_20 : decode cX6_verify 20 = .ok (.iaload, 1) := by decide +kernel
theorem dX6_verify_21 : decode cX6_verify 21 = .ok (.ifCond .ne 6, 3) := by decide +kernel
theorem dX6_verify_24 : decode cX6_verify 24 = .ok (.bipush (-5), 2) := by decide +kernel
theorem dX6_verify_26 : decode cX6_verify 26 = .ok (.ireturn, 1) := by decide +kernel
theorem dX6_verify_27 : decode cX6_verify 27 = .ok (.aload_n 0, 1) := by decide +kernel
theorem dX6_verify_28 : decode cX6_verify 28 = .ok (.iconst 0, 1) := by decide +kernel
theorem dX6_verify_29 : decode cX6_verify 29 = .ok (.invokevirtual 41, 3) := by decide +kernel
theorem dX6_verify_32 : decode cX6_verify 32 = .ok (.aload_n 0, 1) := by decide +kernel
theorem dX6_verify_33 : decode cX6_verify 33 = .ok (.getfield 7, 3) := by decide +kernel
theorem dX6_verify_36 : decode cX6_verify 36 = .ok (.iload_n 1, 1) := by decide +kernel
theorem dX6_verify_37 : decode cX6_verify 37 = .ok (.bipush 27, 2) := by decide +kernel
theorem dX6_verify_39 : decode cX6_verify 39 = .ok (.invokestatic 45, 3) := by decide +kernel
theorem dX6_verify_42 : decode cX6_verify 42 = .ok (.dup2, 1) := by decide +kernel
theorem dX6_verify_43 : decode cX6_verify 43 = .ok (.iaload, 1) := by decide +kernel
theorem dX6_verify_44 : decode cX6_verify 44 = .ok (.aload_n 0, 1) := by decide +kernel
theorem dX6_verify_45 : decode cX6_verify 45 = .ok (.getfield 7, 3) := by decide +kernel
theorem dX6_verify_48 : decode cX6_verify 48 = .ok (.iload_n 1, 1) := by decide +kernel
theorem dX6_verify_49 : decode cX6_verify 49 = .ok (.bipush 26, 2) := by decide +kernel
theorem dX6_verify_51 : decode cX6_verify 51 = .ok (.invokestatic 45, 3) := by decide +kernel
theorem dX6_verify_54 : decode cX6_verify 54 = .ok (.iaload, 1) := by decide +kernel
theorem dX6_verify_55 : decode cX6_verify 55 = .ok (.iadd, 1) := by decide +kernel
theorem dX6_verify_56 : decode cX6_verify 56 = .ok (.iastore, 1) := by decide +kernel
theorem dX6_verify_57 : decode cX6_verify 57 = .ok (.aload_n 0, 1) := by decide +kernel
theorem dX6_verify_58 : decode cX6_verify 58 = .ok (.getfield 7, 3) := by decide +kernel
theorem dX6_verify_61 : decode cX6_verify 61 = .ok (.iload_n 1, 1) := by decide +kernel
theorem dX6_verify_62 : decode cX6_verify 62 = .ok (.bipush 26, 2) := by decide +kernel
theorem dX6_verify_64 : decode cX6_verify 64 = .ok (.invokestatic 45, 3) := by decide +kernel
theorem dX6_verify_67 : decode cX6_verify 67 = .ok (.iconst 0, 1) := by decide +kernel
theorem dX6_verify_68 : decode cX6_verify 68 = .ok (.iastore, 1) := by decide +kernel
theorem dX6_verify_69 : decode cX6_verify 69 = .ok (.aload_n 0, 1) := by decide +kernel
theorem dX6_verify_70 : decode cX6_verify 70 = .ok (.getfield 7, 3) := by decide +kernel
theorem dX6_verify_73 : decode cX6_verify 73 = .ok (.iload_n 1, 1) := by decide +kernel
theorem dX6_verify_74 : decode cX6_verify 74 = .ok (.bipush 27, 2) := by decide +kernel
theorem dX6_verify_76 : decode cX6_verify 76 = .ok (.invokestatic 45, 3) := by decide +kernel
theorem dX6_verify_79 : decode cX6_verify 79 = .ok (.iaload, 1) := by decide +kernel
theorem dX6_verify_80 : decode cX6_verify 80 = .ok (.ireturn, 1) := by decide +kernel
theorem dX6_mayUse_0 : decode cX6_mayUse 0 = .ok (.aload_n 0, 1) := by decide +kernel
theorem dX6_mayUse_1 : decode cX6_mayUse 1 = .ok (.getfield 7, 3) := by decide +kernel
theorem dX6_mayUse_4 : decode cX6_mayUse 4 = .ok (.iload_n 1, 1) := by decide +kernel
theorem dX6_mayUse_5 : decode cX6_mayUse 5 = .ok (.bipush 28, 2) := by decide +kernel
theorem dX6_mayUse_7 : decode cX6_mayUse 7 = .ok (.invokestatic 45, 3) := by decide +kernel
theorem dX6_mayUse_10 : decode cX6_mayUse 10 = .ok (.iaload, 1) := by decide +kernel
theorem dX6_mayUse_11 : decode cX6_mayUse 11 = .ok (.aload_n 0, 1) := by decide +kernel
theorem dX6_mayUse_12 : decode cX6_mayUse 12 = .ok (.getfield 7, 3) := by decide +kernel
theorem dX6_mayUse_15 : decode cX6_mayUse 15 = .ok (.iconst 2, 1) := by decide +kernel
theorem dX6_mayUse_16 : decode cX6_mayUse 16 = .ok (.iload_n 2, 1) := by decide +kernel
theorem dX6_mayUse_17 : decode cX6_mayUse 17 = .ok (.iadd, 1) := by decide +kernel
theorem dX6_mayUse_18 : decode cX6_mayUse 18 = .ok (.iaload, 1) := by decide +kernel
theorem dX6_mayUse_19 : decode cX6_mayUse 19 = .ok (.imul, 1) := by decide +kernel
theorem dX6_mayUse_20 : decode cX6_mayUse 20 = .ok (.bipush 100, 2) := by decide +kernel
theorem dX6_mayUse_22 : decode cX6_mayUse 22 = .ok (.idiv, 1) := by decide +kernel
theorem dX6_mayUse_23 : decode cX6_mayUse 23 = .ok (.aload_n 0, 1) := by decide +kernel
theorem dX6_mayUse_24 : decode cX6_mayUse 24 = .ok (.getfield 7, 3) := by decide +kernel
theorem dX6_mayUse_27 : decode cX6_mayUse 27 = .ok (.iload_n 1, 1) := by decide +kernel
theorem dX6_mayUse_28 : decode cX6_mayUse 28 = .ok (.bipush 23, 2) := by decide +kernel
theorem dX6_mayUse_30 : decode cX6_mayUse 30 = .ok (.iload_n 2, 1) := by decide +kernel
theorem dX6_mayUse_31 : decode cX6_mayUse 31 = .ok (.iadd, 1) := by decide +kernel
theorem dX6_mayUse_32 : decode cX6_mayUse 32 = .ok (.invokestatic 45, 3) := by decide +kernel
theorem dX6_mayUse_35 : decode cX6_mayUse 35 = .ok (.iaload, 1) := by decide +kernel
theorem dX6_mayUse_36 : decode cX6_mayUse 36 = .ok (.isub, 1) := by decide +kernel
theorem dX6_mayUse_37 : decode cX6_mayUse 37 = .ok (.istore_n 3, 1) := by decide +kernel
theorem dX6_mayUse_38 : decode cX6_mayUse 38 = .ok (.iload_n 3, 1) := by decide +kernel
theorem dX6_mayUse_39 : decode cX6_mayUse 39 = .ok (.ifCond .ge 7, 3) := by decide +kernel
theorem dX6_mayUse_42 : decode cX6_mayUse 42 = .ok (.iconst 0, 1) := by decide +kernel
theorem dX6_mayUse_43 : decode cX6_mayUse 43 = .ok (.goto 4, 3) := by decide +kernel
theorem dX6_mayUse_46 : decode cX6_mayUse 46 = .ok (.iload_n 3, 1) := by decide +kernel
theorem dX6_mayUse_47 : decode cX6_mayUse 47 = .ok (.ireturn, 1) := by decide +kernel
theorem dX6_lesser_0 : decode cX6_lesser 0 = .ok (.iload_n 0, 1) := by decide +kernel
theorem dX6_lesser_1 : decode cX6_lesser 1 = .ok (.iload_n 1, 1) := by decide +kernel
theorem dX6_lesser_2 : decode cX6_lesser 2 = .ok (.if_icmp .ge 7, 3) := by decide +kernel
theorem dX6_lesser_5 : decode cX6_lesser 5 = .ok (.iload_n 0, 1) := by decide +kernel
theorem dX6_lesser_6 : decode cX6_lesser 6 = .ok (.goto 4, 3) := by decide +kernel
theorem dX6_lesser_9 : decode cX6_lesser 9 = .ok (.iload_n 1, 1) := by decide +kernel
theorem dX6_lesser_10 : decode cX6_lesser 10 = .ok (.ireturn, 1) := by decide +kernel
theorem dX6_takeVintage_0 : decode cX6_takeVintage 0 = .ok (.aload_n 0, 1) := by decide +kernel
theorem dX6_takeVintage_1 : decode cX6_takeVintage 1 = .ok (.getfield 16, 3) := by decide +kernel
theorem dX6_takeVintage_4 : decode cX6_takeVintage 4 = .ok (.iload_n 2, 1) := by decide +kernel
theorem dX6_takeVintage_5 : decode cX6_takeVintage 5 = .ok (.aload_n 0, 1) := by decide +kernel
theorem dX6_takeVintage_6 : decode cX6_takeVintage 6 = .ok (.getfield 74, 3) := by decide +kernel
theorem dX6_takeVintage_9 : decode cX6_takeVintage 9 = .ok (.aload_n 0, 1) := by decide +kernel
theorem dX6_takeVintage_10 : decode cX6_takeVintage 10 = .ok (.getfield 7, 3) := by decide +kernel
theorem dX6_takeVintage_13 : decode cX6_takeVintage 13 = .ok (.iload_n 1, 1) := by decide +kernel
theorem dX6_takeVintage_14 : decode cX6_takeVintage 14 = .ok (.iconst 0, 1) := by decide +kernel
theorem dX6_takeVintage_15 : decode cX6_takeVintage 15 = .ok (.iload_n 2, 1) := by decide +kernel
theorem dX6_takeVintage_16 : decode cX6_takeVintage 16 = .ok (.iadd, 1) := by decide +kernel
theorem dX6_takeVintage_17 : decode cX6_takeVintage 17 = .ok (.invokestatic 45, 3) := by decide +kernel
theorem dX6_takeVintage_20 : decode cX6_takeVintage 20 = .ok (.iaload, 1) := by decide +kernel
theorem dX6_takeVintage_21 : decode cX6_takeVintage 21 = .ok (.invokestatic 77, 3) := by decide +kernel
theorem dX6_takeVintage_24 : decode cX6_takeVintage 24 = .ok (.iastore, 1) := by decide +kernel
theorem dX6_takeVintage_25 : decode cX6_takeVintage 25 = .ok (.aload_n 0, 1) := by decide +kernel
theorem dX6_takeVintage_26 : decode cX6_takeVintage 26 = .ok (.aload_n 0, 1) := by decide +kernel
theorem dX6_takeVintage_27 : decode cX6_takeVintage 27 = .ok (.getfield 80, 3) := by decide +kernel
theorem dX6_takeVintage_30 : decode cX6_takeVintage 30 = .ok (.bipush (-5), 2) := by decide +kernel
theorem dX6_takeVintage_32 : decode cX6_takeVintage 32 = .ok (.if_icmp .ne 16, 3) := by decide +kernel
theorem dX6_takeVintage_35 : decode cX6_takeVintage 35 = .ok (.aload_n 0, 1) := by decide +kernel
theorem dX6_takeVintage_36 : decode cX6_takeVintage 36 = .ok (.getfield 16, 3) := by decide +kernel
theorem dX6_takeVintage_39 : decode cX6_takeVintage 39 = .ok (.iload_n 2, 1) := by decide +kernel
theorem dX6_takeVintage_40 : decode cX6_takeVintage 40 = .ok (.iaload, 1) := by decide +kernel
theorem dX6_takeVintage_41 : decode cX6_takeVintage 41 = .ok (.ifCond .le 7, 3) := by decide +kernel
theorem dX6_takeVintage_44 : decode cX6_takeVintage 44 = .ok (.iload_n 2, 1) := by decide +kernel
theorem dX6_takeVintage_45 : decode cX6_takeVintage 45 = .ok (.goto 7, 3) := by decide +kernel
theorem dX6_takeVintage_48 : decode cX6_takeVintage 48 = .ok (.aload_n 0, 1) := by decide +kernel
theorem dX6_takeVintage_49 : decode cX6_takeVintage 49 = .ok (.getfield 80, 3) := by decide +kernel
theorem dX6_takeVintage_52 : decode cX6_takeVintage 52 = .ok (.putfield 80, 3) := by decide +kernel
theorem dX6_takeVintage_55 : decode cX6_takeVintage 55 = .ok (.aload_n 0, 1) := by decide +kernel
theorem dX6_takeVintage_56 : decode cX6_takeVintage 56 = .ok (.dup, 1) := by decide +kernel
theorem dX6_takeVintage_57 : decode cX6_takeVintage 57 = .ok (.getfield 74, 3) := by decide +kernel
theorem dX6_takeVintage_60 : decode cX6_takeVintage 60 = .ok (.aload_n 0, 1) := by decide +kernel
theorem dX6_takeVintage_61 : decode cX6_takeVintage 61 = .ok (.getfield 16, 3) := by decide +kernel
theorem dX6_takeVintage_64 : decode cX6_takeVintage 64 = .ok (.iload_n 2, 1) := by decide +kernel
theorem dX6_takeVintage_65 : decode cX6_takeVintage 65 = .ok (.iaload, 1) := by decide +kernel
theorem dX6_takeVintage_66 : decode cX6_takeVintage 66 = .ok (.isub, 1) := by decide +kernel
theorem dX6_takeVintage_67 : decode cX6_takeVintage 67 = .ok (.putfield 74, 3) := by decide +kernel
theorem dX6_takeVintage_70 : decode cX6_takeVintage 70 = .ok (.return_, 1) := by decide +kernel
theorem dX6_lay_0 : decode cX6_lay 0 = .ok (.aload_n 0, 1) := by decide +kernel
theorem dX6_lay_1 : decode cX6_lay 1 = .ok (.iload_n 2, 1) := by decide +kernel
theorem dX6_lay_2 : decode cX6_lay 2 = .ok (.putfield 74, 3) := by decide +kernel
theorem dX6_lay_5 : decode cX6_lay 5 = .ok (.aload_n 0, 1) := by decide +kernel
theorem dX6_lay_6 : decode cX6_lay 6 = .ok (.bipush (-5), 2) := by decide +kernel
theorem dX6_lay_8 : decode cX6_lay 8 = .ok (.putfield 80, 3) := by decide +kernel
theorem dX6_lay_11 : decode cX6_lay 11 = .ok (.iconst 2, 1) := by decide +kernel
theorem dX6_lay_12 : decode cX6_lay 12 = .ok (.istore 4, 2) := by decide +kernel
theorem dX6_lay_14 : decode cX6_lay 14 = .ok (.iload 4, 2) := by decide +kernel
theorem dX6_lay_16 : decode cX6_lay 16 = .ok (.ifCond .lt 72, 3) := by decide +kernel
theorem dX6_lay_19 : decode cX6_lay 19 = .ok (.aload_n 0, 1) := by decide +kernel
theorem dX6_lay_20 : decode cX6_lay 20 = .ok (.getfield 19, 3) := by decide +kernel
theorem dX6_lay_23 : decode cX6_lay 23 = .ok (.iload 4, 2) := by decide +kernel
theorem dX6_lay_25 : decode cX6_lay 25 = .ok (.iload_n 3, 1) := by decide +kernel
theorem dX6_lay_26 : decode cX6_lay 26 = .ok (.iconst 2, 1) := by decide +kernel
theorem dX6_lay_27 : decode cX6_lay 27 = .ok (.if_icmp .ne 37, 3) := by decide +kernel
theorem dX6_lay_30 : decode cX6_lay 30 = .ok (.aload_n 0, 1) := by decide +kernel
theorem dX6_lay_31 : decode cX6_lay 31 = .ok (.getfield 74, 3) := by decide +kernel
theorem dX6_lay_34 : decode cX6_lay 34 = .ok (.aload_n 0, 1) := by decide +kernel
theorem dX6_lay_35 : decode cX6_lay 35 = .ok (.getfield 7, 3) := by decide +kernel
theorem dX6_lay_38 : decode cX6_lay 38 = .ok (.iload_n 1, 1) := by decide +kernel
theorem dX6_lay_39 : decode cX6_lay 39 = .ok (.bipush 20, 2) := by decide +kernel
theorem dX6_lay_41 : decode cX6_lay 41 = .ok (.iload 4, 2) := by decide +kernel
theorem dX6_lay_43 : decode cX6_lay 43 = .ok (.iadd, 1) := by decide +kernel
theorem dX6_lay_44 : decode cX6_lay 44 = .ok (.invokestatic 45, 3) := by decide +kernel
theorem dX6_lay_47 : decode cX6_lay 47 = .ok (.iaload, 1) := by decide +kernel
theorem dX6_lay_48 : decode cX6_lay 48 = .ok (.aload_n 0, 1) := by decide +kernel
theorem dX6_lay_49 : decode cX6_lay 49 = .ok (.iload_n 1, 1) := by decide +kernel
theorem dX6_lay_50 : decode cX6_lay 50 = .ok (.iload 4, 2) := by decide +kernel
theorem dX6_lay_52 : decode cX6_lay 52 = .ok (.invokevirtual 83, 3) := by decide +kernel
theorem dX6_lay_55 : decode cX6_lay 55 = .ok (.invokestatic 77, 3) := by decide +kernel
theorem dX6_lay_58 : decode cX6_lay 58 = .ok (.invokestatic 77, 3) := by decide +kernel
theorem dX6_lay_61 : decode cX6_lay 61 = .ok (.goto 4, 3) := by decide +kernel
theorem dX6_lay_64 : decode cX6_lay 64 = .ok (.iconst 0, 1) := by decide +kernel
theorem dX6_lay_65 : decode cX6_lay 65 = .ok (.iastore, 1) := by decide +kernel
theorem dX6_lay_66 : decode cX6_lay 66 = .ok (.aload_n 0, 1) := by decide +kernel
theorem dX6_lay_67 : decode cX6_lay 67 = .ok (.dup, 1) := by decide +kernel
theorem dX6_lay_68 : decode cX6_lay 68 = .ok (.getfield 74, 3) := by decide +kernel
theorem dX6_lay_71 : decode cX6_lay 71 = .ok (.aload_n 0, 1) := by decide +kernel
theorem dX6_lay_72 : decode cX6_lay 72 = .ok (.getfield 19, 3) := by decide +kernel
theorem dX6_lay_75 : decode cX6_lay 75 = .ok (.iload 4, 2) := by decide +kernel
theorem dX6_lay_77 : decode cX6_lay 77 = .ok (.iaload, 1) := by decide +kernel
theorem dX6_lay_78 : decode cX6_lay 78 = .ok (.isub, 1) := by decide +kernel
theorem dX6_lay_79 : decode cX6_lay 79 = .ok (.putfield 74, 3) := by decide +kernel
theorem dX6_lay_82 : decode cX6_lay 82 = .ok (.iinc 4 (-1), 3) := by decide +kernel
theorem dX6_lay_85 : decode cX6_lay 85 = .ok (.goto (-71), 3) := by decide +kernel
theorem dX6_lay_88 : decode cX6_lay 88 = .ok (.iconst 0, 1) := by decide +kernel
theorem dX6_lay_89 : decode cX6_lay 89 = .ok (.istore 4, 2) := by decide +kernel
theorem dX6_lay_91 : decode cX6_lay 91 = .ok (.iload 4, 2) := by decide +kernel
theorem dX6_lay_93 : decode cX6_lay 93 = .ok (.bipush 20, 2) := by decide +kernel
theorem dX6_lay_95 : decode cX6_lay 95 = .ok (.if_icmp .ge 29, 3) := by decide +kernel
theorem dX6_lay_98 : decode cX6_lay 98 = .ok (.aload_n 0, 1) := by decide +kernel
theorem dX6_lay_99 : decode cX6_lay 99 = .ok (.iload_n 1, 1) := by decide +kernel
theorem dX6_lay_100 : decode cX6_lay 100 = .ok (.iload_n 3, 1) := by decide +kernel
theorem dX6_lay_101 : decode cX6_lay 101 = .ok (.iconst 1, 1) := by decide +kernel
theorem dX6_lay_102 : decode cX6_lay 102 = .ok (.if_icmp .ne 11, 3) := by decide +kernel
theorem dX6_lay_105 : decode cX6_lay 105 = .ok (.bipush 19, 2) := by decide +kernel
theorem dX6_lay_107 : decode cX6_lay 107 = .ok (.iload 4, 2) := by decide +kernel
theorem dX6_lay_109 : decode cX6_lay 109 = .ok (.isub, 1) := by decide +kernel
theorem dX6_lay_110 : decode cX6_lay 110 = .ok (.goto 5, 3) := by decide +kernel
theorem dX6_lay_113 : decode cX6_lay 113 = .ok (.iload 4, 2) := by decide +kernel
theorem dX6_lay_115 : decode cX6_lay 115 = .ok (.invokevirtual 86, 3) := by decide +kernel
theorem dX6_lay_118 : decode cX6_lay 118 = .ok (.iinc 4 1, 3) := by decide +kernel
theorem dX6_lay_121 : decode cX6_lay 121 = .ok (.goto (-30), 3) := by decide +kernel
theorem dX6_lay_124 : decode cX6_lay 124 = .ok (.return_, 1) := by decide +kernel
theorem dX6_surrender_0 : decode cX6_surrender 0 = .ok (.aload_n 0, 1) := by decide +kernel
theorem dX6_surrender_1 : decode cX6_surrender 1 = .ok (.iload_n 1, 1) := by decide +kernel
theorem dX6_surrender_2 : decode cX6_surrender 2 = .ok (.invokevirtual 49, 3) := by decide +kernel
theorem dX6_surrender_5 : decode cX6_surrender 5 = .ok (.ifCond .ne 5, 3) := by decide +kernel
theorem dX6_surrender_8 : decode cX6_surrender 8 = .ok (.iconst (-1), 1) := by decide +kernel
theorem dX6_surrender_9 : decode cX6_surrender 9 = .ok (.ireturn, 1) := by decide +kernel
theorem dX6_surrender_10 : decode cX6_surrender 10 = .ok (.iload_n 2, 1) := by decide +kernel
theorem dX6_surrender_11 : decode cX6_surrender 11 = .ok (.invokestatic 53, 3) := by decide +kernel
theorem dX6_surrender_14 : decode cX6_surrender 14 = .ok (.ifCond .eq 12, 3) := by decide +kernel
theorem dX6_surrender_17 : decode cX6_surrender 17 = .ok (.iload_n 3, 1) := by decide +kernel
theorem dX6_surrender_18 : decode cX6_surrender 18 = .ok (.iconst 0, 1) := by decide +kernel
theorem dX6_surrender_19 : decode cX6_surrender 19 = .ok (.iconst 2, 1) := by decide +kernel
theorem dX6_surrender_20 : decode cX6_surrender 20 = .ok (.invokestatic 25, 3) := by decide +kernel
theorem dX6_surrender_23 : decode cX6_surrender 23 = .ok (.ifCond .ne 6, 3) := by decide +kernel
theorem dX6_surrender_26 : decode cX6_surrender 26 = .ok (.bipush (-2), 2) := by decide +kernel
theorem dX6_surrender_28 : decode cX6_surrender 28 = .ok (.ireturn, 1) := by decide +kernel
theorem dX6_surrender_29 : decode cX6_surrender 29 = .ok (.aload_n 0, 1) := by decide +kernel
theorem dX6_surrender_30 : decode cX6_surrender 30 = .ok (.iload_n 1, 1) := by decide +kernel
theorem dX6_surrender_31 : decode cX6_surrender 31 = .ok (.iload_n 2, 1) := by decide +kernel
theorem dX6_surrender_32 : decode cX6_surrender 32 = .ok (.iload_n 3, 1) := by decide +kernel
theorem dX6_surrender_33 : decode cX6_surrender 33 = .ok (.invokevirtual 89, 3) := by decide +kernel
theorem dX6_surrender_36 : decode cX6_surrender 36 = .ok (.aload_n 0, 1) := by decide +kernel
theorem dX6_surrender_37 : decode cX6_surrender 37 = .ok (.getfield 7, 3) := by decide +kernel
theorem dX6_surrender_40 : decode cX6_surrender 40 = .ok (.iload_n 1, 1) := by decide +kernel
theorem dX6_surrender_41 : decode cX6_surrender 41 = .ok (.bipush 29, 2) := by decide +kernel
theorem dX6_surrender_43 : decode cX6_surrender 43 = .ok (.invokestatic 45, 3) := by decide +kernel
theorem dX6_surrender_46 : decode cX6_surrender 46 = .ok (.iaload, 1) := by decide +kernel
theorem dX6_surrender_47 : decode cX6_surrender 47 = .ok (.iload_n 2, 1) := by decide +kernel
theorem dX6_surrender_48 : decode cX6_surrender 48 = .ok (.if_icmp .lt 10, 3) := by decide +kernel
theorem dX6_surrender_51 : decode cX6_surrender 51 = .ok (.aload_n 0, 1) := by decide +kernel
theorem dX6_surrender_52 : decode cX6_surrender 52 = .ok (.getfield 74, 3) := by decide +kernel
theorem dX6_surrender_55 : decode cX6_surrender 55 = .ok (.ifCond .le 6, 3) := by decide +kernel
theorem dX6_surrender_58 : decode cX6_surrender 58 = .ok (.bipush (-4), 2) := by decide +kernel
theorem dX6_surrender_60 : decode cX6_surrender 60 = .ok (.ireturn, 1) := by decide +kernel
theorem dX6_surrender_61 : decode cX6_surrender 61 = .ok (.aload_n 0, 1) := by decide +kernel
theorem dX6_surrender_62 : decode cX6_surrender 62 = .ok (.iconst 0, 1) := by decide +kernel
theorem dX6_surrender_63 : decode cX6_surrender 63 = .ok (.invokevirtual 41, 3) := by decide +kernel
theorem dX6_surrender_66 : decode cX6_surrender 66 = .ok (.iconst 0, 1) := by decide +kernel
theorem dX6_surrender_67 : decode cX6_surrender 67 = .ok (.istore 4, 2) := by decide +kernel
theorem dX6_surrender_69 : decode cX6_surrender 69 = .ok (.iload 4, 2) := by decide +kernel
theorem dX6_surrender_71 : decode cX6_surrender 71 = .ok (.bipush 20, 2) := by decide +kernel
theorem dX6_surrender_73 : decode cX6_surrender 73 = .ok (.if_icmp .ge 53, 3) := by decide +kernel
theorem dX6_surrender_76 : decode cX6_surrender 76 = .ok (.aload_n 0, 1) := by decide +kernel
theorem dX6_surrender_77 : decode cX6_surrender 77 = .ok (.getfield 7, 3) := by decide +kernel
theorem dX6_surrender_80 : decode cX6_surrender 80 = .ok (.iload_n 1, 1) := by decide +kernel
theorem dX6_surrender_81 : decode cX6_surrender 81 = .ok (.iconst 0, 1) := by decide +kernel
theorem dX6_surrender_82 : decode cX6_surrender 82 = .ok (.iload 4, 2) := by decide +kernel
theorem dX6_surrender_84 : decode cX6_surrender 84 = .ok (.iadd, 1) := by decide +kernel
theorem dX6_surrender_85 : decode cX6_surrender 85 = .ok (.invokestatic 45, 3) := by decide +kernel
theorem dX6_surrender_88 : decode cX6_surrender 88 = .ok (.dup2, 1) := by decide +kernel
theorem dX6_surrender_89 : decode cX6_surrender 89 = .ok (.iaload, 1) := by decide +kernel
theorem dX6_surrender_90 : decode cX6_surrender 90 = .ok (.aload_n 0, 1) := by decide +kernel
theorem dX6_surrender_91 : decode cX6_surrender 91 = .ok (.getfield 16, 3) := by decide +kernel
theorem dX6_surrender_94 : decode cX6_surrender 94 = .ok (.iload 4, 2) := by decide +kernel
theorem dX6_surrender_96 : decode cX6_surrender 96 = .ok (.iaload, 1) := by decide +kernel
theorem dX6_surrender_97 : decode cX6_surrender 97 = .ok (.isub, 1) := by decide +kernel
theorem dX6_surrender_98 : decode cX6_surrender 98 = .ok (.iastore, 1) := by decide +kernel
theorem dX6_surrender_99 : decode cX6_surrender 99 = .ok (.aload_n 0, 1) := by decide +kernel
theorem dX6_surrender_100 : decode cX6_surrender 100 = .ok (.getfield 7, 3) := by decide +kernel
theorem dX6_surrender_103 : decode cX6_surrender 103 = .ok (.sipush 283, 3) := by decide +kernel
theorem dX6_surrender_106 : decode cX6_surrender 106 = .ok (.iload 4, 2) := by decide +kernel
theorem dX6_surrender_108 : decode cX6_surrender 108 = .ok (.iadd, 1) := by decide +kernel
theorem dX6_surrender_109 : decode cX6_surrender 109 = .ok (.dup2, 1) := by decide +kernel
theorem dX6_surrender_110 : decode cX6_surrender 110 = .ok (.iaload, 1) := by decide +kernel
theorem dX6_surrender_111 : decode cX6_surrender 111 = .ok (.aload_n 0, 1) := by decide +kernel
theorem dX6_surrender_112 : decode cX6_surrender 112 = .ok (.getfield 16, 3) := by decide +kernel
theorem dX6_surrender_115 : decode cX6_surrender 115 = .ok (.iload 4, 2) := by decide +kernel
theorem dX6_surrender_117 : decode cX6_surrender 117 = .ok (.iaload, 1) := by decide +kernel
theorem dX6_surrender_118 : decode cX6_surrender 118 = .ok (.iadd, 1) := by decide +kernel
theorem dX6_surrender_119 : decode cX6_surrender 119 = .ok (.iastore, 1) := by decide +kernel
theorem dX6_surrender_120 : decode cX6_surrender 120 = .ok (.iinc 4 1, 3) := by decide +kernel
theorem dX6_surrender_123 : decode cX6_surrender 123 = .ok (.goto (-54), 3) := by decide +kernel
theorem dX6_surrender_126 : decode cX6_surrender 126 = .ok (.iconst 0, 1) := by decide +kernel
theorem dX6_surrender_127 : decode cX6_surrender 127 = .ok (.istore 4, 2) := by decide +kernel
theorem dX6_surrender_129 : decode cX6_surrender 129 = .ok (.iload 4, 2) := by decide +kernel
theorem dX6_surrender_131 : decode cX6_surrender 131 = .ok (.iconst 3, 1) := by decide +kernel
theorem dX6_surrender_132 : decode cX6_surrender 132 = .ok (.if_icmp .ge 78, 3) := by decide +kernel
theorem dX6_surrender_135 : decode cX6_surrender 135 = .ok (.aload_n 0, 1) := by decide +kernel
theorem dX6_surrender_136 : decode cX6_surrender 136 = .ok (.getfield 7, 3) := by decide +kernel
theorem dX6_surrender_139 : decode cX6_surrender 139 = .ok (.iload_n 1, 1) := by decide +kernel
theorem dX6_surrender_140 : decode cX6_surrender 140 = .ok (.bipush 20, 2) := by decide +kernel
theorem dX6_surrender_142 : decode cX6_surrender 142 = .ok (.iload 4, 2) := by decide +kernel
theorem dX6_surrender_144 : decode cX6_surrender 144 = .ok (.iadd, 1) := by decide +kernel
theorem dX6_surrender_145 : decode cX6_surrender 145 = .ok (.invokestatic 45, 3) := by decide +kernel
theorem dX6_surrender_148 : decode cX6_surrender 148 = .ok (.dup2, 1) := by decide +kernel
theorem dX6_surrender_149 : decode cX6_surrender 149 = .ok (.iaload, 1) := by decide +kernel
theorem dX6_surrender_150 : decode cX6_surrender 150 = .ok (.aload_n 0, 1) := by decide +kernel
theorem dX6_surrender_151 : decode cX6_surrender 151 = .ok (.getfield 19, 3) := by decide +kernel
theorem dX6_surrender_154 : decode cX6_surrender 154 = .ok (.iload 4, 2) := by decide +kernel
theorem dX6_surrender_156 : decode cX6_surrender 156 = .ok (.iaload, 1) := by decide +kernel
theorem dX6_surrender_157 : decode cX6_surrender 157 = .ok (.isub, 1) := by decide +kernel
theorem dX6_surrender_158 : decode cX6_surrender 158 = .ok (.iastore, 1) := by decide +kernel
theorem dX6_surrender_159 : decode cX6_surrender 159 = .ok (.aload_n 0, 1) := by decide +kernel
theorem dX6_surrender_160 : decode cX6_surrender 160 = .ok (.getfield 7, 3) := by decide +kernel
theorem dX6_surrender_163 : decode cX6_surrender 163 = .ok (.iload_n 1, 1) := by decide +kernel
theorem dX6_surrender_164 : decode cX6_surrender 164 = .ok (.bipush 23, 2) := by decide +kernel
theorem dX6_surrender_166 : decode cX6_surrender 166 = .ok (.iload 4, 2) := by decide +kernel
theorem dX6_surrender_168 : decode cX6_surrender 168 = .ok (.iadd, 1) := by decide +kernel
theorem dX6_surrender_169 : decode cX6_surrender 169 = .ok (.invokestatic 45, 3) := by decide +kernel
theorem dX6_surrender_172 : decode cX6_surrender 172 = .ok (.dup2, 1) := by decide +kernel
theorem dX6_surrender_173 : decode cX6_surrender 173 = .ok (.iaload, 1) := by decide +kernel
theorem dX6_surrender_174 : decode cX6_surrender 174 = .ok (.aload_n 0, 1) := by decide +kernel
theorem dX6_surrender_175 : decode cX6_surrender 175 = .ok (.getfield 19, 3) := by decide +kernel
theorem dX6_surrender_178 : decode cX6_surrender 178 = .ok (.iload 4, 2) := by decide +kernel
theorem dX6_surrender_180 : decode cX6_surrender 180 = .ok (.iaload, 1) := by decide +kernel
theorem dX6_surrender_181 : decode cX6_surrender 181 = .ok (.iadd, 1) := by decide +kernel
theorem dX6_surrender_182 : decode cX6_surrender 182 = .ok (.iastore, 1) := by decide +kernel
theorem dX6_surrender_183 : decode cX6_surrender 183 = .ok (.aload_n 0, 1) := by decide +kernel
theorem dX6_surrender_184 : decode cX6_surrender 184 = .ok (.getfield 7, 3) := by decide +kernel
theorem dX6_surrender_187 : decode cX6_surrender 187 = .ok (.sipush 346, 3) := by decide +kernel
theorem dX6_surrender_190 : decode cX6_surrender 190 = .ok (.iload 4, 2) := by decide +kernel
theorem dX6_surrender_192 : decode cX6_surrender 192 = .ok (.iadd, 1) := by decide +kernel
theorem dX6_surrender_193 : decode cX6_surrender 193 = .ok (.dup2, 1) := by decide +kernel
theorem dX6_surrender_194 : decode cX6_surrender 194 = .ok (.iaload, 1) := by decide +kernel
theorem dX6_surrender_195 : decode cX6_surrender 195 = .ok (.aload_n 0, 1) := by decide +kernel
theorem dX6_surrender_196 : decode cX6_surrender 196 = .ok (.getfield 19, 3) := by decide +kernel
theorem dX6_surrender_199 : decode cX6_surrender 199 = .ok (.iload 4, 2) := by decide +kernel
theorem dX6_surrender_201 : decode cX6_surrender 201 = .ok (.iaload, 1) := by decide +kernel
theorem dX6_surrender_202 : decode cX6_surrender 202 = .ok (.iadd, 1) := by decide +kernel
theorem dX6_surrender_203 : decode cX6_surrender 203 = .ok (.iastore, 1) := by decide +kernel
theorem dX6_surrender_204 : decode cX6_surrender 204 = .ok (.iinc 4 1, 3) := by decide +kernel
theorem dX6_surrender_207 : decode cX6_surrender 207 = .ok (.goto (-78), 3) := by decide +kernel
theorem dX6_surrender_210 : decode cX6_surrender 210 = .ok (.aload_n 0, 1) := by decide +kernel
theorem dX6_surrender_211 : decode cX6_surrender 211 = .ok (.getfield 7, 3) := by decide +kernel
theorem dX6_surrender_214 : decode cX6_surrender 214 = .ok (.iload_n 1, 1) := by decide +kernel
theorem dX6_surrender_215 : decode cX6_surrender 215 = .ok (.bipush 29, 2) := by decide +kernel
theorem dX6_surrender_217 : decode cX6_surrender 217 = .ok (.invokestatic 45, 3) := by decide +kernel
theorem dX6_surrender_220 : decode cX6_surrender 220 = .ok (.dup2, 1) := by decide +kernel
theorem dX6_surrender_221 : decode cX6_surrender 221 = .ok (.iaload, 1) := by decide +kernel
theorem dX6_surrender_222 : decode cX6_surrender 222 = .ok (.iload_n 2, 1) := by decide +kernel
theorem dX6_surrender_223 : decode cX6_surrender 223 = .ok (.isub, 1) := by decide +kernel
theorem dX6_surrender_224 : decode cX6_surrender 224 = .ok (.iastore, 1) := by decide +kernel
theorem dX6_surrender_225 : decode cX6_surrender 225 = .ok (.aload_n 0, 1) := by decide +kernel
theorem dX6_surrender_226 : decode cX6_surrender 226 = .ok (.getfield 7, 3) := by decide +kernel
theorem dX6_surrender_229 : decode cX6_surrender 229 = .ok (.iload_n 1, 1) := by decide +kernel
theorem dX6_surrender_230 : decode cX6_surrender 230 = .ok (.bipush 30, 2) := by decide +kernel
theorem dX6_surrender_232 : decode cX6_surrender 232 = .ok (.invokestatic 45, 3) := by decide +kernel
theorem dX6_surrender_235 : decode cX6_surrender 235 = .ok (.dup2, 1) := by decide +kernel
theorem dX6_surrender_236 : decode cX6_surrender 236 = .ok (.iaload, 1) := by decide +kernel
theorem dX6_surrender_237 : decode cX6_surrender 237 = .ok (.iload_n 2, 1) := by decide +kernel
theorem dX6_surrender_238 : decode cX6_surrender 238 = .ok (.iadd, 1) := by decide +kernel
theorem dX6_surrender_239 : decode cX6_surrender 239 = .ok (.iastore, 1) := by decide +kernel
theorem dX6_surrender_240 : decode cX6_surrender 240 = .ok (.aload_n 0, 1) := by decide +kernel
theorem dX6_surrender_241 : decode cX6_surrender 241 = .ok (.getfield 7, 3) := by decide +kernel
theorem dX6_surrender_244 : decode cX6_surrender 244 = .ok (.iload_n 1, 1) := by decide +kernel
theorem dX6_surrender_245 : decode cX6_surrender 245 = .ok (.bipush 29, 2) := by decide +kernel
theorem dX6_surrender_247 : decode cX6_surrender 247 = .ok (.invokestatic 45, 3) := by decide +kernel
theorem dX6_surrender_250 : decode cX6_surrender 250 = .ok (.iaload, 1) := by decide +kernel
theorem dX6_surrender_251 : decode cX6_surrender 251 = .ok (.ireturn, 1) := by decide +kernel
theorem dX6_beginYear_0 : decode cX6_beginYear 0 = .ok (.iconst 0, 1) := by decide +kernel
theorem dX6_beginYear_1 : decode cX6_beginYear 1 = .ok (.istore_n 1, 1) := by decide +kernel
theorem dX6_beginYear_2 : decode cX6_beginYear 2 = .ok (.iload_n 1, 1) := by decide +kernel
theorem dX6_beginYear_3 : decode cX6_beginYear 3 = .ok (.aload_n 0, 1) := by decide +kernel
theorem dX6_beginYear_4 : decode cX6_beginYear 4 = .ok (.getfield 7, 3) := by decide +kernel
theorem dX6_beginYear_7 : decode cX6_beginYear 7 = .ok (.iconst 1, 1) := by decide +kernel
theorem dX6_beginYear_8 : decode cX6_beginYear 8 = .ok (.iaload, 1) := by decide +kernel
theorem dX6_beginYear_9 : decode cX6_beginYear 9 = .ok (.if_icmp .ge 129, 3) := by decide +kernel
theorem dX6_beginYear_12 : decode cX6_beginYear 12 = .ok (.aload_n 0, 1) := by decide +kernel
theorem dX6_beginYear_13 : decode cX6_beginYear 13 = .ok (.getfield 7, 3) := by decide +kernel
theorem dX6_beginYear_16 : decode cX6_beginYear 16 = .ok (.iload_n 1, 1) := by decide +kernel
theorem dX6_beginYear_17 : decode cX6_beginYear 17 = .ok (.bipush 26, 2) := by decide +kernel
theorem dX6_beginYear_19 : decode cX6_beginYear 19 = .ok (.invokestatic 45, 3) := by decide +kernel
theorem dX6_beginYear_22 : decode cX6_beginYear 22 = .ok (.iaload, 1) := by decide +kernel
theorem dX6_beginYear_23 : decode cX6_beginYear 23 = .ok (.istore_n 2, 1) := by decide +kernel
theorem dX6_beginYear_24 : decode cX6_beginYear 24 = .ok (.aload_n 0, 1) := by decide +kernel
theorem dX6_beginYear_25 : decode cX6_beginYear 25 = .ok (.getfield 7, 3) := by decide +kernel
theorem dX6_beginYear_28 : decode cX6_beginYear 28 = .ok (.iload_n 1, 1) := by decide +kernel
theorem dX6_beginYear_29 : decode cX6_beginYear 29 = .ok (.bipush 28, 2) := by decide +kernel
theorem dX6_beginYear_31 : decode cX6_beginYear 31 = .ok (.invokestatic 45, 3) := by decide +kernel
theorem dX6_beginYear_34 : decode cX6_beginYear 34 = .ok (.aload_n 0, 1) := by decide +kernel
theorem dX6_beginYear_35 : decode cX6_beginYear 35 = .ok (.getfield 7, 3) := by decide +kernel
theorem dX6_beginYear_38 : decode cX6_beginYear 38 = .ok (.iload_n 1, 1) := by decide +kernel
theorem dX6_beginYear_39 : decode cX6_beginYear 39 = .ok (.bipush 27, 2) := by decide +kernel
theorem dX6_beginYear_41 : decode cX6_beginYear 41 = .ok (.invokestatic 45, 3) := by decide +kernel
theorem dX6_beginYear_44 : decode cX6_beginYear 44 = .ok (.iaload, 1) := by decide +kernel
theorem dX6_beginYear_45 : decode cX6_beginYear 45 = .ok (.iload_n 2, 1) := by decide +kernel
theorem dX6_beginYear_46 : decode cX6_beginYear 46 = .ok (.iadd, 1) := by decide +kernel
theorem dX6_beginYear_47 : decode cX6_beginYear 47 = .ok (.iload_n 2, 1) := by decide +kernel
theorem dX6_beginYear_48 : decode cX6_beginYear 48 = .ok (.bipush 9, 2) := by decide +kernel
theorem dX6_beginYear_50 : decode cX6_beginYear 50 = .ok (.iadd, 1) := by decide +kernel
theorem dX6_beginYear_51 : decode cX6_beginYear 51 = .ok (.bipush 10, 2) := by decide +kernel
theorem dX6_beginYear_53 : decode cX6_beginYear 53 = .ok (.idiv, 1) := by decide +kernel
theorem dX6_beginYear_54 : decode cX6_beginYear 54 = .ok (.iadd, 1) := by decide +kernel
theorem dX6_beginYear_55 : decode cX6_beginYear 55 = .ok (.iastore, 1) := by decide +kernel
theorem dX6_beginYear_56 : decode cX6_beginYear 56 = .ok (.aload_n 0, 1) := by decide +kernel
theorem dX6_beginYear_57 : decode cX6_beginYear 57 = .ok (.getfield 7, 3) := by decide +kernel
theorem dX6_beginYear_60 : decode cX6_beginYear 60 = .ok (.iload_n 1, 1) := by decide +kernel
theorem dX6_beginYear_61 : decode cX6_beginYear 61 = .ok (.bipush 29, 2) := by decide +kernel
theorem dX6_beginYear_63 : decode cX6_beginYear 63 = .ok (.invokestatic 45, 3) := by decide +kernel
theorem dX6_beginYear_66 : decode cX6_beginYear 66 = .ok (.dup2, 1) := by decide +kernel
theorem dX6_beginYear_67 : decode cX6_beginYear 67 = .ok (.iaload, 1) := by decide +kernel
theorem dX6_beginYear_68 : decode cX6_beginYear 68 = .ok (.aload_n 0, 1) := by decide +kernel
theorem dX6_beginYear_69 : decode cX6_beginYear 69 = .ok (.getfield 7, 3) := by decide +kernel
theorem dX6_beginYear_72 : decode cX6_beginYear 72 = .ok (.iload_n 1, 1) := by decide +kernel
theorem dX6_beginYear_73 : decode cX6_beginYear 73 = .ok (.bipush 28, 2) := by decide +kernel
theorem dX6_beginYear_75 : decode cX6_beginYear 75 = .ok (.invokestatic 45, 3) := by decide +kernel
theorem dX6_beginYear_78 : decode cX6_beginYear 78 = .ok (.iaload, 1) := by decide +kernel
theorem dX6_beginYear_79 : decode cX6_beginYear 79 = .ok (.iadd, 1) := by decide +kernel
theorem dX6_beginYear_80 : decode cX6_beginYear 80 = .ok (.iastore, 1) := by decide +kernel
theorem dX6_beginYear_81 : decode cX6_beginYear 81 = .ok (.aload_n 0, 1) := by decide +kernel
theorem dX6_beginYear_82 : decode cX6_beginYear 82 = .ok (.getfield 7, 3) := by decide +kernel
theorem dX6_beginYear_85 : decode cX6_beginYear 85 = .ok (.iload_n 1, 1) := by decide +kernel
theorem dX6_beginYear_86 : decode cX6_beginYear 86 = .ok (.bipush 26, 2) := by decide +kernel
theorem dX6_beginYear_88 : decode cX6_beginYear 88 = .ok (.invokestatic 45, 3) := by decide +kernel
theorem dX6_beginYear_91 : decode cX6_beginYear 91 = .ok (.iconst 0, 1) := by decide +kernel
theorem dX6_beginYear_92 : decode cX6_beginYear 92 = .ok (.iastore, 1) := by decide +kernel
theorem dX6_beginYear_93 : decode cX6_beginYear 93 = .ok (.aload_n 0, 1) := by decide +kernel
theorem dX6_beginYear_94 : decode cX6_beginYear 94 = .ok (.getfield 7, 3) := by decide +kernel
theorem dX6_beginYear_97 : decode cX6_beginYear 97 = .ok (.iload_n 1, 1) := by decide +kernel
theorem dX6_beginYear_98 : decode cX6_beginYear 98 = .ok (.bipush 27, 2) := by decide +kernel
theorem dX6_beginYear_100 : decode cX6_beginYear 100 = .ok (.invokestatic 45, 3) := by decide +kernel
theorem dX6_beginYear_103 : decode cX6_beginYear 103 = .ok (.iconst 0, 1) := by decide +kernel
theorem dX6_beginYear_104 : decode cX6_beginYear 104 = .ok (.iastore, 1) := by decide +kernel
theorem dX6_beginYear_105 : decode cX6_beginYear 105 = .ok (.iconst 0, 1) := by decide +kernel
theorem dX6_beginYear_106 : decode cX6_beginYear 106 = .ok (.istore_n 3, 1) := by decide +kernel
theorem dX6_beginYear_107 : decode cX6_beginYear 107 = .ok (.iload_n 3, 1) := by decide +kernel
theorem dX6_beginYear_108 : decode cX6_beginYear 108 = .ok (.iconst 3, 1) := by decide +kernel
theorem dX6_beginYear_109 : decode cX6_beginYear 109 = .ok (.if_icmp .ge 23, 3) := by decide +kernel
theorem dX6_beginYear_112 : decode cX6_beginYear 112 = .ok (.aload_n 0, 1) := by decide +kernel
theorem dX6_beginYear_113 : decode cX6_beginYear 113 = .ok (.getfield 7, 3) := by decide +kernel
theorem dX6_beginYear_116 : decode cX6_beginYear 116 = .ok (.iload_n 1, 1) := by decide +kernel
theorem dX6_beginYear_117 : decode cX6_beginYear 117 = .ok (.bipush 23, 2) := by decide +kernel
theorem dX6_beginYear_119 : decode cX6_beginYear 119 = .ok (.iload_n 3, 1) := by decide +kernel
theorem dX6_beginYear_120 : decode cX6_beginYear 120 = .ok (.iadd, 1) := by decide +kernel
theorem dX6_beginYear_121 : decode cX6_beginYear 121 = .ok (.invokestatic 45, 3) := by decide +kernel
theorem dX6_beginYear_124 : decode cX6_beginYear 124 = .ok (.iconst 0, 1) := by decide +kernel
theorem dX6_beginYear_125 : decode cX6_beginYear 125 = .ok (.iastore, 1) := by decide +kernel
theorem dX6_beginYear_126 : decode cX6_beginYear 126 = .ok (.iinc 3 1, 3) := by decide +kernel
theorem dX6_beginYear_129 : decode cX6_beginYear 129 = .ok (.goto (-22), 3) := by decide +kernel
theorem dX6_beginYear_132 : decode cX6_beginYear 132 = .ok (.iinc 1 1, 3) := by decide +kernel
theorem dX6_beginYear_135 : decode cX6_beginYear 135 = .ok (.goto (-133), 3) := by decide +kernel
theorem dX6_beginYear_138 : decode cX6_beginYear 138 = .ok (.iconst 0, 1) := by decide +kernel
theorem dX6_beginYear_139 : decode cX6_beginYear 139 = .ok (.istore_n 1, 1) := by decide +kernel
theorem dX6_beginYear_140 : decode cX6_beginYear 140 = .ok (.iload_n 1, 1) := by decide +kernel
theorem dX6_beginYear_141 : decode cX6_beginYear 141 = .ok (.aload_n 0, 1) := by decide +kernel
theorem dX6_beginYear_142 : decode cX6_beginYear 142 = .ok (.getfield 7, 3) := by decide +kernel
theorem dX6_beginYear_145 : decode cX6_beginYear 145 = .ok (.iconst 5, 1) := by decide +kernel
theorem dX6_beginYear_146 : decode cX6_beginYear 146 = .ok (.iaload, 1) := by decide +kernel
theorem dX6_beginYear_147 : decode cX6_beginYear 147 = .ok (.iadd, 1) := by decide +kernel
theorem dX6_beginYear_148 : decode cX6_beginYear 148 = .ok (.aload_n 0, 1) := by decide +kernel
theorem dX6_beginYear_149 : decode cX6_beginYear 149 = .ok (.invokevirtual 56, 3) := by decide +kernel
theorem dX6_beginYear_152 : decode cX6_beginYear 152 = .ok (.if_icmp .ge 71, 3) := by decide +kernel
theorem dX6_beginYear_155 : decode cX6_beginYear 155 = .ok (.iload_n 1, 1) := by decide +kernel
theorem dX6_beginYear_156 : decode cX6_beginYear 156 = .ok (.bipush 20, 2) := by decide +kernel
theorem dX6_beginYear_158 : decode cX6_beginYear 158 = .ok (.if_icmp .ge 65, 3) := by decide +kernel
theorem dX6_beginYear_161 : decode cX6_beginYear 161 = .ok (.iconst 0, 1) := by decide +kernel
theorem dX6_beginYear_162 : decode cX6_beginYear 162 = .ok (.istore_n 2, 1) := by decide +kernel
theorem dX6_beginYear_163 : decode cX6_beginYear 163 = .ok (.iload_n 2, 1) := by decide +kernel
theorem dX6_beginYear_164 : decode cX6_beginYear 164 = .ok (.aload_n 0, 1) := by decide +kernel
theorem dX6_beginYear_165 : decode cX6_beginYear 165 = .ok (.getfield 7, 3) := by decide +kernel
theorem dX6_beginYear_168 : decode cX6_beginYear 168 = .ok (.iconst 1, 1) := by decide +kernel
theorem dX6_beginYear_169 : decode cX6_beginYear 169 = .ok (.iaload, 1) := by decide +kernel
theorem dX6_beginYear_170 : decode cX6_beginYear 170 = .ok (.if_icmp .ge 47, 3) := by decide +kernel
theorem dX6_beginYear_173 : decode cX6_beginYear 173 = .ok (.aload_n 0, 1) := by decide +kernel
theorem dX6_beginYear_174 : decode cX6_beginYear 174 = .ok (.getfield 7, 3) := by decide +kernel
theorem dX6_beginYear_177 : decode cX6_beginYear 177 = .ok (.sipush 323, 3) := by decide +kernel
theorem dX6_beginYear_180 : decode cX6_beginYear 180 = .ok (.iload_n 1, 1) := by decide +kernel
theorem dX6_beginYear_181 : decode cX6_beginYear 181 = .ok (.iadd, 1) := by decide +kernel
theorem dX6_beginYear_182 : decode cX6_beginYear 182 = .ok (.dup2, 1) := by decide +kernel
theorem dX6_beginYear_183 : decode cX6_beginYear 183 = .ok (.iaload, 1) := by decide +kernel
theorem dX6_beginYear_184 : decode cX6_beginYear 184 = .ok (.aload_n 0, 1) := by decide +kernel
theorem dX6_beginYear_185 : decode cX6_beginYear 185 = .ok (.getfield 7, 3) := by decide +kernel
theorem dX6_beginYear_188 : decode cX6_beginYear 188 = .ok (.iload_n 2, 1) := by decide +kernel
theorem dX6_beginYear_189 : decode cX6_beginYear 189 = .ok (.iconst 0, 1) := by decide +kernel
theorem dX6_beginYear_190 : decode cX6_beginYear 190 = .ok (.iload_n 1, 1) := by decide +kernel
theorem dX6_beginYear_191 : decode cX6_beginYear 191 = .ok (.iadd, 1) := by decide +kernel
theorem dX6_beginYear_192 : decode cX6_beginYear 192 = .ok (.invokestatic 45, 3) := by decide +kernel
theorem dX6_beginYear_195 : decode cX6_beginYear 195 = .ok (.iaload, 1) := by decide +kernel
theorem dX6_beginYear_196 : decode cX6_beginYear 196 = .ok (.iadd, 1) := by decide +kernel
theorem dX6_beginYear_197 : decode cX6_beginYear 197 = .ok (.iastore, 1) := by decide +kernel
theorem dX6_beginYear_198 : decode cX6_beginYear 198 = .ok (.aload_n 0, 1) := by decide +kernel
theorem dX6_beginYear_199 : decode cX6_beginYear 199 = .ok (.getfield 7, 3) := by decide +kernel
theorem dX6_beginYear_202 : decode cX6_beginYear 202 = .ok (.iload_n 2, 1) := by decide +kernel
theorem dX6_beginYear_203 : decode cX6_beginYear 203 = .ok (.iconst 0, 1) := by decide +kernel
theorem dX6_beginYear_204 : decode cX6_beginYear 204 = .ok (.iload_n 1, 1) := by decide +kernel
theorem dX6_beginYear_205 : decode cX6_beginYear 205 = .ok (.iadd, 1) := by decide +kernel
theorem dX6_beginYear_206 : decode cX6_beginYear 206 = .ok (.invokestatic 45, 3) := by decide +kernel
theorem dX6_beginYear_209 : decode cX6_beginYear 209 = .ok (.iconst 0, 1) := by decide +kernel
theorem dX6_beginYear_210 : decode cX6_beginYear 210 = .ok (.iastore, 1) := by decide +kernel
theorem dX6_beginYear_211 : decode cX6_beginYear 211 = .ok (.iinc 2 1, 3) := by decide +kernel
theorem dX6_beginYear_214 : decode cX6_beginYear 214 = .ok (.goto (-51), 3) := by decide +kernel
theorem dX6_beginYear_217 : decode cX6_beginYear 217 = .ok (.iinc 1 1, 3) := by decide +kernel
theorem dX6_beginYear_220 : decode cX6_beginYear 220 = .ok (.goto (-80), 3) := by decide +kernel
theorem dX6_beginYear_223 : decode cX6_beginYear 223 = .ok (.return_, 1) := by decide +kernel
theorem dX6_fineAll_0 : decode cX6_fineAll 0 = .ok (.iconst 0, 1) := by decide +kernel
theorem dX6_fineAll_1 : decode cX6_fineAll 1 = .ok (.istore_n 1, 1) := by decide +kernel
theorem dX6_fineAll_2 : decode cX6_fineAll 2 = .ok (.iconst 0, 1) := by decide +kernel
theorem dX6_fineAll_3 : decode cX6_fineAll 3 = .ok (.istore_n 2, 1) := by decide +kernel
theorem dX6_fineAll_4 : decode cX6_fineAll 4 = .ok (.iload_n 2, 1) := by decide +kernel
theorem dX6_fineAll_5 : decode cX6_fineAll 5 = .ok (.aload_n 0, 1) := by decide +kernel
theorem dX6_fineAll_6 : decode cX6_fineAll 6 = .ok (.getfield 7, 3) := by decide +kernel
theorem dX6_fineAll_9 : decode cX6_fineAll 9 = .ok (.iconst 1, 1) := by decide +kernel
theorem dX6_fineAll_10 : decode cX6_fineAll 10 = .ok (.iaload, 1) := by decide +kernel
theorem dX6_fineAll_11 : decode cX6_fineAll 11 = .ok (.if_icmp .ge 48, 3) := by decide +kernel
theorem dX6_fineAll_14 : decode cX6_fineAll 14 = .ok (.aload_n 0, 1) := by decide +kernel
theorem dX6_fineAll_15 : decode cX6_fineAll 15 = .ok (.getfield 7, 3) := by decide +kernel
theorem dX6_fineAll_18 : decode cX6_fineAll 18 = .ok (.iload_n 2, 1) := by decide +kernel
theorem dX6_fineAll_19 : decode cX6_fineAll 19 = .ok (.bipush 29, 2) := by decide +kernel
theorem dX6_fineAll_21 : decode cX6_fineAll 21 = .ok (.invokestatic 45, 3) := by decide +kernel
theorem dX6_fineAll_24 : decode cX6_fineAll 24 = .ok (.iaload, 1) := by decide +kernel
theorem dX6_fineAll_25 : decode cX6_fineAll 25 = .ok (.aload_n 0, 1) := by decide +kernel
theorem dX6_fineAll_26 : decode cX6_fineAll 26 = .ok (.getfield 7, 3) := by decide +kernel
theorem dX6_fineAll_29 : decode cX6_fineAll 29 = .ok (.bipush 6, 2) := by decide +kernel
theorem dX6_fineAll_31 : decode cX6_fineAll 31 = .ok (.iaload, 1) := by decide +kernel
theorem dX6_fineAll_32 : decode cX6_fineAll 32 = .ok (.imul, 1) := by decide +kernel
theorem dX6_fineAll_33 : decode cX6_fineAll 33 = .ok (.istore_n 3, 1) := by decide +kernel
theorem dX6_fineAll_34 : decode cX6_fineAll 34 = .ok (.aload_n 0, 1) := by decide +kernel
theorem dX6_fineAll_35 : decode cX6_fineAll 35 = .ok (.getfield 7, 3) := by decide +kernel
theorem dX6_fineAll_38 : decode cX6_fineAll 38 = .ok (.iload_n 2, 1) := by decide +kernel
theorem dX6_fineAll_39 : decode cX6_fineAll 39 = .ok (.bipush 31, 2) := by decide +kernel
theorem dX6_fineAll_41 : decode cX6_fineAll 41 = .ok (.invokestatic 45, 3) := by decide +kernel
theorem dX6_fineAll_44 : decode cX6_fineAll 44 = .ok (.dup2, 1) := by decide +kernel
theorem dX6_fineAll_45 : decode cX6_fineAll 45 = .ok (.iaload, 1) := by decide +kernel
theorem dX6_fineAll_46 : decode cX6_fineAll 46 = .ok (.iload_n 3, 1) := by decide +kernel
theorem dX6_fineAll_47 : decode cX6_fineAll 47 = .ok (.iadd, 1) := by decide +kernel
theorem dX6_fineAll_48 : decode cX6_fineAll 48 = .ok (.iastore, 1) := by decide +kernel
theorem dX6_fineAll_49 : decode cX6_fineAll 49 = .ok (.iload_n 1, 1) := by decide +kernel
theorem dX6_fineAll_50 : decode cX6_fineAll 50 = .ok (.iload_n 3, 1) := by decide +kernel
theorem dX6_fineAll_51 : decode cX6_fineAll 51 = .ok (.iadd, 1) := by decide +kernel
theorem dX6_fineAll_52 : decode cX6_fineAll 52 = .ok (.istore_n 1, 1) := by decide +kernel
theorem dX6_fineAll_53 : decode cX6_fineAll 53 = .ok (.iinc 2 1, 3) := by decide +kernel
theorem dX6_fineAll_56 : decode cX6_fineAll 56 = .ok (.goto (-52), 3) := by decide +kernel
theorem dX6_fineAll_59 : decode cX6_fineAll 59 = .ok (.iload_n 1, 1) := by decide +kernel
theorem dX6_fineAll_60 : decode cX6_fineAll 60 = .ok (.ireturn, 1) := by decide +kernel
theorem dX6_pass_0 : decode cX6_pass 0 = .ok (.iload_n 1, 1) := by decide +kernel
theorem dX6_pass_1 : decode cX6_pass 1 = .ok (.iconst 1, 1) := by decide +kernel
theorem dX6_pass_2 : decode cX6_pass 2 = .ok (.bipush 24, 2) := by decide +kernel
theorem dX6_pass_4 : decode cX6_pass 4 = .ok (.invokestatic 25, 3) := by decide +kernel
theorem dX6_pass_7 : decode cX6_pass 7 = .ok (.ifCond .ne 6, 3) := by decide +kernel
theorem dX6_pass_10 : decode cX6_pass 10 = .ok (.bipush (-2), 2) := by decide +kernel
theorem dX6_pass_12 : decode cX6_pass 12 = .ok (.ireturn, 1) := by decide +kernel
theorem dX6_pass_13 : decode cX6_pass 13 = .ok (.aload_n 0, 1) := by decide +kernel
theorem dX6_pass_14 : decode cX6_pass 14 = .ok (.getfield 7, 3) := by decide +kernel
theorem dX6_pass_17 : decode cX6_pass 17 = .ok (.iconst 0, 1) := by decide +kernel
theorem dX6_pass_18 : decode cX6_pass 18 = .ok (.iaload, 1) := by decide +kernel
theorem dX6_pass_19 : decode cX6_pass 19 = .ok (.iload_n 1, 1) := by decide +kernel
theorem dX6_pass_20 : decode cX6_pass 20 = .ok (.iadd, 1) := by decide +kernel
theorem dX6_pass_21 : decode cX6_pass 21 = .ok (.sipush 239, 3) := by decide +kernel
theorem dX6_pass_24 : decode cX6_pass 24 = .ok (.if_icmp .le 6, 3) := by decide +kernel
theorem dX6_pass_27 : decode cX6_pass 27 = .ok (.bipush (-4), 2) := by decide +kernel
theorem dX6_pass_29 : decode cX6_pass 29 = .ok (.ireturn, 1) := by decide +kernel
theorem dX6_pass_30 : decode cX6_pass 30 = .ok (.aload_n 0, 1) := by decide +kernel
theorem dX6_pass_31 : decode cX6_pass 31 = .ok (.iconst 0, 1) := by decide +kernel
theorem dX6_pass_32 : decode cX6_pass 32 = .ok (.invokevirtual 41, 3) := by decide +kernel
theorem dX6_pass_35 : decode cX6_pass 35 = .ok (.iconst 0, 1) := by decide +kernel
theorem dX6_pass_36 : decode cX6_pass 36 = .ok (.istore_n 2, 1) := by decide +kernel
theorem dX6_pass_37 : decode cX6_pass 37 = .ok (.iconst 0, 1) := by decide +kernel
theorem dX6_pass_38 : decode cX6_pass 38 = .ok (.istore_n 3, 1) := by decide +kernel
theorem dX6_pass_39 : decode cX6_pass 39 = .ok (.iload_n 3, 1) := by decide +kernel
theorem dX6_pass_40 : decode cX6_pass 40 = .ok (.iload_n 1, 1) := by decide +kernel
theorem dX6_pass_41 : decode cX6_pass 41 = .ok (.if_icmp .ge 66, 3) := by decide +kernel
theorem dX6_pass_44 : decode cX6_pass 44 = .ok (.aload_n 0, 1) := by decide +kernel
theorem dX6_pass_45 : decode cX6_pass 45 = .ok (.getfield 7, 3) := by decide +kernel
theorem dX6_pass_48 : decode cX6_pass 48 = .ok (.iconst 0, 1) := by decide +kernel
theorem dX6_pass_49 : decode cX6_pass 49 = .ok (.dup2, 1) := by decide +kernel
theorem dX6_pass_50 : decode cX6_pass 50 = .ok (.iaload, 1) := by decide +kernel
theorem dX6_pass_51 : decode cX6_pass 51 = .ok (.iconst 1, 1) := by decide +kernel
theorem dX6_pass_52 : decode cX6_pass 52 = .ok (.iadd, 1) := by decide +kernel
theorem dX6_pass_53 : decode cX6_pass 53 = .ok (.iastore, 1) := by decide +kernel
theorem dX6_pass_54 : decode cX6_pass 54 = .ok (.aload_n 0, 1) := by decide +kernel
theorem dX6_pass_55 : decode cX6_pass 55 = .ok (.getfield 7, 3) := by decide +kernel
theorem dX6_pass_58 : decode cX6_pass 58 = .ok (.iconst 0, 1) := by decide +kernel
theorem dX6_pass_59 : decode cX6_pass 59 = .ok (.iaload, 1) := by decide +kernel
theorem dX6_pass_60 : decode cX6_pass 60 = .ok (.bipush 12, 2) := by decide +kernel
theorem dX6_pass_62 : decode cX6_pass 62 = .ok (.irem, 1) := by decide +kernel
theorem dX6_pass_63 : decode cX6_pass 63 = .ok (.ifCond .ne 7, 3) := by decide +kernel
theorem dX6_pass_66 : decode cX6_pass 66 = .ok (.aload_n 0, 1) := by decide +kernel
theorem dX6_pass_67 : decode cX6_pass 67 = .ok (.invokevirtual 93, 3) := by decide +kernel
theorem dX6_pass_70 : decode cX6_pass 70 = .ok (.iload_n 2, 1) := by decide +kernel
theorem dX6_pass_71 : decode cX6_pass 71 = .ok (.aload_n 0, 1) := by decide +kernel
theorem dX6_pass_72 : decode cX6_pass 72 = .ok (.getfield 7, 3) := by decide +kernel
theorem dX6_pass_75 : decode cX6_pass 75 = .ok (.iconst 0, 1) := by decide +kernel
theorem dX6_pass_76 : decode cX6_pass 76 = .ok (.iaload, 1) := by decide +kernel
theorem dX6_pass_77 : decode cX6_pass 77 = .ok (.bipush 12, 2) := by decide +kernel
theorem dX6_pass_79 : decode cX6_pass 79 = .ok (.irem, 1) := by decide +kernel
theorem dX6_pass_80 : decode cX6_pass 80 = .ok (.iconst 4, 1) := by decide +kernel
theorem dX6_pass_81 : decode cX6_pass 81 = .ok (.if_icmp .ne 17, 3) := by decide +kernel
theorem dX6_pass_84 : decode cX6_pass 84 = .ok (.aload_n 0, 1) := by decide +kernel
theorem dX6_pass_85 : decode cX6_pass 85 = .ok (.invokevirtual 56, 3) := by decide +kernel
theorem dX6_pass_88 : decode cX6_pass 88 = .ok (.ifCond .le 10, 3) := by decide +kernel
theorem dX6_pass_91 : decode cX6_pass 91 = .ok (.aload_n 0, 1) := by decide +kernel
theorem dX6_pass_92 : decode cX6_pass 92 = .ok (.invokevirtual 96, 3) := by decide +kernel
theorem dX6_pass_95 : decode cX6_pass 95 = .ok (.goto 4, 3) := by decide +kernel
theorem dX6_pass_98 : decode cX6_pass 98 = .ok (.iconst 0, 1) := by decide +kernel
theorem dX6_pass_99 : decode cX6_pass 99 = .ok (.iadd, 1) := by decide +kernel
theorem dX6_pass_100 : decode cX6_pass 100 = .ok (.istore_n 2, 1) := by decide +kernel
theorem dX6_pass_101 : decode cX6_pass 101 = .ok (.iinc 3 1, 3) := by decide +kernel
theorem dX6_pass_104 : decode cX6_pass 104 = .ok (.goto (-65), 3) := by decide +kernel
theorem dX6_pass_107 : decode cX6_pass 107 = .ok (.iload_n 2, 1) := by decide +kernel
theorem dX6_pass_108 : decode cX6_pass 108 = .ok (.ireturn, 1) := by decide +kernel
theorem dX6_type_0 : decode cX6_type 0 = .ok (.aload_n 0, 1) := by decide +kernel
theorem dX6_type_1 : decode cX6_type 1 = .ok (.getfield 99, 3) := by decide +kernel
theorem dX6_type_4 : decode cX6_type 4 = .ok (.bipush 60, 2) := by decide +kernel
theorem dX6_type_6 : decode cX6_type 6 = .ok (.if_icmp .ne 6, 3) := by decide +kernel
theorem dX6_type_9 : decode cX6_type 9 = .ok (.bipush (-3), 2) := by decide +kernel
theorem dX6_type_11 : decode cX6_type 11 = .ok (.ireturn, 1) := by decide +kernel
theorem dX6_type_12 : decode cX6_type 12 = .ok (.aload_n 0, 1) := by decide +kernel
theorem dX6_type_13 : decode cX6_type 13 = .ok (.getfield 13, 3) := by decide +kernel
theorem dX6_type_16 : decode cX6_type 16 = .ok (.aload_n 0, 1) := by decide +kernel
theorem dX6_type_17 : decode cX6_type 17 = .ok (.getfield 99, 3) := by decide +kernel
theorem dX6_type_20 : decode cX6_type 20 = .ok (.iload_n 1, 1) := by decide +kernel
theorem dX6_type_21 : decode cX6_type 21 = .ok (.iastore, 1) := by decide +kernel
theorem dX6_type_22 : decode cX6_type 22 = .ok (.aload_n 0, 1) := by decide +kernel
theorem dX6_type_23 : decode cX6_type 23 = .ok (.dup, 1) := by decide +kernel
theorem dX6_type_24 : decode cX6_type 24 = .ok (.getfield 99, 3) := by decide +kernel
theorem dX6_type_27 : decode cX6_type 27 = .ok (.iconst 1, 1) := by decide +kernel
theorem dX6_type_28 : decode cX6_type 28 = .ok (.iadd, 1) := by decide +kernel
theorem dX6_type_29 : decode cX6_type 29 = .ok (.putfield 99, 3) := by decide +kernel
theorem dX6_type_32 : decode cX6_type 32 = .ok (.aload_n 0, 1) := by decide +kernel
theorem dX6_type_33 : decode cX6_type 33 = .ok (.getfield 99, 3) := by decide +kernel
theorem dX6_type_36 : decode cX6_type 36 = .ok (.ireturn, 1) := by decide +kernel
theorem dX6_clearText_0 : decode cX6_clearText 0 = .ok (.aload_n 0, 1) := by decide +kernel
theorem dX6_clearText_1 : decode cX6_clearText 1 = .ok (.getfield 99, 3) := by decide +kernel
theorem dX6_clearText_4 : decode cX6_clearText 4 = .ok (.istore_n 1, 1) := by decide +kernel
theorem dX6_clearText_5 : decode cX6_clearText 5 = .ok (.aload_n 0, 1) := by decide +kernel
theorem dX6_clearText_6 : decode cX6_clearText 6 = .ok (.iconst 0, 1) := by decide +kernel
theorem dX6_clearText_7 : decode cX6_clearText 7 = .ok (.putfield 99, 3) := by decide +kernel
theorem dX6_clearText_10 : decode cX6_clearText 10 = .ok (.iload_n 1, 1) := by decide +kernel
theorem dX6_clearText_11 : decode cX6_clearText 11 = .ok (.ireturn, 1) := by decide +kernel
theorem dX6_code_0 : decode cX6_code 0 = .ok (.aload_n 0, 1) := by decide +kernel
theorem dX6_code_1 : decode cX6_code 1 = .ok (.getfield 102, 3) := by decide +kernel
theorem dX6_code_4 : decode cX6_code 4 = .ok (.aload_n 0, 1) := by decide +kernel
theorem dX6_code_5 : decode cX6_code 5 = .ok (.getfield 99, 3) := by decide +kernel
theorem dX6_code_8 : decode cX6_code 8 = .ok (.if_icmp .ge 15, 3) := by decide +kernel
theorem dX6_code_11 : decode cX6_code 11 = .ok (.aload_n 0, 1) := by decide +kernel
theorem dX6_code_12 : decode cX6_code 12 = .ok (.getfield 13, 3) := by decide +kernel
theorem dX6_code_15 : decode cX6_code 15 = .ok (.aload_n 0, 1) := by decide +kernel
theorem dX6_code_16 : decode cX6_code 16 = .ok (.getfield 102, 3) := by decide +kernel
theorem dX6_code_19 : decode cX6_code 19 = .ok (.iaload, 1) := by decide +kernel
theorem dX6_code_20 : decode cX6_code 20 = .ok (.goto 4, 3) := by decide +kernel
theorem dX6_code_23 : decode cX6_code 23 = .ok (.iconst 0, 1) := by decide +kernel
theorem dX6_code_24 : decode cX6_code 24 = .ok (.ireturn, 1) := by decide +kernel
theorem dX6_sign_0 : decode cX6_sign 0 = .ok (.aload_n 0, 1) := by decide +kernel
theorem dX6_sign_1 : decode cX6_sign 1 = .ok (.invokevirtual 105, 3) := by decide +kernel
theorem dX6_sign_4 : decode cX6_sign 4 = .ok (.iload_n 1, 1) := by decide +kernel
theorem dX6_sign_5 : decode cX6_sign 5 = .ok (.if_icmp .ne 7, 3) := by decide +kernel
theorem dX6_sign_8 : decode cX6_sign 8 = .ok (.iconst 1, 1) := by decide +kernel
theorem dX6_sign_9 : decode cX6_sign 9 = .ok (.goto 4, 3) := by decide +kernel
theorem dX6_sign_12 : decode cX6_sign 12 = .ok (.iconst 0, 1) := by decide +kernel
theorem dX6_sign_13 : decode cX6_sign 13 = .ok (.istore_n 2, 1) := by decide +kernel
theorem dX6_sign_14 : decode cX6_sign 14 = .ok (.aload_n 0, 1) := by decide +kernel
theorem dX6_sign_15 : decode cX6_sign 15 = .ok (.dup, 1) := by decide +kernel
theorem dX6_sign_16 : decode cX6_sign 16 = .ok (.getfield 102, 3) := by decide +kernel
theorem dX6_sign_19 : decode cX6_sign 19 = .ok (.iload_n 2, 1) := by decide +kernel
theorem dX6_sign_20 : decode cX6_sign 20 = .ok (.ifCond .eq 7, 3) := by decide +kernel
theorem dX6_sign_23 : decode cX6_sign 23 = .ok (.iconst 1, 1) := by decide +kernel
theorem dX6_sign_24 : decode cX6_sign 24 = .ok (.goto 4, 3) := by decide +kernel
theorem dX6_sign_27 : decode cX6_sign 27 = .ok (.iconst 0, 1) := by decide +kernel
theorem dX6_sign_28 : decode cX6_sign 28 = .ok (.iadd, 1) := by decide +kernel
theorem dX6_sign_29 : decode cX6_sign 29 = .ok (.putfield 102, 3) := by decide +kernel
theorem dX6_sign_32 : decode cX6_sign 32 = .ok (.iload_n 2, 1) := by decide +kernel
theorem dX6_sign_33 : decode cX6_sign 33 = .ok (.ireturn, 1) := by decide +kernel
theorem dX6_number_0 : decode cX6_number 0 = .ok (.aload_n 0, 1) := by decide +kernel
theorem dX6_number_1 : decode cX6_number 1 = .ok (.invokevirtual 105, 3) := by decide +kernel
theorem dX6_number_4 : decode cX6_number 4 = .ok (.iload_n 3, 1) := by decide +kernel
theorem dX6_number_5 : decode cX6_number 5 = .ok (.ifCond .eq 8, 3) := by decide +kernel
theorem dX6_number_8 : decode cX6_number 8 = .ok (.bipush 48, 2) := by decide +kernel
theorem dX6_number_10 : decode cX6_number 10 = .ok (.goto 5, 3) := by decide +kernel
theorem dX6_number_13 : decode cX6_number 13 = .ok (.bipush 49, 2) := by decide +kernel
theorem dX6_number_15 : decode cX6_number 15 = .ok (.bipush 57, 2) := by decide +kernel
theorem dX6_number_17 : decode cX6_number 17 = .ok (.invokestatic 25, 3) := by decide +kernel
theorem dX6_number_20 : decode cX6_number 20 = .ok (.ifCond .ne 5, 3) := by decide +kernel
theorem dX6_number_23 : decode cX6_number 23 = .ok (.iconst 0, 1) := by decide +kernel
theorem dX6_number_24 : decode cX6_number 24 = .ok (.ireturn, 1) := by decide +kernel
theorem dX6_number_25 : decode cX6_number 25 = .ok (.iconst 0, 1) := by decide +kernel
theorem dX6_number_26 : decode cX6_number 26 = .ok (.istore 4, 2) := by decide +kernel
theorem dX6_number_28 : decode cX6_number 28 = .ok (.aload_n 0, 1) := by decide +kernel
theorem dX6_number_29 : decode cX6_number 29 = .ok (.getfield 22, 3) := by decide +kernel
theorem dX6_number_32 : decode cX6_number 32 = .ok (.iload_n 1, 1) := by decide +kernel
theorem dX6_number_33 : decode cX6_number 33 = .ok (.iconst 0, 1) := by decide +kernel
theorem dX6_number_34 : decode cX6_number 34 = .ok (.iastore, 1) := by decide +kernel
theorem dX6_number_35 : decode cX6_number 35 = .ok (.aload_n 0, 1) := by decide +kernel
theorem dX6_number_36 : decode cX6_number 36 = .ok (.invokevirtual 105, 3) := by decide +kernel
theorem dX6_number_39 : decode cX6_number 39 = .ok (.bipush 48, 2) := by decide +kernel
theorem dX6_number_41 : decode cX6_number 41 = .ok (.bipush 57, 2) := by decide +kernel
theorem dX6_number_43 : decode cX6_number 43 = .ok (.invokestatic 25, 3) := by decide +kernel
theorem dX6_number_46 : decode cX6_number 46 = .ok (.ifCond .eq 62, 3) := by decide +kernel
theorem dX6_number_49 : decode cX6_number 49 = .ok (.iload 4, 2) := by decide +kernel
theorem dX6_number_51 : decode cX6_number 51 = .ok (.iload_n 2, 1) := by decide +kernel
theorem dX6_number_52 : decode cX6_number 52 = .ok (.if_icmp .ge 56, 3) := by decide +kernel
theorem dX6_number_55 : decode cX6_number 55 = .ok (.iload 4, 2) := by decide +kernel
theorem dX6_number_57 : decode cX6_number 57 = .ok (.ifCond .eq 12, 3) := by decide +kernel
theorem dX6_number_60 : decode cX6_number 60 = .ok (.aload_n 0, 1) := by decide +kernel
theorem dX6_number_61 : decode cX6_number 61 = .ok (.getfield 22, 3) := by decide +kernel
theorem dX6_number_64 : decode cX6_number 64 = .ok (.iload_n 1, 1) := by decide +kernel
theorem dX6_number_65 : decode cX6_number 65 = .ok (.iaload, 1) := by decide +kernel
theorem dX6_number_66 : decode cX6_number 66 = .ok (.ifCond .le 42, 3) := by decide +kernel
theorem dX6_number_69 : decode cX6_number 69 = .ok (.aload_n 0, 1) := by decide +kernel
theorem dX6_number_70 : decode cX6_number 70 = .ok (.getfield 22, 3) := by decide +kernel
theorem dX6_number_73 : decode cX6_number 73 = .ok (.iload_n 1, 1) := by decide +kernel
theorem dX6_number_74 : decode cX6_number 74 = .ok (.bipush 10, 2) := by decide +kernel
theorem dX6_number_76 : decode cX6_number 76 = .ok (.aload_n 0, 1) := by decide +kernel
theorem dX6_number_77 : decode cX6_number 77 = .ok (.getfield 22, 3) := by decide +kernel
theorem dX6_number_80 : decode cX6_number 80 = .ok (.iload_n 1, 1) := by decide +kernel
theorem dX6_number_81 : decode cX6_number 81 = .ok (.iaload, 1) := by decide +kernel
theorem dX6_number_82 : decode cX6_number 82 = .ok (.imul, 1) := by decide +kernel
theorem dX6_number_83 : decode cX6_number 83 = .ok (.aload_n 0, 1) := by decide +kernel
theorem dX6_number_84 : decode cX6_number 84 = .ok (.invokevirtual 105, 3) := by decide +kernel
theorem dX6_number_87 : decode cX6_number 87 = .ok (.iadd, 1) := by decide +kernel
theorem dX6_number_88 : decode cX6_number 88 = .ok (.bipush 48, 2) := by decide +kernel
theorem dX6_number_90 : decode cX6_number 90 = .ok (.isub, 1) := by decide +kernel
theorem dX6_number_91 : decode cX6_number 91 = .ok (.iastore, 1) := by decide +kernel
theorem dX6_number_92 : decode cX6_number 92 = .ok (.aload_n 0, 1) := by decide +kernel
theorem dX6_number_93 : decode cX6_number 93 = .ok (.dup, 1) := by decide +kernel
theorem dX6_number_94 : decode cX6_number 94 = .ok (.getfield 102, 3) := by decide +kernel
theorem dX6_number_97 : decode cX6_number 97 = .ok (.iconst 1, 1) := by decide +kernel
theorem dX6_number_98 : decode cX6_number 98 = .ok (.iadd, 1) := by decide +kernel
theorem dX6_number_99 : decode cX6_number 99 = .ok (.putfield 102, 3) := by decide +kernel
theorem dX6_number_102 : decode cX6_number 102 = .ok (.iinc 4 1, 3) := by decide +kernel
theorem dX6_number_105 : decode cX6_number 105 = .ok (.goto (-70), 3) := by decide +kernel
theorem dX6_number_108 : decode cX6_number 108 = .ok (.iconst 1, 1) := by decide +kernel
theorem dX6_number_109 : decode cX6_number 109 = .ok (.ireturn, 1) := by decide +kernel
theorem dX6_readsTransfer_0 : decode cX6_readsTransfer 0 = .ok (.aload_n 0, 1) := by decide +kernel
theorem dX6_readsTransfer_1 : decode cX6_readsTransfer 1 = .ok (.iconst 0, 1) := by decide +kernel
theorem dX6_readsTransfer_2 : decode cX6_readsTransfer 2 = .ok (.iconst 1, 1) := by decide +kernel
theorem dX6_readsTransfer_3 : decode cX6_readsTransfer 3 = .ok (.iconst 1, 1) := by decide +kernel
theorem dX6_readsTransfer_4 : decode cX6_readsTransfer 4 = .ok (.invokevirtual 108, 3) := by decide +kernel
theorem dX6_readsTransfer_7 : decode cX6_readsTransfer 7 = .ok (.ifCond .eq 64, 3) := by decide +kernel
theorem dX6_readsTransfer_10 : decode cX6_readsTransfer 10 = .ok (.aload_n 0, 1) := by decide +kernel
theorem dX6_readsTransfer_11 : decode cX6_readsTransfer 11 = .ok (.bipush 62, 2) := by decide +kernel
theorem dX6_readsTransfer_13 : decode cX6_readsTransfer 13 = .ok (.invokevirtual 112, 3) := by decide +kernel
theorem dX6_readsTransfer_16 : decode cX6_readsTransfer 16 = .ok (.ifCond .eq 55, 3) := by decide +kernel
theorem dX6_readsTransfer_19 : decode cX6_readsTransfer 19 = .ok (.aload_n 0, 1) := by decide +kernel
theorem dX6_readsTransfer_20 : decode cX6_readsTransfer 20 = .ok (.iconst 1, 1) := by decide +kernel
theorem dX6_readsTransfer_21 : decode cX6_readsTransfer 21 = .ok (.iconst 1, 1) := by decide +kernel
theorem dX6_readsTransfer_22 : decode cX6_readsTransfer 22 = .ok (.iconst 1, 1) := by decide +kernel
theorem dX6_readsTransfer_23 : decode cX6_readsTransfer 23 = .ok (.invokevirtual 108, 3) := by decide +kernel
theorem dX6_readsTransfer_26 : decode cX6_readsTransfer 26 = .ok (.ifCond .eq 45, 3) := by decide +kernel
theorem dX6_readsTransfer_29 : decode cX6_readsTransfer 29 = .ok (.aload_n 0, 1) := by decide +kernel
theorem dX6_readsTransfer_30 : decode cX6_readsTransfer 30 = .ok (.bipush 58, 2) := by decide +kernel
theorem dX6_readsTransfer_32 : decode cX6_readsTransfer 32 = .ok (.invokevirtual 112, 3) := by decide +kernel
theorem dX6_readsTransfer_35 : decode cX6_readsTransfer 35 = .ok (.ifCond .eq 36, 3) := by decide +kernel
theorem dX6_readsTransfer_38 : decode cX6_readsTransfer 38 = .ok (.aload_n 0, 1) := by decide +kernel
theorem dX6_readsTransfer_39 : decode cX6_readsTransfer 39 = .ok (.iconst 2, 1) := by decide +kernel
theorem dX6_readsTransfer_40 : decode cX6_readsTransfer 40 = .ok (.iconst 2, 1) := by decide +kernel
theorem dX6_readsTransfer_41 : decode cX6_readsTransfer 41 = .ok (.iconst 1, 1) := by decide +kernel
theorem dX6_readsTransfer_42 : decode cX6_readsTransfer 42 = .ok (.invokevirtual 108, 3) := by decide +kernel
theorem dX6_readsTransfer_45 : decode cX6_readsTransfer 45 = .ok (.ifCond .eq 26, 3) := by decide +kernel
theorem dX6_readsTransfer_48 : decode cX6_readsTransfer 48 = .ok (.aload_n 0, 1) := by decide +kernel
theorem dX6_readsTransfer_49 : decode cX6_readsTransfer 49 = .ok (.bipush 42, 2) := by decide +kernel
theorem dX6_readsTransfer_51 : decode cX6_readsTransfer 51 = .ok (.invokevirtual 112, 3) := by decide +kernel
theorem dX6_readsTransfer_54 : decode cX6_readsTransfer 54 = .ok (.ifCond .eq 17, 3) := by decide +kernel
theorem dX6_readsTransfer_57 : decode cX6_readsTransfer 57 = .ok (.aload_n 0, 1) := by decide +kernel
theorem dX6_readsTransfer_58 : decode cX6_readsTransfer 58 = .ok (.iconst 3, 1) := by decide +kernel
theorem dX6_readsTransfer_59 : decode cX6_readsTransfer 59 = .ok (.iconst 4, 1) := by decide +kernel
theorem dX6_readsTransfer_60 : decode cX6_readsTransfer 60 = .ok (.iconst 0, 1) := by decide +kernel
theorem dX6_readsTransfer_61 : decode cX6_readsTransfer 61 = .ok (.invokevirtual 108, 3) := by decide +kernel
theorem dX6_readsTransfer_64 : decode cX6_readsTransfer 64 = .ok (.ifCond .eq 7, 3) := by decide +kernel
theorem dX6_readsTransfer_67 : decode cX6_readsTransfer 67 = .ok (.iconst 1, 1) := by decide +kernel
theorem dX6_readsTransfer_68 : decode cX6_readsTransfer 68 = .ok (.goto 4, 3) := by decide +kernel
theorem dX6_readsTransfer_71 : decode cX6_readsTransfer 71 = .ok (.iconst 0, 1) := by decide +kernel
theorem dX6_readsTransfer_72 : decode cX6_readsTransfer 72 = .ok (.ireturn, 1) := by decide +kernel
theorem dX6_faultOf_0 : decode cX6_faultOf 0 = .ok (.aload_n 0, 1) := by decide +kernel
theorem dX6_faultOf_1 : decode cX6_faultOf 1 = .ok (.iconst 0, 1) := by decide +kernel
theorem dX6_faultOf_2 : decode cX6_faultOf 2 = .ok (.putfield 102, 3) := by decide +kernel
theorem dX6_faultOf_5 : decode cX6_faultOf 5 = .ok (.aload_n 0, 1) := by decide +kernel
theorem dX6_faultOf_6 : decode cX6_faultOf 6 = .ok (.invokevirtual 115, 3) := by decide +kernel
theorem dX6_faultOf_9 : decode cX6_faultOf 9 = .ok (.istore_n 1, 1) := by decide +kernel
theorem dX6_faultOf_10 : decode cX6_faultOf 10 = .ok (.iload_n 1, 1) := by decide +kernel
theorem dX6_faultOf_11 : decode cX6_faultOf 11 = .ok (.ifCond .eq 39, 3) := by decide +kernel
theorem dX6_faultOf_14 : decode cX6_faultOf 14 = .ok (.aload_n 0, 1) := by decide +kernel
theorem dX6_faultOf_15 : decode cX6_faultOf 15 = .ok (.getfield 102, 3) := by decide +kernel
theorem dX6_faultOf_18 : decode cX6_faultOf 18 = .ok (.aload_n 0, 1) := by decide +kernel
theorem dX6_faultOf_19 : decode cX6_faultOf 19 = .ok (.getfield 99, 3) := by decide +kernel
theorem dX6_faultOf_22 : decode cX6_faultOf 22 = .ok (.if_icmp .ge 28, 3) := by decide +kernel
theorem dX6_faultOf_25 : decode cX6_faultOf 25 = .ok (.aload_n 0, 1) := by decide +kernel
theorem dX6_faultOf_26 : decode cX6_faultOf 26 = .ok (.bipush 59, 2) := by decide +kernel
theorem dX6_faultOf_28 : decode cX6_faultOf 28 = .ok (.invokevirtual 112, 3) := by decide +kernel
theorem dX6_faultOf_31 : decode cX6_faultOf 31 = .ok (.ifCond .eq 14, 3) := by decide +kernel
theorem dX6_faultOf_34 : decode cX6_faultOf 34 = .ok (.aload_n 0, 1) := by decide +kernel
theorem dX6_faultOf_35 : decode cX6_faultOf 35 = .ok (.invokevirtual 115, 3) := by decide +kernel
theorem dX6_faultOf_38 : decode cX6_faultOf 38 = .ok (.ifCond .eq 7, 3) := by decide +kernel
theorem dX6_faultOf_41 : decode cX6_faultOf 41 = .ok (.iconst 1, 1) := by decide +kernel
theorem dX6_faultOf_42 : decode cX6_faultOf 42 = .ok (.goto 4, 3) := by decide +kernel
theorem dX6_faultOf_45 : decode cX6_faultOf 45 = .ok (.iconst 0, 1) := by decide +kernel
theorem dX6_faultOf_46 : decode cX6_faultOf 46 = .ok (.istore_n 1, 1) := by decide +kernel
theorem dX6_faultOf_47 : decode cX6_faultOf 47 = .ok (.goto (-37), 3) := by decide +kernel
theorem dX6_faultOf_50 : decode cX6_faultOf 50 = .ok (.iload_n 1, 1) := by decide +kernel
theorem dX6_faultOf_51 : decode cX6_faultOf 51 = .ok (.ifCond .eq 7, 3) := by decide +kernel
theorem dX6_faultOf_54 : decode cX6_faultOf 54 = .ok (.iconst (-1), 1) := by decide +kernel
theorem dX6_faultOf_55 : decode cX6_faultOf 55 = .ok (.goto 7, 3) := by decide +kernel
theorem dX6_faultOf_58 : decode cX6_faultOf 58 = .ok (.aload_n 0, 1) := by decide +kernel
theorem dX6_faultOf_59 : decode cX6_faultOf 59 = .ok (.getfield 102, 3) := by decide +kernel
theorem dX6_faultOf_62 : decode cX6_faultOf 62 = .ok (.ireturn, 1) := by decide +kernel
theorem dX6_transferOn_0 : decode cX6_transferOn 0 = .ok (.iconst 0, 1) := by decide +kernel
theorem dX6_transferOn_1 : decode cX6_transferOn 1 = .ok (.istore_n 1, 1) := by decide +kernel
theorem dX6_transferOn_2 : decode cX6_transferOn 2 = .ok (.aload_n 0, 1) := by decide +kernel
theorem dX6_transferOn_3 : decode cX6_transferOn 3 = .ok (.iconst 0, 1) := by decide +kernel
theorem dX6_transferOn_4 : decode cX6_transferOn 4 = .ok (.putfield 102, 3) := by decide +kernel
theorem dX6_transferOn_7 : decode cX6_transferOn 7 = .ok (.aload_n 0, 1) := by decide +kernel
theorem dX6_transferOn_8 : decode cX6_transferOn 8 = .ok (.getfield 102, 3) := by decide +kernel
theorem dX6_transferOn_11 : decode cX6_transferOn 11 = .ok (.aload_n 0, 1) := by decide +kernel
theorem dX6_transferOn_12 : decode cX6_transferOn 12 = .ok (.getfield 99, 3) := by decide +kernel
theorem dX6_transferOn_15 : decode cX6_transferOn 15 = .ok (.if_icmp .ge 104, 3) := by decide +kernel
theorem dX6_transferOn_18 : decode cX6_transferOn 18 = .ok (.aload_n 0, 1) := by decide +kernel
theorem dX6_transferOn_19 : decode cX6_transferOn 19 = .ok (.invokevirtual 115, 3) := by decide +kernel
theorem dX6_transferOn_22 : decode cX6_transferOn 22 = .ok (.pop, 1) := by decide +kernel
theorem dX6_transferOn_23 : decode cX6_transferOn 23 = .ok (.aload_n 0, 1) := by decide +kernel
theorem dX6_transferOn_24 : decode cX6_transferOn 24 = .ok (.getfield 22, 3) := by decide +kernel
theorem dX6_transferOn_27 : decode cX6_transferOn 27 = .ok (.iconst 2, 1) := by decide +kernel
theorem dX6_transferOn_28 : decode cX6_transferOn 28 = .ok (.iaload, 1) := by decide +kernel
theorem dX6_transferOn_29 : decode cX6_transferOn 29 = .ok (.istore_n 2, 1) := by decide +kernel
theorem dX6_transferOn_30 : decode cX6_transferOn 30 = .ok (.aload_n 0, 1) := by decide +kernel
theorem dX6_transferOn_31 : decode cX6_transferOn 31 = .ok (.aload_n 0, 1) := by decide +kernel
theorem dX6_transferOn_32 : decode cX6_transferOn 32 = .ok (.getfield 22, 3) := by decide +kernel
theorem dX6_transferOn_35 : decode cX6_transferOn 35 = .ok (.iconst 0, 1) := by decide +kernel
theorem dX6_transferOn_36 : decode cX6_transferOn 36 = .ok (.iaload, 1) := by decide +kernel
theorem dX6_transferOn_37 : decode cX6_transferOn 37 = .ok (.aload_n 0, 1) := by decide +kernel
theorem dX6_transferOn_38 : decode cX6_transferOn 38 = .ok (.getfield 22, 3) := by decide +kernel
theorem dX6_transferOn_41 : decode cX6_transferOn 41 = .ok (.iconst 1, 1) := by decide +kernel
theorem dX6_transferOn_42 : decode cX6_transferOn 42 = .ok (.iaload, 1) := by decide +kernel
theorem dX6_transferOn_43 : decode cX6_transferOn 43 = .ok (.iload_n 2, 1) := by decide +kernel
theorem dX6_transferOn_44 : decode cX6_transferOn 44 = .ok (.invokestatic 63, 3) := by decide +kernel
theorem dX6_transferOn_47 : decode cX6_transferOn 47 = .ok (.iload_n 2, 1) := by decide +kernel
theorem dX6_transferOn_48 : decode cX6_transferOn 48 = .ok (.invokestatic 63, 3) := by decide +kernel
theorem dX6_transferOn_51 : decode cX6_transferOn 51 = .ok (.ifCond .eq 9, 3) := by decide +kernel
theorem dX6_transferOn_54 : decode cX6_transferOn 54 = .ok (.iconst 0, 1) := by decide +kernel
theorem dX6_transferOn_55 : decode cX6_transferOn 55 = .ok (.iload_n 2, 1) := by decide +kernel
theorem dX6_transferOn_56 : decode cX6_transferOn 56 = .ok (.iadd, 1) := by decide +kernel
theorem dX6_transferOn_57 : decode cX6_transferOn 57 = .ok (.goto 4, 3) := by decide +kernel
theorem dX6_transferOn_60 : decode cX6_transferOn 60 = .ok (.iconst 0, 1) := by decide +kernel
theorem dX6_transferOn_61 : decode cX6_transferOn 61 = .ok (.aload_n 0, 1) := by decide +kernel
theorem dX6_transferOn_62 : decode cX6_transferOn 62 = .ok (.getfield 22, 3) := by decide +kernel
theorem dX6_transferOn_65 : decode cX6_transferOn 65 = .ok (.iconst 3, 1) := by decide +kernel
theorem dX6_transferOn_66 : decode cX6_transferOn 66 = .ok (.iaload, 1) := by decide +kernel
theorem dX6_transferOn_67 : decode cX6_transferOn 67 = .ok (.invokevirtual 66, 3) := by decide +kernel
theorem dX6_transferOn_70 : decode cX6_transferOn 70 = .ok (.istore_n 3, 1) := by decide +kernel
theorem dX6_transferOn_71 : decode cX6_transferOn 71 = .ok (.iload_n 3, 1) := by decide +kernel
theorem dX6_transferOn_72 : decode cX6_transferOn 72 = .ok (.ifCond .eq 5, 3) := by decide +kernel
theorem dX6_transferOn_75 : decode cX6_transferOn 75 = .ok (.iload_n 3, 1) := by decide +kernel
theorem dX6_transferOn_76 : decode cX6_transferOn 76 = .ok (.ireturn, 1) := by decide +kernel
theorem dX6_transferOn_77 : decode cX6_transferOn 77 = .ok (.aload_n 0, 1) := by decide +kernel
theorem dX6_transferOn_78 : decode cX6_transferOn 78 = .ok (.aload_n 0, 1) := by decide +kernel
theorem dX6_transferOn_79 : decode cX6_transferOn 79 = .ok (.getfield 22, 3) := by decide +kernel
theorem dX6_transferOn_82 : decode cX6_transferOn 82 = .ok (.iconst 0, 1) := by decide +kernel
theorem dX6_transferOn_83 : decode cX6_transferOn 83 = .ok (.iaload, 1) := by decide +kernel
theorem dX6_transferOn_84 : decode cX6_transferOn 84 = .ok (.aload_n 0, 1) := by decide +kernel
theorem dX6_transferOn_85 : decode cX6_transferOn 85 = .ok (.getfield 22, 3) := by decide +kernel
theorem dX6_transferOn_88 : decode cX6_transferOn 88 = .ok (.iconst 1, 1) := by decide +kernel
theorem dX6_transferOn_89 : decode cX6_transferOn 89 = .ok (.iaload, 1) := by decide +kernel
theorem dX6_transferOn_90 : decode cX6_transferOn 90 = .ok (.iconst 0, 1) := by decide +kernel
theorem dX6_transferOn_91 : decode cX6_transferOn 91 = .ok (.iload_n 2, 1) := by decide +kernel
theorem dX6_transferOn_92 : decode cX6_transferOn 92 = .ok (.iadd, 1) := by decide +kernel
theorem dX6_transferOn_93 : decode cX6_transferOn 93 = .ok (.aload_n 0, 1) := by decide +kernel
theorem dX6_transferOn_94 : decode cX6_transferOn 94 = .ok (.getfield 22, 3) := by decide +kernel
theorem dX6_transferOn_97 : decode cX6_transferOn 97 = .ok (.iconst 3, 1) := by decide +kernel
theorem dX6_transferOn_98 : decode cX6_transferOn 98 = .ok (.iaload, 1) := by decide +kernel
theorem dX6_transferOn_99 : decode cX6_transferOn 99 = .ok (.invokevirtual 70, 3) := by decide +kernel
theorem dX6_transferOn_102 : decode cX6_transferOn 102 = .ok (.pop, 1) := by decide +kernel
theorem dX6_transferOn_103 : decode cX6_transferOn 103 = .ok (.iinc 1 1, 3) := by decide +kernel
theorem dX6_transferOn_106 : decode cX6_transferOn 106 = .ok (.aload_n 0, 1) := by decide +kernel
theorem dX6_transferOn_107 : decode cX6_transferOn 107 = .ok (.dup, 1) := by decide +kernel
theorem dX6_transferOn_108 : decode cX6_transferOn 108 = .ok (.getfield 102, 3) := by decide +kernel
theorem dX6_transferOn_111 : decode cX6_transferOn 111 = .ok (.iconst 1, 1) := by decide +kernel
theorem dX6_transferOn_112 : decode cX6_transferOn 112 = .ok (.iadd, 1) := by decide +kernel
theorem dX6_transferOn_113 : decode cX6_transferOn 113 = .ok (.putfield 102, 3) := by decide +kernel
theorem dX6_transferOn_116 : decode cX6_transferOn 116 = .ok (.goto (-109), 3) := by decide +kernel
theorem dX6_transferOn_119 : decode cX6_transferOn 119 = .ok (.iload_n 1, 1) := by decide +kernel
theorem dX6_transferOn_120 : decode cX6_transferOn 120 = .ok (.ireturn, 1) := by decide +kernel
theorem dX6_readTransfers_0 : decode cX6_readTransfers 0 = .ok (.aload_n 0, 1) := by decide +kernel
theorem dX6_readTransfers_1 : decode cX6_readTransfers 1 = .ok (.invokevirtual 119, 3) := by decide +kernel
theorem dX6_readTransfers_4 : decode cX6_readTransfers 4 = .ok (.istore_n 1, 1) := by decide +kernel
theorem dX6_readTransfers_5 : decode cX6_readTransfers 5 = .ok (.iload_n 1, 1) := by decide +kernel
theorem dX6_readTransfers_6 : decode cX6_readTransfers 6 = .ok (.ifCond .lt 8, 3) := by decide +kernel
theorem dX6_readTransfers_9 : decode cX6_readTransfers 9 = .ok (.bipush (-100), 2) := by decide +kernel
theorem dX6_readTransfers_11 : decode cX6_readTransfers 11 = .ok (.iload_n 1, 1) := by decide +kernel
theorem dX6_readTransfers_12 : decode cX6_readTransfers 12 = .ok (.isub, 1) := by decide +kernel
theorem dX6_readTransfers_13 : decode cX6_readTransfers 13 = .ok (.ireturn, 1) := by decide +kernel
theorem dX6_readTransfers_14 : decode cX6_readTransfers 14 = .ok (.aload_n 0, 1) := by decide +kernel
theorem dX6_readTransfers_15 : decode cX6_readTransfers 15 = .ok (.iconst 0, 1) := by decide +kernel
theorem dX6_readTransfers_16 : decode cX6_readTransfers 16 = .ok (.sipush 2094, 3) := by decide +kernel
theorem dX6_readTransfers_19 : decode cX6_readTransfers 19 = .ok (.invokevirtual 33, 3) := by decide +kernel
theorem dX6_readTransfers_22 : decode cX6_readTransfers 22 = .ok (.aload_n 0, 1) := by decide +kernel
theorem dX6_readTransfers_23 : decode cX6_readTransfers 23 = .ok (.invokevirtual 122, 3) := by decide +kernel
theorem dX6_readTransfers_26 : decode cX6_readTransfers 26 = .ok (.istore_n 2, 1) := by decide +kernel
theorem dX6_readTransfers_27 : decode cX6_readTransfers 27 = .ok (.iload_n 2, 1) := by decide +kernel
theorem dX6_readTransfers_28 : decode cX6_readTransfers 28 = .ok (.ifCond .ge 14, 3) := by decide +kernel
theorem dX6_readTransfers_31 : decode cX6_readTransfers 31 = .ok (.aload_n 0, 1) := by decide +kernel
theorem dX6_readTransfers_32 : decode cX6_readTransfers 32 = .ok (.sipush 2094, 3) := by decide +kernel
theorem dX6_readTransfers_35 : decode cX6_readTransfers 35 = .ok (.iconst 0, 1) := by decide +kernel
theorem dX6_readTransfers_36 : decode cX6_readTransfers 36 = .ok (.invokevirtual 33, 3) := by decide +kernel
theorem dX6_readTransfers_39 : decode cX6_readTransfers 39 = .ok (.goto 10, 3) := by decide +kernel
theorem dX6_readTransfers_42 : decode cX6_readTransfers 42 = .ok (.aload_n 0, 1) := by decide +kernel
theorem dX6_readTransfers_43 : decode cX6_readTransfers 43 = .ok (.sipush 2094, 3) := by decide +kernel
theorem dX6_readTransfers_46 : decode cX6_readTransfers 46 = .ok (.invokevirtual 41, 3) := by decide +kernel
theorem dX6_readTransfers_49 : decode cX6_readTransfers 49 = .ok (.iload_n 2, 1) := by decide +kernel
theorem dX6_readTransfers_50 : decode cX6_readTransfers 50 = .ok (.ireturn, 1) := by decide +kernel
theorem dX6_heldBy_0 : decode cX6_heldBy 0 = .ok (.iconst 0, 1) := by decide +kernel
theorem dX6_heldBy_1 : decode cX6_heldBy 1 = .ok (.istore_n 2, 1) := by decide +kernel
theorem dX6_heldBy_2 : decode cX6_heldBy 2 = .ok (.iconst 0, 1) := by decide +kernel
theorem dX6_heldBy_3 : decode cX6_heldBy 3 = .ok (.istore_n 3, 1) := by decide +kernel
theorem dX6_heldBy_4 : decode cX6_heldBy 4 = .ok (.iload_n 3, 1) := by decide +kernel
theorem dX6_heldBy_5 : decode cX6_heldBy 5 = .ok (.bipush 20, 2) := by decide +kernel
theorem dX6_heldBy_7 : decode cX6_heldBy 7 = .ok (.if_icmp .ge 24, 3) := by decide +kernel
theorem dX6_heldBy_10 : decode cX6_heldBy 10 = .ok (.iload_n 2, 1) := by decide +kernel
theorem dX6_heldBy_11 : decode cX6_heldBy 11 = .ok (.aload_n 0, 1) := by decide +kernel
theorem dX6_heldBy_12 : decode cX6_heldBy 12 = .ok (.getfield 7, 3) := by decide +kernel
theorem dX6_heldBy_15 : decode cX6_heldBy 15 = .ok (.iload_n 1, 1) := by decide +kernel
theorem dX6_heldBy_16 : decode cX6_heldBy 16 = .ok (.iconst 0, 1) := by decide +kernel
theorem dX6_heldBy_17 : decode cX6_heldBy 17 = .ok (.iload_n 3, 1) := by decide +kernel
