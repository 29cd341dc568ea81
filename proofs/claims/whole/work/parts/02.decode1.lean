theorem dX5_addFirm_35 : decode cX5_addFirm 35 = .ok (.iadd, 1) := by decide +kernel
theorem dX5_addFirm_36 : decode cX5_addFirm 36 = .ok (.putfield 47, 3) := by decide +kernel
theorem dX5_addFirm_39 : decode cX5_addFirm 39 = .ok (.aload_n 0, 1) := by decide +kernel
theorem dX5_addFirm_40 : decode cX5_addFirm 40 = .ok (.getfield 12, 3) := by decide +kernel
theorem dX5_addFirm_43 : decode cX5_addFirm 43 = .ok (.getfield 47, 3) := by decide +kernel
theorem dX5_addFirm_46 : decode cX5_addFirm 46 = .ok (.iconst 1, 1) := by decide +kernel
theorem dX5_addFirm_47 : decode cX5_addFirm 47 = .ok (.isub, 1) := by decide +kernel
theorem dX5_addFirm_48 : decode cX5_addFirm 48 = .ok (.ireturn, 1) := by decide +kernel
theorem dX5_set_0 : decode cX5_set 0 = .ok (.iload_n 1, 1) := by decide +kernel
theorem dX5_set_1 : decode cX5_set 1 = .ok (.ifCond .lt 26, 3) := by decide +kernel
theorem dX5_set_4 : decode cX5_set 4 = .ok (.iload_n 1, 1) := by decide +kernel
theorem dX5_set_5 : decode cX5_set 5 = .ok (.iconst 5, 1) := by decide +kernel
theorem dX5_set_6 : decode cX5_set 6 = .ok (.if_icmp .ge 21, 3) := by decide +kernel
theorem dX5_set_9 : decode cX5_set 9 = .ok (.iload_n 2, 1) := by decide +kernel
theorem dX5_set_10 : decode cX5_set 10 = .ok (.getstatic 55, 3) := by decide +kernel
theorem dX5_set_13 : decode cX5_set 13 = .ok (.iload_n 1, 1) := by decide +kernel
theorem dX5_set_14 : decode cX5_set 14 = .ok (.iaload, 1) := by decide +kernel
theorem dX5_set_15 : decode cX5_set 15 = .ok (.if_icmp .lt 12, 3) := by decide +kernel
theorem dX5_set_18 : decode cX5_set 18 = .ok (.iload_n 2, 1) := by decide +kernel
theorem dX5_set_19 : decode cX5_set 19 = .ok (.getstatic 59, 3) := by decide +kernel
theorem dX5_set_22 : decode cX5_set 22 = .ok (.iload_n 1, 1) := by decide +kernel
theorem dX5_set_23 : decode cX5_set 23 = .ok (.iaload, 1) := by decide +kernel
theorem dX5_set_24 : decode cX5_set 24 = .ok (.if_icmp .le 6, 3) := by decide +kernel
theorem dX5_set_27 : decode cX5_set 27 = .ok (.bipush (-2), 2) := by decide +kernel
theorem dX5_set_29 : decode cX5_set 29 = .ok (.ireturn, 1) := by decide +kernel
theorem dX5_set_30 : decode cX5_set 30 = .ok (.aload_n 0, 1) := by decide +kernel
theorem dX5_set_31 : decode cX5_set 31 = .ok (.getfield 12, 3) := by decide +kernel
theorem dX5_set_34 : decode cX5_set 34 = .ok (.getfield 62, 3) := by decide +kernel
theorem dX5_set_37 : decode cX5_set 37 = .ok (.iload_n 1, 1) := by decide +kernel
theorem dX5_set_38 : decode cX5_set 38 = .ok (.iaload, 1) := by decide +kernel
theorem dX5_set_39 : decode cX5_set 39 = .ok (.istore_n 3, 1) := by decide +kernel
theorem dX5_set_40 : decode cX5_set 40 = .ok (.iload_n 2, 1) := by decide +kernel
theorem dX5_set_41 : decode cX5_set 41 = .ok (.iload_n 3, 1) := by decide +kernel
theorem dX5_set_42 : decode cX5_set 42 = .ok (.if_icmp .ne 6, 3) := by decide +kernel
theorem dX5_set_45 : decode cX5_set 45 = .ok (.bipush (-5), 2) := by decide +kernel
theorem dX5_set_47 : decode cX5_set 47 = .ok (.ireturn, 1) := by decide +kernel
theorem dX5_set_48 : decode cX5_set 48 = .ok (.aload_n 0, 1) := by decide +kernel
theorem dX5_set_49 : decode cX5_set 49 = .ok (.getfield 25, 3) := by decide +kernel
theorem dX5_set_52 : decode cX5_set 52 = .ok (.aload_n 0, 1) := by decide +kernel
theorem dX5_set_53 : decode cX5_set 53 = .ok (.getfield 12, 3) := by decide +kernel
theorem dX5_set_56 : decode cX5_set 56 = .ok (.invokevirtual 51, 3) := by decide +kernel
theorem dX5_set_59 : decode cX5_set 59 = .ok (.aload_n 0, 1) := by decide +kernel
theorem dX5_set_60 : decode cX5_set 60 = .ok (.getfield 12, 3) := by decide +kernel
theorem dX5_set_63 : decode cX5_set 63 = .ok (.getfield 62, 3) := by decide +kernel
theorem dX5_set_66 : decode cX5_set 66 = .ok (.iload_n 1, 1) := by decide +kernel
theorem dX5_set_67 : decode cX5_set 67 = .ok (.iload_n 2, 1) := by decide +kernel
theorem dX5_set_68 : decode cX5_set 68 = .ok (.iastore, 1) := by decide +kernel
theorem dX5_set_69 : decode cX5_set 69 = .ok (.iload_n 3, 1) := by decide +kernel
theorem dX5_set_70 : decode cX5_set 70 = .ok (.ireturn, 1) := by decide +kernel
theorem dX5_issue_0 : decode cX5_issue 0 = .ok (.aload_n 0, 1) := by decide +kernel
theorem dX5_issue_1 : decode cX5_issue 1 = .ok (.getfield 12, 3) := by decide +kernel
theorem dX5_issue_4 : decode cX5_issue 4 = .ok (.iload_n 1, 1) := by decide +kernel
theorem dX5_issue_5 : decode cX5_issue 5 = .ok (.invokevirtual 65, 3) := by decide +kernel
theorem dX5_issue_8 : decode cX5_issue 8 = .ok (.astore_n 3, 1) := by decide +kernel
theorem dX5_issue_9 : decode cX5_issue 9 = .ok (.aload_n 3, 1) := by decide +kernel
theorem dX5_issue_10 : decode cX5_issue 10 = .ok (.ifnonnull 5, 3) := by decide +kernel
theorem dX5_issue_13 : decode cX5_issue 13 = .ok (.iconst (-1), 1) := by decide +kernel
theorem dX5_issue_14 : decode cX5_issue 14 = .ok (.ireturn, 1) := by decide +kernel
theorem dX5_issue_15 : decode cX5_issue 15 = .ok (.iload_n 2, 1) := by decide +kernel
theorem dX5_issue_16 : decode cX5_issue 16 = .ok (.invokestatic 69, 3) := by decide +kernel
theorem dX5_issue_19 : decode cX5_issue 19 = .ok (.ifCond .ne 6, 3) := by decide +kernel
theorem dX5_issue_22 : decode cX5_issue 22 = .ok (.bipush (-2), 2) := by decide +kernel
theorem dX5_issue_24 : decode cX5_issue 24 = .ok (.ireturn, 1) := by decide +kernel
theorem dX5_issue_25 : decode cX5_issue 25 = .ok (.aload_n 0, 1) := by decide +kernel
theorem dX5_issue_26 : decode cX5_issue 26 = .ok (.getfield 25, 3) := by decide +kernel
theorem dX5_issue_29 : decode cX5_issue 29 = .ok (.aload_n 0, 1) := by decide +kernel
theorem dX5_issue_30 : decode cX5_issue 30 = .ok (.getfield 12, 3) := by decide +kernel
theorem dX5_issue_33 : decode cX5_issue 33 = .ok (.invokevirtual 51, 3) := by decide +kernel
theorem dX5_issue_36 : decode cX5_issue 36 = .ok (.aload_n 0, 1) := by decide +kernel
theorem dX5_issue_37 : decode cX5_issue 37 = .ok (.getfield 12, 3) := by decide +kernel
theorem dX5_issue_40 : decode cX5_issue 40 = .ok (.invokevirtual 73, 3) := by decide +kernel
theorem dX5_issue_43 : decode cX5_issue 43 = .ok (.istore 4, 2) := by decide +kernel
theorem dX5_issue_45 : decode cX5_issue 45 = .ok (.aload_n 3, 1) := by decide +kernel
theorem dX5_issue_46 : decode cX5_issue 46 = .ok (.getfield 77, 3) := by decide +kernel
theorem dX5_issue_49 : decode cX5_issue 49 = .ok (.iload 4, 2) := by decide +kernel
theorem dX5_issue_51 : decode cX5_issue 51 = .ok (.dup2, 1) := by decide +kernel
theorem dX5_issue_52 : decode cX5_issue 52 = .ok (.iaload, 1) := by decide +kernel
theorem dX5_issue_53 : decode cX5_issue 53 = .ok (.iload_n 2, 1) := by decide +kernel
theorem dX5_issue_54 : decode cX5_issue 54 = .ok (.iadd, 1) := by decide +kernel
theorem dX5_issue_55 : decode cX5_issue 55 = .ok (.iastore, 1) := by decide +kernel
theorem dX5_issue_56 : decode cX5_issue 56 = .ok (.aload_n 0, 1) := by decide +kernel
theorem dX5_issue_57 : decode cX5_issue 57 = .ok (.getfield 12, 3) := by decide +kernel
theorem dX5_issue_60 : decode cX5_issue 60 = .ok (.getfield 82, 3) := by decide +kernel
theorem dX5_issue_63 : decode cX5_issue 63 = .ok (.iload 4, 2) := by decide +kernel
theorem dX5_issue_65 : decode cX5_issue 65 = .ok (.dup2, 1) := by decide +kernel
theorem dX5_issue_66 : decode cX5_issue 66 = .ok (.iaload, 1) := by decide +kernel
theorem dX5_issue_67 : decode cX5_issue 67 = .ok (.iload_n 2, 1) := by decide +kernel
theorem dX5_issue_68 : decode cX5_issue 68 = .ok (.iadd, 1) := by decide +kernel
theorem dX5_issue_69 : decode cX5_issue 69 = .ok (.iastore, 1) := by decide +kernel
theorem dX5_issue_70 : decode cX5_issue 70 = .ok (.aload_n 3, 1) := by decide +kernel
theorem dX5_issue_71 : decode cX5_issue 71 = .ok (.getfield 77, 3) := by decide +kernel
theorem dX5_issue_74 : decode cX5_issue 74 = .ok (.iload 4, 2) := by decide +kernel
theorem dX5_issue_76 : decode cX5_issue 76 = .ok (.iaload, 1) := by decide +kernel
theorem dX5_issue_77 : decode cX5_issue 77 = .ok (.ireturn, 1) := by decide +kernel
theorem dX5_issueOffsets_0 : decode cX5_issueOffsets 0 = .ok (.aload_n 0, 1) := by decide +kernel
theorem dX5_issueOffsets_1 : decode cX5_issueOffsets 1 = .ok (.getfield 12, 3) := by decide +kernel
theorem dX5_issueOffsets_4 : decode cX5_issueOffsets 4 = .ok (.iload_n 1, 1) := by decide +kernel
theorem dX5_issueOffsets_5 : decode cX5_issueOffsets 5 = .ok (.invokevirtual 65, 3) := by decide +kernel
theorem dX5_issueOffsets_8 : decode cX5_issueOffsets 8 = .ok (.astore 4, 2) := by decide +kernel
theorem dX5_issueOffsets_10 : decode cX5_issueOffsets 10 = .ok (.aload 4, 2) := by decide +kernel
theorem dX5_issueOffsets_12 : decode cX5_issueOffsets 12 = .ok (.ifnull 10, 3) := by decide +kernel
theorem dX5_issueOffsets_15 : decode cX5_issueOffsets 15 = .ok (.iload_n 2, 1) := by decide +kernel
theorem dX5_issueOffsets_16 : decode cX5_issueOffsets 16 = .ok (.invokestatic 85, 3) := by decide +kernel
theorem dX5_issueOffsets_19 : decode cX5_issueOffsets 19 = .ok (.ifCond .ne 5, 3) := by decide +kernel
theorem dX5_issueOffsets_22 : decode cX5_issueOffsets 22 = .ok (.iconst (-1), 1) := by decide +kernel
theorem dX5_issueOffsets_23 : decode cX5_issueOffsets 23 = .ok (.ireturn, 1) := by decide +kernel
theorem dX5_issueOffsets_24 : decode cX5_issueOffsets 24 = .ok (.iload_n 3, 1) := by decide +kernel
theorem dX5_issueOffsets_25 : decode cX5_issueOffsets 25 = .ok (.invokestatic 69, 3) := by decide +kernel
theorem dX5_issueOffsets_28 : decode cX5_issueOffsets 28 = .ok (.ifCond .ne 6, 3) := by decide +kernel
theorem dX5_issueOffsets_31 : decode cX5_issueOffsets 31 = .ok (.bipush (-2), 2) := by decide +kernel
theorem dX5_issueOffsets_33 : decode cX5_issueOffsets 33 = .ok (.ireturn, 1) := by decide +kernel
theorem dX5_issueOffsets_34 : decode cX5_issueOffsets 34 = .ok (.aload_n 0, 1) := by decide +kernel
theorem dX5_issueOffsets_35 : decode cX5_issueOffsets 35 = .ok (.getfield 25, 3) := by decide +kernel
theorem dX5_issueOffsets_38 : decode cX5_issueOffsets 38 = .ok (.aload_n 0, 1) := by decide +kernel
theorem dX5_issueOffsets_39 : decode cX5_issueOffsets 39 = .ok (.getfield 12, 3) := by decide +kernel
theorem dX5_issueOffsets_42 : decode cX5_issueOffsets 42 = .ok (.invokevirtual 51, 3) := by decide +kernel
theorem dX5_issueOffsets_45 : decode cX5_issueOffsets 45 = .ok (.aload 4, 2) := by decide +kernel
theorem dX5_issueOffsets_47 : decode cX5_issueOffsets 47 = .ok (.getfield 88, 3) := by decide +kernel
theorem dX5_issueOffsets_50 : decode cX5_issueOffsets 50 = .ok (.iload_n 2, 1) := by decide +kernel
theorem dX5_issueOffsets_51 : decode cX5_issueOffsets 51 = .ok (.dup2, 1) := by decide +kernel
theorem dX5_issueOffsets_52 : decode cX5_issueOffsets 52 = .ok (.iaload, 1) := by decide +kernel
theorem dX5_issueOffsets_53 : decode cX5_issueOffsets 53 = .ok (.iload_n 3, 1) := by decide +kernel
theorem dX5_issueOffsets_54 : decode cX5_issueOffsets 54 = .ok (.iadd, 1) := by decide +kernel
theorem dX5_issueOffsets_55 : decode cX5_issueOffsets 55 = .ok (.iastore, 1) := by decide +kernel
theorem dX5_issueOffsets_56 : decode cX5_issueOffsets 56 = .ok (.aload_n 0, 1) := by decide +kernel
theorem dX5_issueOffsets_57 : decode cX5_issueOffsets 57 = .ok (.getfield 12, 3) := by decide +kernel
theorem dX5_issueOffsets_60 : decode cX5_issueOffsets 60 = .ok (.getfield 91, 3) := by decide +kernel
theorem dX5_issueOffsets_63 : decode cX5_issueOffsets 63 = .ok (.iload_n 2, 1) := by decide +kernel
theorem dX5_issueOffsets_64 : decode cX5_issueOffsets 64 = .ok (.dup2, 1) := by decide +kernel
theorem dX5_issueOffsets_65 : decode cX5_issueOffsets 65 = .ok (.iaload, 1) := by decide +kernel
theorem dX5_issueOffsets_66 : decode cX5_issueOffsets 66 = .ok (.iload_n 3, 1) := by decide +kernel
theorem dX5_issueOffsets_67 : decode cX5_issueOffsets 67 = .ok (.iadd, 1) := by decide +kernel
theorem dX5_issueOffsets_68 : decode cX5_issueOffsets 68 = .ok (.iastore, 1) := by decide +kernel
theorem dX5_issueOffsets_69 : decode cX5_issueOffsets 69 = .ok (.aload 4, 2) := by decide +kernel
theorem dX5_issueOffsets_71 : decode cX5_issueOffsets 71 = .ok (.getfield 88, 3) := by decide +kernel
theorem dX5_issueOffsets_74 : decode cX5_issueOffsets 74 = .ok (.iload_n 2, 1) := by decide +kernel
theorem dX5_issueOffsets_75 : decode cX5_issueOffsets 75 = .ok (.iaload, 1) := by decide +kernel
theorem dX5_issueOffsets_76 : decode cX5_issueOffsets 76 = .ok (.ireturn, 1) := by decide +kernel
theorem dX5_transfer_0 : decode cX5_transfer 0 = .ok (.aload_n 0, 1) := by decide +kernel
theorem dX5_transfer_1 : decode cX5_transfer 1 = .ok (.getfield 12, 3) := by decide +kernel
theorem dX5_transfer_4 : decode cX5_transfer 4 = .ok (.iload_n 1, 1) := by decide +kernel
theorem dX5_transfer_5 : decode cX5_transfer 5 = .ok (.iload_n 2, 1) := by decide +kernel
theorem dX5_transfer_6 : decode cX5_transfer 6 = .ok (.iload_n 3, 1) := by decide +kernel
theorem dX5_transfer_7 : decode cX5_transfer 7 = .ok (.iload 4, 2) := by decide +kernel
theorem dX5_transfer_9 : decode cX5_transfer 9 = .ok (.invokevirtual 94, 3) := by decide +kernel
theorem dX5_transfer_12 : decode cX5_transfer 12 = .ok (.istore 5, 2) := by decide +kernel
theorem dX5_transfer_14 : decode cX5_transfer 14 = .ok (.iload 5, 2) := by decide +kernel
theorem dX5_transfer_16 : decode cX5_transfer 16 = .ok (.ifCond .eq 6, 3) := by decide +kernel
theorem dX5_transfer_19 : decode cX5_transfer 19 = .ok (.iload 5, 2) := by decide +kernel
theorem dX5_transfer_21 : decode cX5_transfer 21 = .ok (.ireturn, 1) := by decide +kernel
theorem dX5_transfer_22 : decode cX5_transfer 22 = .ok (.aload_n 0, 1) := by decide +kernel
theorem dX5_transfer_23 : decode cX5_transfer 23 = .ok (.getfield 25, 3) := by decide +kernel
theorem dX5_transfer_26 : decode cX5_transfer 26 = .ok (.aload_n 0, 1) := by decide +kernel
theorem dX5_transfer_27 : decode cX5_transfer 27 = .ok (.getfield 12, 3) := by decide +kernel
theorem dX5_transfer_30 : decode cX5_transfer 30 = .ok (.invokevirtual 51, 3) := by decide +kernel
theorem dX5_transfer_33 : decode cX5_transfer 33 = .ok (.aload_n 0, 1) := by decide +kernel
theorem dX5_transfer_34 : decode cX5_transfer 34 = .ok (.getfield 12, 3) := by decide +kernel
theorem dX5_transfer_37 : decode cX5_transfer 37 = .ok (.iload_n 1, 1) := by decide +kernel
theorem dX5_transfer_38 : decode cX5_transfer 38 = .ok (.iload_n 2, 1) := by decide +kernel
theorem dX5_transfer_39 : decode cX5_transfer 39 = .ok (.iload_n 3, 1) := by decide +kernel
theorem dX5_transfer_40 : decode cX5_transfer 40 = .ok (.iload 4, 2) := by decide +kernel
theorem dX5_transfer_42 : decode cX5_transfer 42 = .ok (.invokevirtual 98, 3) := by decide +kernel
theorem dX5_transfer_45 : decode cX5_transfer 45 = .ok (.ireturn, 1) := by decide +kernel
theorem dX5_transferOffsets_0 : decode cX5_transferOffsets 0 = .ok (.aload_n 0, 1) := by decide +kernel
theorem dX5_transferOffsets_1 : decode cX5_transferOffsets 1 = .ok (.getfield 12, 3) := by decide +kernel
theorem dX5_transferOffsets_4 : decode cX5_transferOffsets 4 = .ok (.iload_n 1, 1) := by decide +kernel
theorem dX5_transferOffsets_5 : decode cX5_transferOffsets 5 = .ok (.invokevirtual 65, 3) := by decide +kernel
theorem dX5_transferOffsets_8 : decode cX5_transferOffsets 8 = .ok (.astore 5, 2) := by decide +kernel
theorem dX5_transferOffsets_10 : decode cX5_transferOffsets 10 = .ok (.aload_n 0, 1) := by decide +kernel
theorem dX5_transferOffsets_11 : decode cX5_transferOffsets 11 = .ok (.getfield 12, 3) := by decide +kernel
theorem dX5_transferOffsets_14 : decode cX5_transferOffsets 14 = .ok (.iload_n 2, 1) := by decide +kernel
theorem dX5_transferOffsets_15 : decode cX5_transferOffsets 15 = .ok (.invokevirtual 65, 3) := by decide +kernel
theorem dX5_transferOffsets_18 : decode cX5_transferOffsets 18 = .ok (.astore 6, 2) := by decide +kernel
theorem dX5_transferOffsets_20 : decode cX5_transferOffsets 20 = .ok (.aload 5, 2) := by decide +kernel
theorem dX5_transferOffsets_22 : decode cX5_transferOffsets 22 = .ok (.ifnull 15, 3) := by decide +kernel
theorem dX5_transferOffsets_25 : decode cX5_transferOffsets 25 = .ok (.aload 6, 2) := by decide +kernel
theorem dX5_transferOffsets_27 : decode cX5_transferOffsets 27 = .ok (.ifnull 10, 3) := by decide +kernel
theorem dX5_transferOffsets_30 : decode cX5_transferOffsets 30 = .ok (.iload_n 3, 1) := by decide +kernel
theorem dX5_transferOffsets_31 : decode cX5_transferOffsets 31 = .ok (.invokestatic 85, 3) := by decide +kernel
theorem dX5_transferOffsets_34 : decode cX5_transferOffsets 34 = .ok (.ifCond .ne 5, 3) := by decide +kernel
theorem dX5_transferOffsets_37 : decode cX5_transferOffsets 37 = .ok (.iconst (-1), 1) := by decide +kernel
theorem dX5_transferOffsets_38 : decode cX5_transferOffsets 38 = .ok (.ireturn, 1) := by decide +kernel
theorem dX5_transferOffsets_39 : decode cX5_transferOffsets 39 = .ok (.iload 4, 2) := by decide +kernel
theorem dX5_transferOffsets_41 : decode cX5_transferOffsets 41 = .ok (.invokestatic 69, 3) := by decide +kernel
theorem dX5_transferOffsets_44 : decode cX5_transferOffsets 44 = .ok (.ifCond .eq 8, 3) := by decide +kernel
theorem dX5_transferOffsets_47 : decode cX5_transferOffsets 47 = .ok (.iload_n 1, 1) := by decide +kernel
theorem dX5_transferOffsets_48 : decode cX5_transferOffsets 48 = .ok (.iload_n 2, 1) := by decide +kernel
theorem dX5_transferOffsets_49 : decode cX5_transferOffsets 49 = .ok (.if_icmp .ne 6, 3) := by decide +kernel
theorem dX5_transferOffsets_52 : decode cX5_transferOffsets 52 = .ok (.bipush (-2), 2) := by decide +kernel
theorem dX5_transferOffsets_54 : decode cX5_transferOffsets 54 = .ok (.ireturn, 1) := by decide +kernel
theorem dX5_transferOffsets_55 : decode cX5_transferOffsets 55 = .ok (.aload 5, 2) := by decide +kernel
theorem dX5_transferOffsets_57 : decode cX5_transferOffsets 57 = .ok (.getfield 88, 3) := by decide +kernel
theorem dX5_transferOffsets_60 : decode cX5_transferOffsets 60 = .ok (.iload_n 3, 1) := by decide +kernel
theorem dX5_transferOffsets_61 : decode cX5_transferOffsets 61 = .ok (.iaload, 1) := by decide +kernel
theorem dX5_transferOffsets_62 : decode cX5_transferOffsets 62 = .ok (.iload 4, 2) := by decide +kernel
theorem dX5_transferOffsets_64 : decode cX5_transferOffsets 64 = .ok (.if_icmp .ge 6, 3) := by decide +kernel
theorem dX5_transferOffsets_67 : decode cX5_transferOffsets 67 = .ok (.bipush (-4), 2) := by decide +kernel
theorem dX5_transferOffsets_69 : decode cX5_transferOffsets 69 = .ok (.ireturn, 1) := by decide +kernel
theorem dX5_transferOffsets_70 : decode cX5_transferOffsets 70 = .ok (.aload_n 0, 1) := by decide +kernel
theorem dX5_transferOffsets_71 : decode cX5_transferOffsets 71 = .ok (.getfield 25, 3) := by decide +kernel
theorem dX5_transferOffsets_74 : decode cX5_transferOffsets 74 = .ok (.aload_n 0, 1) := by decide +kernel
theorem dX5_transferOffsets_75 : decode cX5_transferOffsets 75 = .ok (.getfield 12, 3) := by decide +kernel
theorem dX5_transferOffsets_78 : decode cX5_transferOffsets 78 = .ok (.invokevirtual 51, 3) := by decide +kernel
theorem dX5_transferOffsets_81 : decode cX5_transferOffsets 81 = .ok (.aload 5, 2) := by decide +kernel
theorem dX5_transferOffsets_83 : decode cX5_transferOffsets 83 = .ok (.getfield 88, 3) := by decide +kernel
theorem dX5_transferOffsets_86 : decode cX5_transferOffsets 86 = .ok (.iload_n 3, 1) := by decide +kernel
theorem dX5_transferOffsets_87 : decode cX5_transferOffsets 87 = .ok (.dup2, 1) := by decide +kernel
theorem dX5_transferOffsets_88 : decode cX5_transferOffsets 88 = .ok (.iaload, 1) := by decide +kernel
theorem dX5_transferOffsets_89 : decode cX5_transferOffsets 89 = .ok (.iload 4, 2) := by decide +kernel
theorem dX5_transferOffsets_91 : decode cX5_transferOffsets 91 = .ok (.isub, 1) := by decide +kernel
theorem dX5_transferOffsets_92 : decode cX5_transferOffsets 92 = .ok (.iastore, 1) := by decide +kernel
theorem dX5_transferOffsets_93 : decode cX5_transferOffsets 93 = .ok (.aload 6, 2) := by decide +kernel
theorem dX5_transferOffsets_95 : decode cX5_transferOffsets 95 = .ok (.getfield 88, 3) := by decide +kernel
theorem dX5_transferOffsets_98 : decode cX5_transferOffsets 98 = .ok (.iload_n 3, 1) := by decide +kernel
theorem dX5_transferOffsets_99 : decode cX5_transferOffsets 99 = .ok (.dup2, 1) := by decide +kernel
theorem dX5_transferOffsets_100 : decode cX5_transferOffsets 100 = .ok (.iaload, 1) := by decide +kernel
theorem dX5_transferOffsets_101 : decode cX5_transferOffsets 101 = .ok (.iload 4, 2) := by decide +kernel
theorem dX5_transferOffsets_103 : decode cX5_transferOffsets 103 = .ok (.iadd, 1) := by decide +kernel
theorem dX5_transferOffsets_104 : decode cX5_transferOffsets 104 = .ok (.iastore, 1) := by decide +kernel
theorem dX5_transferOffsets_105 : decode cX5_transferOffsets 105 = .ok (.aload 5, 2) := by decide +kernel
theorem dX5_transferOffsets_107 : decode cX5_transferOffsets 107 = .ok (.getfield 88, 3) := by decide +kernel
theorem dX5_transferOffsets_110 : decode cX5_transferOffsets 110 = .ok (.iload_n 3, 1) := by decide +kernel
theorem dX5_transferOffsets_111 : decode cX5_transferOffsets 111 = .ok (.iaload, 1) := by decide +kernel
theorem dX5_transferOffsets_112 : decode cX5_transferOffsets 112 = .ok (.ireturn, 1) := by decide +kernel
theorem dX5_cancel_0 : decode cX5_cancel 0 = .ok (.aload_n 0, 1) := by decide +kernel
theorem dX5_cancel_1 : decode cX5_cancel 1 = .ok (.getfield 12, 3) := by decide +kernel
theorem dX5_cancel_4 : decode cX5_cancel 4 = .ok (.iload_n 1, 1) := by decide +kernel
theorem dX5_cancel_5 : decode cX5_cancel 5 = .ok (.invokevirtual 65, 3) := by decide +kernel
theorem dX5_cancel_8 : decode cX5_cancel 8 = .ok (.astore 4, 2) := by decide +kernel
theorem dX5_cancel_10 : decode cX5_cancel 10 = .ok (.aload 4, 2) := by decide +kernel
theorem dX5_cancel_12 : decode cX5_cancel 12 = .ok (.ifnull 10, 3) := by decide +kernel
theorem dX5_cancel_15 : decode cX5_cancel 15 = .ok (.iload_n 2, 1) := by decide +kernel
theorem dX5_cancel_16 : decode cX5_cancel 16 = .ok (.invokestatic 101, 3) := by decide +kernel
theorem dX5_cancel_19 : decode cX5_cancel 19 = .ok (.ifCond .ne 5, 3) := by decide +kernel
theorem dX5_cancel_22 : decode cX5_cancel 22 = .ok (.iconst (-1), 1) := by decide +kernel
theorem dX5_cancel_23 : decode cX5_cancel 23 = .ok (.ireturn, 1) := by decide +kernel
theorem dX5_cancel_24 : decode cX5_cancel 24 = .ok (.iload_n 3, 1) := by decide +kernel
theorem dX5_cancel_25 : decode cX5_cancel 25 = .ok (.invokestatic 69, 3) := by decide +kernel
theorem dX5_cancel_28 : decode cX5_cancel 28 = .ok (.ifCond .ne 6, 3) := by decide +kernel
theorem dX5_cancel_31 : decode cX5_cancel 31 = .ok (.bipush (-2), 2) := by decide +kernel
theorem dX5_cancel_33 : decode cX5_cancel 33 = .ok (.ireturn, 1) := by decide +kernel
theorem dX5_cancel_34 : decode cX5_cancel 34 = .ok (.aload 4, 2) := by decide +kernel
theorem dX5_cancel_36 : decode cX5_cancel 36 = .ok (.getfield 77, 3) := by decide +kernel
theorem dX5_cancel_39 : decode cX5_cancel 39 = .ok (.iload_n 2, 1) := by decide +kernel
theorem dX5_cancel_40 : decode cX5_cancel 40 = .ok (.iaload, 1) := by decide +kernel
theorem dX5_cancel_41 : decode cX5_cancel 41 = .ok (.iload_n 3, 1) := by decide +kernel
theorem dX5_cancel_42 : decode cX5_cancel 42 = .ok (.if_icmp .ge 6, 3) := by decide +kernel
theorem dX5_cancel_45 : decode cX5_cancel 45 = .ok (.bipush (-4), 2) := by decide +kernel
theorem dX5_cancel_47 : decode cX5_cancel 47 = .ok (.ireturn, 1) := by decide +kernel
theorem dX5_cancel_48 : decode cX5_cancel 48 = .ok (.aload_n 0, 1) := by decide +kernel
theorem dX5_cancel_49 : decode cX5_cancel 49 = .ok (.getfield 25, 3) := by decide +kernel
theorem dX5_cancel_52 : decode cX5_cancel 52 = .ok (.aload_n 0, 1) := by decide +kernel
theorem dX5_cancel_53 : decode cX5_cancel 53 = .ok (.getfield 12, 3) := by decide +kernel
theorem dX5_cancel_56 : decode cX5_cancel 56 = .ok (.invokevirtual 51, 3) := by decide +kernel
theorem dX5_cancel_59 : decode cX5_cancel 59 = .ok (.aload 4, 2) := by decide +kernel
theorem dX5_cancel_61 : decode cX5_cancel 61 = .ok (.getfield 77, 3) := by decide +kernel
theorem dX5_cancel_64 : decode cX5_cancel 64 = .ok (.iload_n 2, 1) := by decide +kernel
theorem dX5_cancel_65 : decode cX5_cancel 65 = .ok (.dup2, 1) := by decide +kernel
theorem dX5_cancel_66 : decode cX5_cancel 66 = .ok (.iaload, 1) := by decide +kernel
theorem dX5_cancel_67 : decode cX5_cancel 67 = .ok (.iload_n 3, 1) := by decide +kernel
theorem dX5_cancel_68 : decode cX5_cancel 68 = .ok (.isub, 1) := by decide +kernel
theorem dX5_cancel_69 : decode cX5_cancel 69 = .ok (.iastore, 1) := by decide +kernel
theorem dX5_cancel_70 : decode cX5_cancel 70 = .ok (.aload_n 0, 1) := by decide +kernel
theorem dX5_cancel_71 : decode cX5_cancel 71 = .ok (.getfield 12, 3) := by decide +kernel
theorem dX5_cancel_74 : decode cX5_cancel 74 = .ok (.getfield 104, 3) := by decide +kernel
theorem dX5_cancel_77 : decode cX5_cancel 77 = .ok (.iload_n 2, 1) := by decide +kernel
theorem dX5_cancel_78 : decode cX5_cancel 78 = .ok (.dup2, 1) := by decide +kernel
theorem dX5_cancel_79 : decode cX5_cancel 79 = .ok (.iaload, 1) := by decide +kernel
theorem dX5_cancel_80 : decode cX5_cancel 80 = .ok (.iload_n 3, 1) := by decide +kernel
theorem dX5_cancel_81 : decode cX5_cancel 81 = .ok (.iadd, 1) := by decide +kernel
theorem dX5_cancel_82 : decode cX5_cancel 82 = .ok (.iastore, 1) := by decide +kernel
theorem dX5_cancel_83 : decode cX5_cancel 83 = .ok (.aload 4, 2) := by decide +kernel
theorem dX5_cancel_85 : decode cX5_cancel 85 = .ok (.getfield 77, 3) := by decide +kernel
theorem dX5_cancel_88 : decode cX5_cancel 88 = .ok (.iload_n 2, 1) := by decide +kernel
theorem dX5_cancel_89 : decode cX5_cancel 89 = .ok (.iaload, 1) := by decide +kernel
theorem dX5_cancel_90 : decode cX5_cancel 90 = .ok (.ireturn, 1) := by decide +kernel
theorem dX5_report_0 : decode cX5_report 0 = .ok (.aload_n 0, 1) := by decide +kernel
theorem dX5_report_1 : decode cX5_report 1 = .ok (.getfield 12, 3) := by decide +kernel
theorem dX5_report_4 : decode cX5_report 4 = .ok (.iload_n 1, 1) := by decide +kernel
theorem dX5_report_5 : decode cX5_report 5 = .ok (.invokevirtual 65, 3) := by decide +kernel
theorem dX5_report_8 : decode cX5_report 8 = .ok (.astore_n 3, 1) := by decide +kernel
theorem dX5_report_9 : decode cX5_report 9 = .ok (.aload_n 3, 1) := by decide +kernel
theorem dX5_report_10 : decode cX5_report 10 = .ok (.ifnonnull 5, 3) := by decide +kernel
theorem dX5_report_13 : decode cX5_report 13 = .ok (.iconst (-1), 1) := by decide +kernel
theorem dX5_report_14 : decode cX5_report 14 = .ok (.ireturn, 1) := by decide +kernel
theorem dX5_report_15 : decode cX5_report 15 = .ok (.iload_n 2, 1) := by decide +kernel
theorem dX5_report_16 : decode cX5_report 16 = .ok (.invokestatic 69, 3) := by decide +kernel
theorem dX5_report_19 : decode cX5_report 19 = .ok (.ifCond .ne 6, 3) := by decide +kernel
theorem dX5_report_22 : decode cX5_report 22 = .ok (.bipush (-2), 2) := by decide +kernel
theorem dX5_report_24 : decode cX5_report 24 = .ok (.ireturn, 1) := by decide +kernel
theorem dX5_report_25 : decode cX5_report 25 = .ok (.aload_n 3, 1) := by decide +kernel
theorem dX5_report_26 : decode cX5_report 26 = .ok (.getfield 107, 3) := by decide +kernel
theorem dX5_report_29 : decode cX5_report 29 = .ok (.aload_n 3, 1) := by decide +kernel
theorem dX5_report_30 : decode cX5_report 30 = .ok (.getfield 110, 3) := by decide +kernel
theorem dX5_report_33 : decode cX5_report 33 = .ok (.iadd, 1) := by decide +kernel
theorem dX5_report_34 : decode cX5_report 34 = .ok (.iload_n 2, 1) := by decide +kernel
theorem dX5_report_35 : decode cX5_report 35 = .ok (.iadd, 1) := by decide +kernel
theorem dX5_report_36 : decode cX5_report 36 = .ok (.sipush 9999, 3) := by decide +kernel
theorem dX5_report_39 : decode cX5_report 39 = .ok (.if_icmp .le 6, 3) := by decide +kernel
theorem dX5_report_42 : decode cX5_report 42 = .ok (.bipush (-3), 2) := by decide +kernel
theorem dX5_report_44 : decode cX5_report 44 = .ok (.ireturn, 1) := by decide +kernel
theorem dX5_report_45 : decode cX5_report 45 = .ok (.aload_n 0, 1) := by decide +kernel
theorem dX5_report_46 : decode cX5_report 46 = .ok (.getfield 25, 3) := by decide +kernel
theorem dX5_report_49 : decode cX5_report 49 = .ok (.aload_n 0, 1) := by decide +kernel
theorem dX5_report_50 : decode cX5_report 50 = .ok (.getfield 12, 3) := by decide +kernel
theorem dX5_report_53 : decode cX5_report 53 = .ok (.invokevirtual 51, 3) := by decide +kernel
theorem dX5_report_56 : decode cX5_report 56 = .ok (.aload_n 3, 1) := by decide +kernel
theorem dX5_report_57 : decode cX5_report 57 = .ok (.dup, 1) := by decide +kernel
theorem dX5_report_58 : decode cX5_report 58 = .ok (.getfield 107, 3) := by decide +kernel
theorem dX5_report_61 : decode cX5_report 61 = .ok (.iload_n 2, 1) := by decide +kernel
theorem dX5_report_62 : decode cX5_report 62 = .ok (.iadd, 1) := by decide +kernel
theorem dX5_report_63 : decode cX5_report 63 = .ok (.putfield 107, 3) := by decide +kernel
theorem dX5_report_66 : decode cX5_report 66 = .ok (.aload_n 3, 1) := by decide +kernel
theorem dX5_report_67 : decode cX5_report 67 = .ok (.getfield 107, 3) := by decide +kernel
theorem dX5_report_70 : decode cX5_report 70 = .ok (.ireturn, 1) := by decide +kernel
theorem dX5_verify_0 : decode cX5_verify 0 = .ok (.aload_n 0, 1) := by decide +kernel
theorem dX5_verify_1 : decode cX5_verify 1 = .ok (.getfield 12, 3) := by decide +kernel
theorem dX5_verify_4 : decode cX5_verify 4 = .ok (.iload_n 1, 1) := by decide +kernel
theorem dX5_verify_5 : decode cX5_verify 5 = .ok (.invokevirtual 65, 3) := by decide +kernel
theorem dX5_verify_8 : decode cX5_verify 8 = .ok (.astore_n 2, 1) := by decide +kernel
theorem dX5_verify_9 : decode cX5_verify 9 = .ok (.aload_n 2, 1) := by decide +kernel
theorem dX5_verify_10 : decode cX5_verify 10 = .ok (.ifnonnull 5, 3) := by decide +kernel
theorem dX5_verify_13 : decode cX5_verify 13 = .ok (.iconst (-1), 1) := by decide +kernel
theorem dX5_verify_14 : decode cX5_verify 14 = .ok (.ireturn, 1) := by decide +kernel
theorem dX5_verify_15 : decode cX5_verify 15 = .ok (.aload_n 2, 1) := by decide +kernel
theorem dX5_verify_16 : decode cX5_verify 16 = .ok (.getfield 107, 3) := by decide +kernel
theorem dX5_verify_19 : decode cX5_verify 19 = .ok (.ifCond .ne 6, 3) := by decide +kernel
theorem dX5_verify_22 : decode cX5_verify 22 = .ok (.bipush (-5), 2) := by decide +kernel
theorem dX5_verify_24 : decode cX5_verify 24 = .ok (.ireturn, 1) := by decide +kernel
theorem dX5_verify_25 : decode cX5_verify 25 = .ok (.aload_n 0, 1) := by decide +kernel
theorem dX5_verify_26 : decode cX5_verify 26 = .ok (.getfield 25, 3) := by decide +kernel
theorem dX5_verify_29 : decode cX5_verify 29 = .ok (.aload_n 0, 1) := by decide +kernel
theorem dX5_verify_30 : decode cX5_verify 30 = .ok (.getfield 12, 3) := by decide +kernel
theorem dX5_verify_33 : decode cX5_verify 33 = .ok (.invokevirtual 51, 3) := by decide +kernel
theorem dX5_verify_36 : decode cX5_verify 36 = .ok (.aload_n 2, 1) := by decide +kernel
theorem dX5_verify_37 : decode cX5_verify 37 = .ok (.dup, 1) := by decide +kernel
theorem dX5_verify_38 : decode cX5_verify 38 = .ok (.getfield 110, 3) := by decide +kernel
theorem dX5_verify_41 : decode cX5_verify 41 = .ok (.aload_n 2, 1) := by decide +kernel
theorem dX5_verify_42 : decode cX5_verify 42 = .ok (.getfield 107, 3) := by decide +kernel
theorem dX5_verify_45 : decode cX5_verify 45 = .ok (.iadd, 1) := by decide +kernel
theorem dX5_verify_46 : decode cX5_verify 46 = .ok (.putfield 110, 3) := by decide +kernel
theorem dX5_verify_49 : decode cX5_verify 49 = .ok (.aload_n 2, 1) := by decide +kernel
theorem dX5_verify_50 : decode cX5_verify 50 = .ok (.iconst 0, 1) := by decide +kernel
theorem dX5_verify_51 : decode cX5_verify 51 = .ok (.putfield 107, 3) := by decide +kernel
theorem dX5_verify_54 : decode cX5_verify 54 = .ok (.aload_n 2, 1) := by decide +kernel
theorem dX5_verify_55 : decode cX5_verify 55 = .ok (.getfield 110, 3) := by decide +kernel
theorem dX5_verify_58 : decode cX5_verify 58 = .ok (.ireturn, 1) := by decide +kernel
theorem dX5_surrender_0 : decode cX5_surrender 0 = .ok (.aload_n 0, 1) := by decide +kernel
theorem dX5_surrender_1 : decode cX5_surrender 1 = .ok (.getfield 12, 3) := by decide +kernel
theorem dX5_surrender_4 : decode cX5_surrender 4 = .ok (.iload_n 1, 1) := by decide +kernel
theorem dX5_surrender_5 : decode cX5_surrender 5 = .ok (.invokevirtual 65, 3) := by decide +kernel
theorem dX5_surrender_8 : decode cX5_surrender 8 = .ok (.astore 4, 2) := by decide +kernel
theorem dX5_surrender_10 : decode cX5_surrender 10 = .ok (.aload 4, 2) := by decide +kernel
theorem dX5_surrender_12 : decode cX5_surrender 12 = .ok (.ifnonnull 5, 3) := by decide +kernel
theorem dX5_surrender_15 : decode cX5_surrender 15 = .ok (.iconst (-1), 1) := by decide +kernel
theorem dX5_surrender_16 : decode cX5_surrender 16 = .ok (.ireturn, 1) := by decide +kernel
theorem dX5_surrender_17 : decode cX5_surrender 17 = .ok (.iload_n 2, 1) := by decide +kernel
theorem dX5_surrender_18 : decode cX5_surrender 18 = .ok (.invokestatic 69, 3) := by decide +kernel
theorem dX5_surrender_21 : decode cX5_surrender 21 = .ok (.ifCond .eq 10, 3) := by decide +kernel
theorem dX5_surrender_24 : decode cX5_surrender 24 = .ok (.iload_n 3, 1) := by decide +kernel
theorem dX5_surrender_25 : decode cX5_surrender 25 = .ok (.invokestatic 113, 3) := by decide +kernel
theorem dX5_surrender_28 : decode cX5_surrender 28 = .ok (.ifCond .ne 6, 3) := by decide +kernel
theorem dX5_surrender_31 : decode cX5_surrender 31 = .ok (.bipush (-2), 2) := by decide +kernel
theorem dX5_surrender_33 : decode cX5_surrender 33 = .ok (.ireturn, 1) := by decide +kernel
theorem dX5_surrender_34 : decode cX5_surrender 34 = .ok (.aload 4, 2) := by decide +kernel
theorem dX5_surrender_36 : decode cX5_surrender 36 = .ok (.getfield 116, 3) := by decide +kernel
theorem dX5_surrender_39 : decode cX5_surrender 39 = .ok (.iload_n 2, 1) := by decide +kernel
theorem dX5_surrender_40 : decode cX5_surrender 40 = .ok (.if_icmp .ge 6, 3) := by decide +kernel
theorem dX5_surrender_43 : decode cX5_surrender 43 = .ok (.bipush (-4), 2) := by decide +kernel
theorem dX5_surrender_45 : decode cX5_surrender 45 = .ok (.ireturn, 1) := by decide +kernel
theorem dX5_surrender_46 : decode cX5_surrender 46 = .ok (.aload_n 0, 1) := by decide +kernel
theorem dX5_surrender_47 : decode cX5_surrender 47 = .ok (.getfield 32, 3) := by decide +kernel
theorem dX5_surrender_50 : decode cX5_surrender 50 = .ok (.aload 4, 2) := by decide +kernel
theorem dX5_surrender_52 : decode cX5_surrender 52 = .ok (.aload_n 0, 1) := by decide +kernel
theorem dX5_surrender_53 : decode cX5_surrender 53 = .ok (.getfield 12, 3) := by decide +kernel
theorem dX5_surrender_56 : decode cX5_surrender 56 = .ok (.getfield 62, 3) := by decide +kernel
theorem dX5_surrender_59 : decode cX5_surrender 59 = .ok (.iload_n 2, 1) := by decide +kernel
theorem dX5_surrender_60 : decode cX5_surrender 60 = .ok (.iload_n 3, 1) := by decide +kernel
theorem dX5_surrender_61 : decode cX5_surrender 61 = .ok (.invokevirtual 119, 3) := by decide +kernel
theorem dX5_surrender_64 : decode cX5_surrender 64 = .ok (.aload_n 0, 1) := by decide +kernel
theorem dX5_surrender_65 : decode cX5_surrender 65 = .ok (.getfield 32, 3) := by decide +kernel
theorem dX5_surrender_68 : decode cX5_surrender 68 = .ok (.getfield 123, 3) := by decide +kernel
theorem dX5_surrender_71 : decode cX5_surrender 71 = .ok (.ifCond .le 6, 3) := by decide +kernel
theorem dX5_surrender_74 : decode cX5_surrender 74 = .ok (.bipush (-4), 2) := by decide +kernel
theorem dX5_surrender_76 : decode cX5_surrender 76 = .ok (.ireturn, 1) := by decide +kernel
theorem dX5_surrender_77 : decode cX5_surrender 77 = .ok (.aload_n 0, 1) := by decide +kernel
theorem dX5_surrender_78 : decode cX5_surrender 78 = .ok (.getfield 25, 3) := by decide +kernel
theorem dX5_surrender_81 : decode cX5_surrender 81 = .ok (.aload_n 0, 1) := by decide +kernel
theorem dX5_surrender_82 : decode cX5_surrender 82 = .ok (.getfield 12, 3) := by decide +kernel
theorem dX5_surrender_85 : decode cX5_surrender 85 = .ok (.invokevirtual 51, 3) := by decide +kernel
theorem dX5_surrender_88 : decode cX5_surrender 88 = .ok (.aload_n 0, 1) := by decide +kernel
theorem dX5_surrender_89 : decode cX5_surrender 89 = .ok (.getfield 12, 3) := by decide +kernel
theorem dX5_surrender_92 : decode cX5_surrender 92 = .ok (.aload 4, 2) := by decide +kernel
theorem dX5_surrender_94 : decode cX5_surrender 94 = .ok (.aload_n 0, 1) := by decide +kernel
theorem dX5_surrender_95 : decode cX5_surrender 95 = .ok (.getfield 32, 3) := by decide +kernel
theorem dX5_surrender_98 : decode cX5_surrender 98 = .ok (.invokevirtual 126, 3) := by decide +kernel
theorem dX5_surrender_101 : decode cX5_surrender 101 = .ok (.aload 4, 2) := by decide +kernel
theorem dX5_surrender_103 : decode cX5_surrender 103 = .ok (.dup, 1) := by decide +kernel
theorem dX5_surrender_104 : decode cX5_surrender 104 = .ok (.getfield 116, 3) := by decide +kernel
theorem dX5_surrender_107 : decode cX5_surrender 107 = .ok (.iload_n 2, 1) := by decide +kernel
theorem dX5_surrender_108 : decode cX5_surrender 108 = .ok (.isub, 1) := by decide +kernel
theorem dX5_surrender_109 : decode cX5_surrender 109 = .ok (.putfield 116, 3) := by decide +kernel
theorem dX5_surrender_112 : decode cX5_surrender 112 = .ok (.aload 4, 2) := by decide +kernel
theorem dX5_surrender_114 : decode cX5_surrender 114 = .ok (.dup, 1) := by decide +kernel
theorem dX5_surrender_115 : decode cX5_surrender 115 = .ok (.getfield 130, 3) := by decide +kernel
theorem dX5_surrender_118 : decode cX5_surrender 118 = .ok (.iload_n 2, 1) := by decide +kernel
theorem dX5_surrender_119 : decode cX5_surrender 119 = .ok (.iadd, 1) := by decide +kernel
theorem dX5_surrender_120 : decode cX5_surrender 120 = .ok (.putfield 130, 3) := by decide +kernel
theorem dX5_surrender_123 : decode cX5_surrender 123 = .ok (.aload 4, 2) := by decide +kernel
theorem dX5_surrender_125 : decode cX5_surrender 125 = .ok (.getfield 116, 3) := by decide +kernel
theorem dX5_surrender_128 : decode cX5_surrender 128 = .ok (.ireturn, 1) := by decide +kernel
theorem dX5_pass_0 : decode cX5_pass 0 = .ok (.iload_n 1, 1) := by decide +kernel
theorem dX5_pass_1 : decode cX5_pass 1 = .ok (.iconst 1, 1) := by decide +kernel
theorem dX5_pass_2 : decode cX5_pass 2 = .ok (.if_icmp .lt 9, 3) := by decide +kernel
theorem dX5_pass_5 : decode cX5_pass 5 = .ok (.iload_n 1, 1) := by decide +kernel
theorem dX5_pass_6 : decode cX5_pass 6 = .ok (.bipush 24, 2) := by decide +kernel
theorem dX5_pass_8 : decode cX5_pass 8 = .ok (.if_icmp .le 6, 3) := by decide +kernel
theorem dX5_pass_11 : decode cX5_pass 11 = .ok (.bipush (-2), 2) := by decide +kernel
theorem dX5_pass_13 : decode cX5_pass 13 = .ok (.ireturn, 1) := by decide +kernel
theorem dX5_pass_14 : decode cX5_pass 14 = .ok (.aload_n 0, 1) := by decide +kernel
theorem dX5_pass_15 : decode cX5_pass 15 = .ok (.getfield 12, 3) := by decide +kernel
theorem dX5_pass_18 : decode cX5_pass 18 = .ok (.getfield 133, 3) := by decide +kernel
theorem dX5_pass_21 : decode cX5_pass 21 = .ok (.iload_n 1, 1) := by decide +kernel
theorem dX5_pass_22 : decode cX5_pass 22 = .ok (.iadd, 1) := by decide +kernel
theorem dX5_pass_23 : decode cX5_pass 23 = .ok (.sipush 239, 3) := by decide +kernel
theorem dX5_pass_26 : decode cX5_pass 26 = .ok (.if_icmp .le 6, 3) := by decide +kernel
theorem dX5_pass_29 : decode cX5_pass 29 = .ok (.bipush (-4), 2) := by decide +kernel
theorem dX5_pass_31 : decode cX5_pass 31 = .ok (.ireturn, 1) := by decide +kernel
theorem dX5_pass_32 : decode cX5_pass 32 = .ok (.aload_n 0, 1) := by decide +kernel
theorem dX5_pass_33 : decode cX5_pass 33 = .ok (.getfield 25, 3) := by decide +kernel
theorem dX5_pass_36 : decode cX5_pass 36 = .ok (.aload_n 0, 1) := by decide +kernel
theorem dX5_pass_37 : decode cX5_pass 37 = .ok (.getfield 12, 3) := by decide +kernel
theorem dX5_pass_40 : decode cX5_pass 40 = .ok (.invokevirtual 51, 3) := by decide +kernel
theorem dX5_pass_43 : decode cX5_pass 43 = .ok (.iconst 0, 1) := by decide +kernel
theorem dX5_pass_44 : decode cX5_pass 44 = .ok (.istore_n 2, 1) := by decide +kernel
theorem dX5_pass_45 : decode cX5_pass 45 = .ok (.iconst 0, 1) := by decide +kernel
theorem dX5_pass_46 : decode cX5_pass 46 = .ok (.istore_n 3, 1) := by decide +kernel
theorem dX5_pass_47 : decode cX5_pass 47 = .ok (.iload_n 3, 1) := by decide +kernel
theorem dX5_pass_48 : decode cX5_pass 48 = .ok (.iload_n 1, 1) := by decide +kernel
theorem dX5_pass_49 : decode cX5_pass 49 = .ok (.if_icmp .ge 19, 3) := by decide +kernel
theorem dX5_pass_52 : decode cX5_pass 52 = .ok (.iload_n 2, 1) := by decide +kernel
theorem dX5_pass_53 : decode cX5_pass 53 = .ok (.aload_n 0, 1) := by decide +kernel
theorem dX5_pass_54 : decode cX5_pass 54 = .ok (.getfield 12, 3) := by decide +kernel
theorem dX5_pass_57 : decode cX5_pass 57 = .ok (.invokevirtual 136, 3) := by decide +kernel
theorem dX5_pass_60 : decode cX5_pass 60 = .ok (.iadd, 1) := by decide +kernel
theorem dX5_pass_61 : decode cX5_pass 61 = .ok (.istore_n 2, 1) := by decide +kernel
theorem dX5_pass_62 : decode cX5_pass 62 = .ok (.iinc 3 1, 3) := by decide +kernel
theorem dX5_pass_65 : decode cX5_pass 65 = .ok (.goto (-18), 3) := by decide +kernel
theorem dX5_pass_68 : decode cX5_pass 68 = .ok (.iload_n 2, 1) := by decide +kernel
theorem dX5_pass_69 : decode cX5_pass 69 = .ok (.ireturn, 1) := by decide +kernel
theorem dX5_type_0 : decode cX5_type 0 = .ok (.aload_n 0, 1) := by decide +kernel
theorem dX5_type_1 : decode cX5_type 1 = .ok (.getfield 39, 3) := by decide +kernel
theorem dX5_type_4 : decode cX5_type 4 = .ok (.getfield 139, 3) := by decide +kernel
theorem dX5_type_7 : decode cX5_type 7 = .ok (.bipush 60, 2) := by decide +kernel
theorem dX5_type_9 : decode cX5_type 9 = .ok (.if_icmp .lt 6, 3) := by decide +kernel
theorem dX5_type_12 : decode cX5_type 12 = .ok (.bipush (-3), 2) := by decide +kernel
theorem dX5_type_14 : decode cX5_type 14 = .ok (.ireturn, 1) := by decide +kernel
theorem dX5_type_15 : decode cX5_type 15 = .ok (.aload_n 0, 1) := by decide +kernel
theorem dX5_type_16 : decode cX5_type 16 = .ok (.getfield 39, 3) := by decide +kernel
theorem dX5_type_19 : decode cX5_type 19 = .ok (.getfield 142, 3) := by decide +kernel
theorem dX5_type_22 : decode cX5_type 22 = .ok (.aload_n 0, 1) := by decide +kernel
theorem dX5_type_23 : decode cX5_type 23 = .ok (.getfield 39, 3) := by decide +kernel
theorem dX5_type_26 : decode cX5_type 26 = .ok (.getfield 139, 3) := by decide +kernel
theorem dX5_type_29 : decode cX5_type 29 = .ok (.iload_n 1, 1) := by decide +kernel
theorem dX5_type_30 : decode cX5_type 30 = .ok (.castore, 1) := by decide +kernel
theorem dX5_type_31 : decode cX5_type 31 = .ok (.aload_n 0, 1) := by decide +kernel
theorem dX5_type_32 : decode cX5_type 32 = .ok (.getfield 39, 3) := by decide +kernel
theorem dX5_type_35 : decode cX5_type 35 = .ok (.dup, 1) := by decide +kernel
theorem dX5_type_36 : decode cX5_type 36 = .ok (.getfield 139, 3) := by decide +kernel
theorem dX5_type_39 : decode cX5_type 39 = .ok (.iconst 1, 1) := by decide +kernel
theorem dX5_type_40 : decode cX5_type 40 = .ok (.iadd, 1) := by decide +kernel
theorem dX5_type_41 : decode cX5_type 41 = .ok (.putfield 139, 3) := by decide +kernel
theorem dX5_type_44 : decode cX5_type 44 = .ok (.aload_n 0, 1) := by decide +kernel
theorem dX5_type_45 : decode cX5_type 45 = .ok (.getfield 39, 3) := by decide +kernel
theorem dX5_type_48 : decode cX5_type 48 = .ok (.getfield 139, 3) := by decide +kernel
theorem dX5_type_51 : decode cX5_type 51 = .ok (.ireturn, 1) := by decide +kernel
theorem dX5_clearText_0 : decode cX5_clearText 0 = .ok (.aload_n 0, 1) := by decide +kernel
theorem dX5_clearText_1 : decode cX5_clearText 1 = .ok (.getfield 39, 3) := by decide +kernel
theorem dX5_clearText_4 : decode cX5_clearText 4 = .ok (.getfield 139, 3) := by decide +kernel
theorem dX5_clearText_7 : decode cX5_clearText 7 = .ok (.istore_n 1, 1) := by decide +kernel
theorem dX5_clearText_8 : decode cX5_clearText 8 = .ok (.aload_n 0, 1) := by decide +kernel
theorem dX5_clearText_9 : decode cX5_clearText 9 = .ok (.getfield 39, 3) := by decide +kernel
theorem dX5_clearText_12 : decode cX5_clearText 12 = .ok (.iconst 0, 1) := by decide +kernel
theorem dX5_clearText_13 : decode cX5_clearText 13 = .ok (.putfield 139, 3) := by decide +kernel
theorem dX5_clearText_16 : decode cX5_clearText 16 = .ok (.iload_n 1, 1) := by decide +kernel
theorem dX5_clearText_17 : decode cX5_clearText 17 = .ok (.ireturn, 1) := by decide +kernel
theorem dX5_readTransfers_0 : decode cX5_readTransfers 0 = .ok (.aload_n 0, 1) := by decide +kernel
theorem dX5_readTransfers_1 : decode cX5_readTransfers 1 = .ok (.getfield 39, 3) := by decide +kernel
theorem dX5_readTransfers_4 : decode cX5_readTransfers 4 = .ok (.invokevirtual 146, 3) := by decide +kernel
theorem dX5_readTransfers_7 : decode cX5_readTransfers 7 = .ok (.ifCond .ne 14, 3) := by decide +kernel
theorem dX5_readTransfers_10 : decode cX5_readTransfers 10 = .ok (.bipush (-100), 2) := by decide +kernel
theorem dX5_readTransfers_12 : decode cX5_readTransfers 12 = .ok (.aload_n 0, 1) := by decide +kernel
theorem dX5_readTransfers_13 : decode cX5_readTransfers 13 = .ok (.getfield 39, 3) := by decide +kernel
theorem dX5_readTransfers_16 : decode cX5_readTransfers 16 = .ok (.getfield 150, 3) := by decide +kernel
theorem dX5_readTransfers_19 : decode cX5_readTransfers 19 = .ok (.isub, 1) := by decide +kernel
theorem dX5_readTransfers_20 : decode cX5_readTransfers 20 = .ok (.ireturn, 1) := by decide +kernel
theorem dX5_readTransfers_21 : decode cX5_readTransfers 21 = .ok (.aload_n 0, 1) := by decide +kernel
theorem dX5_readTransfers_22 : decode cX5_readTransfers 22 = .ok (.getfield 12, 3) := by decide +kernel
theorem dX5_readTransfers_25 : decode cX5_readTransfers 25 = .ok (.aload_n 0, 1) := by decide +kernel
theorem dX5_readTransfers_26 : decode cX5_readTransfers 26 = .ok (.getfield 19, 3) := by decide +kernel
theorem dX5_readTransfers_29 : decode cX5_readTransfers 29 = .ok (.invokestatic 153, 3) := by decide +kernel
theorem dX5_readTransfers_32 : decode cX5_readTransfers 32 = .ok (.iconst 0, 1) := by decide +kernel
theorem dX5_readTransfers_33 : decode cX5_readTransfers 33 = .ok (.istore_n 1, 1) := by decide +kernel
theorem dX5_readTransfers_34 : decode cX5_readTransfers 34 = .ok (.iload_n 1, 1) := by decide +kernel
theorem dX5_readTransfers_35 : decode cX5_readTransfers 35 = .ok (.aload_n 0, 1) := by decide +kernel
theorem dX5_readTransfers_36 : decode cX5_readTransfers 36 = .ok (.getfield 39, 3) := by decide +kernel
theorem dX5_readTransfers_39 : decode cX5_readTransfers 39 = .ok (.getfield 157, 3) := by decide +kernel
theorem dX5_readTransfers_42 : decode cX5_readTransfers 42 = .ok (.if_icmp .ge 103, 3) := by decide +kernel
theorem dX5_readTransfers_45 : decode cX5_readTransfers 45 = .ok (.aload_n 0, 1) := by decide +kernel
theorem dX5_readTransfers_46 : decode cX5_readTransfers 46 = .ok (.getfield 19, 3) := by decide +kernel
theorem dX5_readTransfers_49 : decode cX5_readTransfers 49 = .ok (.aload_n 0, 1) := by decide +kernel
theorem dX5_readTransfers_50 : decode cX5_readTransfers 50 = .ok (.getfield 39, 3) := by decide +kernel
theorem dX5_readTransfers_53 : decode cX5_readTransfers 53 = .ok (.getfield 160, 3) := by decide +kernel
theorem dX5_readTransfers_56 : decode cX5_readTransfers 56 = .ok (.iload_n 1, 1) := by decide +kernel
theorem dX5_readTransfers_57 : decode cX5_readTransfers 57 = .ok (.iaload, 1) := by decide +kernel
theorem dX5_readTransfers_58 : decode cX5_readTransfers 58 = .ok (.aload_n 0, 1) := by decide +kernel
theorem dX5_readTransfers_59 : decode cX5_readTransfers 59 = .ok (.getfield 39, 3) := by decide +kernel
theorem dX5_readTransfers_62 : decode cX5_readTransfers 62 = .ok (.getfield 163, 3) := by decide +kernel
theorem dX5_readTransfers_65 : decode cX5_readTransfers 65 = .ok (.iload_n 1, 1) := by decide +kernel
theorem dX5_readTransfers_66 : decode cX5_readTransfers 66 = .ok (.iaload, 1) := by decide +kernel
theorem dX5_readTransfers_67 : decode cX5_readTransfers 67 = .ok (.aload_n 0, 1) := by decide +kernel
theorem dX5_readTransfers_68 : decode cX5_readTransfers 68 = .ok (.getfield 39, 3) := by decide +kernel
theorem dX5_readTransfers_71 : decode cX5_readTransfers 71 = .ok (.getfield 166, 3) := by decide +kernel
theorem dX5_readTransfers_74 : decode cX5_readTransfers 74 = .ok (.iload_n 1, 1) := by decide +kernel
theorem dX5_readTransfers_75 : decode cX5_readTransfers 75 = .ok (.iaload, 1) := by decide +kernel
theorem dX5_readTransfers_76 : decode cX5_readTransfers 76 = .ok (.aload_n 0, 1) := by decide +kernel
theorem dX5_readTransfers_77 : decode cX5_readTransfers 77 = .ok (.getfield 39, 3) := by decide +kernel
theorem dX5_readTransfers_80 : decode cX5_readTransfers 80 = .ok (.getfield 169, 3) := by decide +kernel
theorem dX5_readTransfers_83 : decode cX5_readTransfers 83 = .ok (.iload_n 1, 1) := by decide +kernel
theorem dX5_readTransfers_84 : decode cX5_readTransfers 84 = .ok (.iaload, 1) := by decide +kernel
theorem dX5_readTransfers_85 : decode cX5_readTransfers 85 = .ok (.invokevirtual 94, 3) := by decide +kernel
theorem dX5_readTransfers_88 : decode cX5_readTransfers 88 = .ok (.istore_n 2, 1) := by decide +kernel
theorem dX5_readTransfers_89 : decode cX5_readTransfers 89 = .ok (.iload_n 2, 1) := by decide +kernel
theorem dX5_readTransfers_90 : decode cX5_readTransfers 90 = .ok (.ifCond .eq 5, 3) := by decide +kernel
theorem dX5_readTransfers_93 : decode cX5_readTransfers 93 = .ok (.iload_n 2, 1) := by decide +kernel
theorem dX5_readTransfers_94 : decode cX5_readTransfers 94 = .ok (.ireturn, 1) := by decide +kernel
theorem dX5_readTransfers_95 : decode cX5_readTransfers 95 = .ok (.aload_n 0, 1) := by decide +kernel
theorem dX5_readTransfers_96 : decode cX5_readTransfers 96 = .ok (.getfield 19, 3) := by decide +kernel
theorem dX5_readTransfers_99 : decode cX5_readTransfers 99 = .ok (.aload_n 0, 1) := by decide +kernel
theorem dX5_readTransfers_100 : decode cX5_readTransfers 100 = .ok (.getfield 39, 3) := by decide +kernel
theorem dX5_readTransfers_103 : decode cX5_readTransfers 103 = .ok (.getfield 160, 3) := by decide +kernel
theorem dX5_readTransfers_106 : decode cX5_readTransfers 106 = .ok (.iload_n 1, 1) := by decide +kernel
theorem dX5_readTransfers_107 : decode cX5_readTransfers 107 = .ok (.iaload, 1) := by decide +kernel
theorem dX5_readTransfers_108 : decode cX5_readTransfers 108 = .ok (.aload_n 0, 1) := by decide +kernel
theorem dX5_readTransfers_109 : decode cX5_readTransfers 109 = .ok (.getfield 39, 3) := by decide +kernel
theorem dX5_readTransfers_112 : decode cX5_readTransfers 112 = .ok (.getfield 163, 3) := by decide +kernel
theorem dX5_readTransfers_115 : decode cX5_readTransfers 115 = .ok (.iload_n 1, 1) := by decide +kernel
theorem dX5_readTransfers_116 : decode cX5_readTransfers 116 = .ok (.iaload, 1) := by decide +kernel
theorem dX5_readTransfers_117 : decode cX5_readTransfers 117 = .ok (.aload_n 0, 1) := by decide +kernel
theorem dX5_readTransfers_118 : decode cX5_readTransfers 118 = .ok (.getfield 39, 3) := by decide +kernel
theorem dX5_readTransfers_121 : decode cX5_readTransfers 121 = .ok (.getfield 166, 3) := by decide +kernel
theorem dX5_readTransfers_124 : decode cX5_readTransfers 124 = .ok (.iload_n 1, 1) := by decide +kernel
theorem dX5_readTransfers_125 : decode cX5_readTransfers 125 = .ok (.iaload, 1) := by decide +kernel
theorem dX5_readTransfers_126 : decode cX5_readTransfers 126 = .ok (.aload_n 0, 1) := by decide +kernel
theorem dX5_readTransfers_127 : decode cX5_readTransfers 127 = .ok (.getfield 39, 3) := by decide +kernel
theorem dX5_readTransfers_130 : decode cX5_readTransfers 130 = .ok (.getfield 169, 3) := by decide +kernel
theorem dX5_readTransfers_133 : decode cX5_readTransfers 133 = .ok (.iload_n 1, 1) := by decide +kernel
theorem dX5_readTransfers_134 : decode cX5_readTransfers 134 = .ok (.iaload, 1) := by decide +kernel
theorem dX5_readTransfers_135 : decode cX5_readTransfers 135 = .ok (.invokevirtual 98, 3) := by decide +kernel
theorem dX5_readTransfers_138 : decode cX5_readTransfers 138 = .ok (.pop, 1) := by decide +kernel
theorem dX5_readTransfers_139 : decode cX5_readTransfers 139 = .ok (.iinc 1 1, 3) := by decide +kernel
theorem dX5_readTransfers_142 : decode cX5_readTransfers 142 = .ok (.goto (-108), 3) := by decide +kernel
theorem dX5_readTransfers_145 : decode cX5_readTransfers 145 = .ok (.aload_n 0, 1) := by decide +kernel
theorem dX5_readTransfers_146 : decode cX5_readTransfers 146 = .ok (.getfield 25, 3) := by decide +kernel
theorem dX5_readTransfers_149 : decode cX5_readTransfers 149 = .ok (.aload_n 0, 1) := by decide +kernel
theorem dX5_readTransfers_150 : decode cX5_readTransfers 150 = .ok (.getfield 12, 3) := by decide +kernel
theorem dX5_readTransfers_153 : decode cX5_readTransfers 153 = .ok (.invokevirtual 51, 3) := by decide +kernel
theorem dX5_readTransfers_156 : decode cX5_readTransfers 156 = .ok (.aload_n 0, 1) := by decide +kernel
theorem dX5_readTransfers_157 : decode cX5_readTransfers 157 = .ok (.getfield 19, 3) := by decide +kernel
theorem dX5_readTransfers_160 : decode cX5_readTransfers 160 = .ok (.aload_n 0, 1) := by decide +kernel
theorem dX5_readTransfers_161 : decode cX5_readTransfers 161 = .ok (.getfield 12, 3) := by decide +kernel
theorem dX5_readTransfers_164 : decode cX5_readTransfers 164 = .ok (.invokestatic 153, 3) := by decide +kernel
theorem dX5_readTransfers_167 : decode cX5_readTransfers 167 = .ok (.aload_n 0, 1) := by decide +kernel
theorem dX5_readTransfers_168 : decode cX5_readTransfers 168 = .ok (.getfield 39, 3) := by decide +kernel
theorem dX5_readTransfers_171 : decode cX5_readTransfers 171 = .ok (.getfield 157, 3) := by decide +kernel
theorem dX5_readTransfers_174 : decode cX5_readTransfers 174 = .ok (.ireturn, 1) := by decide +kernel
theorem dX5_undo_0 : decode cX5_undo 0 = .ok (.aload_n 0, 1) := by decide +kernel
theorem dX5_undo_1 : decode cX5_undo 1 = .ok (.getfield 25, 3) := by decide +kernel
theorem dX5_undo_4 : decode cX5_undo 4 = .ok (.getfield 172, 3) := by decide +kernel
theorem dX5_undo_7 : decode cX5_undo 7 = .ok (.ifCond .ne 6, 3) := by decide +kernel
theorem dX5_undo_10 : decode cX5_undo 10 = .ok (.bipush (-5), 2) := by decide +kernel
theorem dX5_undo_12 : decode cX5_undo 12 = .ok (.ireturn, 1) := by decide +kernel
theorem dX5_undo_13 : decode cX5_undo 13 = .ok (.aload_n 0, 1) := by decide +kernel
theorem dX5_undo_14 : decode cX5_undo 14 = .ok (.getfield 25, 3) := by decide +kernel
theorem dX5_undo_17 : decode cX5_undo 17 = .ok (.aload_n 0, 1) := by decide +kernel
theorem dX5_undo_18 : decode cX5_undo 18 = .ok (.getfield 12, 3) := by decide +kernel
theorem dX5_undo_21 : decode cX5_undo 21 = .ok (.invokevirtual 175, 3) := by decide +kernel
theorem dX5_undo_24 : decode cX5_undo 24 = .ok (.aload_n 0, 1) := by decide +kernel
theorem dX5_undo_25 : decode cX5_undo 25 = .ok (.getfield 25, 3) := by decide +kernel
theorem dX5_undo_28 : decode cX5_undo 28 = .ok (.getfield 172, 3) := by decide +kernel
theorem dX5_undo_31 : decode cX5_undo 31 = .ok (.ireturn, 1) := by decide +kernel
theorem dX5_keep_0 : decode cX5_keep 0 = .ok (.aload_n 0, 1) := by decide +kernel
theorem dX5_keep_1 : decode cX5_keep 1 = .ok (.getfield 12, 3) := by decide +kernel
theorem dX5_keep_4 : decode cX5_keep 4 = .ok (.aload_n 0, 1) := by decide +kernel
theorem dX5_keep_5 : decode cX5_keep 5 = .ok (.getfield 16, 3) := by decide +kernel
theorem dX5_keep_8 : decode cX5_keep 8 = .ok (.invokestatic 153, 3) := by decide +kernel
theorem dX5_keep_11 : decode cX5_keep 11 = .ok (.aload_n 0, 1) := by decide +kernel
theorem dX5_keep_12 : decode cX5_keep 12 = .ok (.iconst 1, 1) := by decide +kernel
theorem dX5_keep_13 : decode cX5_keep 13 = .ok (.putfield 43, 3) := by decide +kernel
theorem dX5_keep_16 : decode cX5_keep 16 = .ok (.aload_n 0, 1) := by decide +kernel
theorem dX5_keep_17 : decode cX5_keep 17 = .ok (.getfield 12, 3) := by decide +kernel
theorem dX5_keep_20 : decode cX5_keep 20 = .ok (.getfield 133, 3) := by decide +kernel
theorem dX5_keep_23 : decode cX5_keep 23 = .ok (.ireturn, 1) := by decide +kernel
theorem dX5_restore_0 : decode cX5_restore 0 = .ok (.aload_n 0, 1) := by decide +kernel
theorem dX5_restore_1 : decode cX5_restore 1 = .ok (.getfield 43, 3) := by decide +kernel
theorem dX5_restore_4 : decode cX5_restore 4 = .ok (.ifCond .ne 6, 3) := by decide +kernel
theorem dX5_restore_7 : decode cX5_restore 7 = .ok (.bipush (-5), 2) := by decide +kernel
theorem dX5_restore_9 : decode cX5_restore 9 = .ok (.ireturn, 1) := by decide +kernel
theorem dX5_restore_10 : decode cX5_restore 10 = .ok (.aload_n 0, 1) := by decide +kernel
theorem dX5_restore_11 : decode cX5_restore 11 = .ok (.getfield 25, 3) := by decide +kernel
theorem dX5_restore_14 : decode cX5_restore 14 = .ok (.aload_n 0, 1) := by decide +kernel
theorem dX5_restore_15 : decode cX5_restore 15 = .ok (.getfield 12, 3) := by decide +kernel
theorem dX5_restore_18 : decode cX5_restore 18 = .ok (.invokevirtual 51, 3) := by decide +kernel
theorem dX5_restore_21 : decode cX5_restore 21 = .ok (.aload_n 0, 1) := by decide +kernel
theorem dX5_restore_22 : decode cX5_restore 22 = .ok (.getfield 16, 3) := by decide +kernel
theorem dX5_restore_25 : decode cX5_restore 25 = .ok (.aload_n 0, 1) := by decide +kernel
theorem dX5_restore_26 : decode cX5_restore 26 = .ok (.getfield 12, 3) := by decide +kernel
theorem dX5_restore_29 : decode cX5_restore 29 = .ok (.invokestatic 153, 3) := by decide +kernel
theorem dX5_restore_32 : decode cX5_restore 32 = .ok (.aload_n 0, 1) := by decide +kernel
theorem dX5_restore_33 : decode cX5_restore 33 = .ok (.getfield 12, 3) := by decide +kernel
theorem dX5_restore_36 : decode cX5_restore 36 = .ok (.getfield 133, 3) := by decide +kernel
theorem dX5_restore_39 : decode cX5_restore 39 = .ok (.ireturn, 1) := by decide +kernel
theorem dX5_firm_0 : decode cX5_firm 0 = .ok (.aload_n 0, 1) := by decide +kernel
theorem dX5_firm_1 : decode cX5_firm 1 = .ok (.getfield 12, 3) := by decide +kernel
theorem dX5_firm_4 : decode cX5_firm 4 = .ok (.iload_n 1, 1) := by decide +kernel
theorem dX5_firm_5 : decode cX5_firm 5 = .ok (.invokevirtual 65, 3) := by decide +kernel
theorem dX5_firm_8 : decode cX5_firm 8 = .ok (.astore_n 3, 1) := by decide +kernel
theorem dX5_firm_9 : decode cX5_firm 9 = .ok (.aload_n 3, 1) := by decide +kernel
theorem dX5_firm_10 : decode cX5_firm 10 = .ok (.ifnonnull 5, 3) := by decide +kernel
theorem dX5_firm_13 : decode cX5_firm 13 = .ok (.iconst (-1), 1) := by decide +kernel
theorem dX5_firm_14 : decode cX5_firm 14 = .ok (.ireturn, 1) := by decide +kernel
theorem dX5_firm_15 : decode cX5_firm 15 = .ok (.iload_n 2, 1) := by decide +kernel
theorem dX5_firm_16 : decode cX5_firm 16 = .ok (.tableswitch 122 0 10 #[60, 65, 70, 75, 80, 85, 90, 95, 100, 105, 110], 60) := by decide +kernel
theorem dX5_firm_76 : decode cX5_firm 76 = .ok (.aload_n 3, 1) := by decide +kernel
theorem dX5_firm_77 : decode cX5_firm 77 = .ok (.invokevirtual 178, 3) := by decide +kernel
theorem dX5_firm_80 : decode cX5_firm 80 = .ok (.ireturn, 1) := by decide +kernel
theorem dX5_firm_81 : decode cX5_firm 81 = .ok (.aload_n 3, 1) := by decide +kernel
theorem dX5_firm_82 : decode cX5_firm 82 = .ok (.invokevirtual 181, 3) := by decide +kernel
theorem dX5_firm_85 : decode cX5_firm 85 = .ok (.ireturn, 1) := by decide +kernel
theorem dX5_firm_86 : decode cX5_firm 86 = .ok (.aload_n 3, 1) := by decide +kernel
theorem dX5_firm_87 : decode cX5_firm 87 = .ok (.invokevirtual 184, 3) := by decide +kernel
theorem dX5_firm_90 : decode cX5_firm 90 = .ok (.ireturn, 1) := by decide +kernel
theorem dX5_firm_91 : decode cX5_firm 91 = .ok (.aload_n 3, 1) := by decide +kernel
theorem dX5_firm_92 : decode cX5_firm 92 = .ok (.invokevirtual 187, 3) := by decide +kernel
theorem dX5_firm_95 : decode cX5_firm 95 = .ok (.ireturn, 1) := by decide +kernel
theorem dX5_firm_96 : decode cX5_firm 96 = .ok (.aload_n 3, 1) := by decide +kernel
theorem dX5_firm_97 : decode cX5_firm 97 = .ok (.getfield 107, 3) := by decide +kernel
theorem dX5_firm_100 : decode cX5_firm 100 = .ok (.ireturn, 1) := by decide +kernel
theorem dX5_firm_101 : decode cX5_firm 101 = .ok (.aload_n 3, 1) := by decide +kernel
theorem dX5_firm_102 : decode cX5_firm 102 = .ok (.getfield 110, 3) := by decide +kernel
theorem dX5_firm_105 : decode cX5_firm 105 = .ok (.ireturn, 1) := by decide +kernel
theorem dX5_firm_106 : decode cX5_firm 106 = .ok (.aload_n 3, 1) := by decide +kernel
theorem dX5_firm_107 : decode cX5_firm 107 = .ok (.getfield 190, 3) := by decide +kernel
theorem dX5_firm_110 : decode cX5_firm 110 = .ok (.ireturn, 1) := by decide +kernel
theorem dX5_firm_111 : decode cX5_firm 111 = .ok (.aload_n 3, 1) := by decide +kernel
theorem dX5_firm_112 : decode cX5_firm 112 = .ok (.getfield 116, 3) := by decide +kernel
theorem dX5_firm_115 : decode cX5_firm 115 = .ok (.ireturn, 1) := by decide +kernel
theorem dX5_firm_116 : decode cX5_firm 116 = .ok (.aload_n 3, 1) := by decide +kernel
theorem dX5_firm_117 : decode cX5_firm 117 = .ok (.getfield 130, 3) := by decide +kernel
theorem dX5_firm_120 : decode cX5_firm 120 = .ok (.ireturn, 1) := by decide +kernel
theorem dX5_firm_121 : decode cX5_firm 121 = .ok (.aload_n 3, 1) := by decide +kernel
theorem dX5_firm_122 : decode cX5_firm 122 = .ok (.getfield 193, 3) := by decide +kernel
theorem dX5_firm_125 : decode cX5_firm 125 = .ok (.ireturn, 1) := by decide +kernel
theorem dX5_firm_126 : decode cX5_firm 126 = .ok (.aload_n 3, 1) := by decide +kernel
theorem dX5_firm_127 : decode cX5_firm 127 = .ok (.aload_n 0, 1) := by decide +kernel
theorem dX5_firm_128 : decode cX5_firm 128 = .ok (.getfield 12, 3) := by decide +kernel
theorem dX5_firm_131 : decode cX5_firm 131 = .ok (.getfield 62, 3) := by decide +kernel
theorem dX5_firm_134 : decode cX5_firm 134 = .ok (.invokevirtual 196, 3) := by decide +kernel
theorem dX5_firm_137 : decode cX5_firm 137 = .ok (.ireturn, 1) := by decide +kernel
theorem dX5_firm_138 : decode cX5_firm 138 = .ok (.bipush (-2), 2) := by decide +kernel
theorem dX5_firm_140 : decode cX5_firm 140 = .ok (.ireturn, 1) := by decide +kernel
theorem dX5_holds_0 : decode cX5_holds 0 = .ok (.aload_n 0, 1) := by decide +kernel
theorem dX5_holds_1 : decode cX5_holds 1 = .ok (.getfield 12, 3) := by decide +kernel
theorem dX5_holds_4 : decode cX5_holds 4 = .ok (.iload_n 1, 1) := by decide +kernel
theorem dX5_holds_5 : decode cX5_holds 5 = .ok (.invokevirtual 65, 3) := by decide +kernel
theorem dX5_holds_8 : decode cX5_holds 8 = .ok (.astore_n 3, 1) := by decide +kernel
theorem dX5_holds_9 : decode cX5_holds 9 = .ok (.aload_n 3, 1) := by decide +kernel
theorem dX5_holds_10 : decode cX5_holds 10 = .ok (.ifnull 10, 3) := by decide +kernel
theorem dX5_holds_13 : decode cX5_holds 13 = .ok (.iload_n 2, 1) := by decide +kernel
theorem dX5_holds_14 : decode cX5_holds 14 = .ok (.invokestatic 101, 3) := by decide +kernel
theorem dX5_holds_17 : decode cX5_holds 17 = .ok (.ifCond .ne 5, 3) := by decide +kernel
theorem dX5_holds_20 : decode cX5_holds 20 = .ok (.iconst (-1), 1) := by decide +kernel
theorem dX5_holds_21 : decode cX5_holds 21 = .ok (.ireturn, 1) := by decide +kernel
theorem dX5_holds_22 : decode cX5_holds 22 = .ok (.aload_n 3, 1) := by decide +kernel
theorem dX5_holds_23 : decode cX5_holds 23 = .ok (.getfield 77, 3) := by decide +kernel
theorem dX5_holds_26 : decode cX5_holds 26 = .ok (.iload_n 2, 1) := by decide +kernel
theorem dX5_holds_27 : decode cX5_holds 27 = .ok (.iaload, 1) := by decide +kernel
theorem dX5_holds_28 : decode cX5_holds 28 = .ok (.ireturn, 1) := by decide +kernel
theorem dX5_offsets_0 : decode cX5_offsets 0 = .ok (.aload_n 0, 1) := by decide +kernel
theorem dX5_offsets_1 : decode cX5_offsets 1 = .ok (.getfield 12, 3) := by decide +kernel
theorem dX5_offsets_4 : decode cX5_offsets 4 = .ok (.iload_n 1, 1) := by decide +kernel
theorem dX5_offsets_5 : decode cX5_offsets 5 = .ok (.invokevirtual 65, 3) := by decide +kernel
theorem dX5_offsets_8 : decode cX5_offsets 8 = .ok (.astore 4, 2) := by decide +kernel
theorem dX5_offsets_10 : decode cX5_offsets 10 = .ok (.aload 4, 2) := by decide +kernel
theorem dX5_offsets_12 : decode cX5_offsets 12 = .ok (.ifnull 10, 3) := by decide +kernel
theorem dX5_offsets_15 : decode cX5_offsets 15 = .ok (.iload_n 2, 1) := by decide +kernel
theorem dX5_offsets_16 : decode cX5_offsets 16 = .ok (.invokestatic 85, 3) := by decide +kernel
theorem dX5_offsets_19 : decode cX5_offsets 19 = .ok (.ifCond .ne 5, 3) := by decide +kernel
theorem dX5_offsets_22 : decode cX5_offsets 22 = .ok (.iconst (-1), 1) := by decide +kernel
theorem dX5_offsets_23 : decode cX5_offsets 23 = .ok (.ireturn, 1) := by decide +kernel
theorem dX5_offsets_24 : decode cX5_offsets 24 = .ok (.iload_n 3, 1) := by decide +kernel
theorem dX5_offsets_25 : decode cX5_offsets 25 = .ok (.tableswitch 59 0 2 #[27, 35, 51], 27) := by decide +kernel
theorem dX5_offsets_52 : decode cX5_offsets 52 = .ok (.aload 4, 2) := by decide +kernel
theorem dX5_offsets_54 : decode cX5_offsets 54 = .ok (.getfield 88, 3) := by decide +kernel
theorem dX5_offsets_57 : decode cX5_offsets 57 = .ok (.iload_n 2, 1) := by decide +kernel
theorem dX5_offsets_58 : decode cX5_offsets 58 = .ok (.iaload, 1) := by decide +kernel
theorem dX5_offsets_59 : decode cX5_offsets 59 = .ok (.ireturn, 1) := by decide +kernel
theorem dX5_offsets_60 : decode cX5_offsets 60 = .ok (.aload 4, 2) := by decide +kernel
theorem dX5_offsets_62 : decode cX5_offsets 62 = .ok (.iload_n 2, 1) := by decide +kernel
theorem dX5_offsets_63 : decode cX5_offsets 63 = .ok (.aload_n 0, 1) := by decide +kernel
theorem dX5_offsets_64 : decode cX5_offsets 64 = .ok (.getfield 12, 3) := by decide +kernel
theorem dX5_offsets_67 : decode cX5_offsets 67 = .ok (.getfield 62, 3) := by decide +kernel
theorem dX5_offsets_70 : decode cX5_offsets 70 = .ok (.iload_n 2, 1) := by decide +kernel
theorem dX5_offsets_71 : decode cX5_offsets 71 = .ok (.iaload, 1) := by decide +kernel
theorem dX5_offsets_72 : decode cX5_offsets 72 = .ok (.invokevirtual 200, 3) := by decide +kernel
theorem dX5_offsets_75 : decode cX5_offsets 75 = .ok (.ireturn, 1) := by decide +kernel
theorem dX5_offsets_76 : decode cX5_offsets 76 = .ok (.aload 4, 2) := by decide +kernel
theorem dX5_offsets_78 : decode cX5_offsets 78 = .ok (.getfield 204, 3) := by decide +kernel
theorem dX5_offsets_81 : decode cX5_offsets 81 = .ok (.iload_n 2, 1) := by decide +kernel
theorem dX5_offsets_82 : decode cX5_offsets 82 = .ok (.iaload, 1) := by decide +kernel
theorem dX5_offsets_83 : decode cX5_offsets 83 = .ok (.ireturn, 1) := by decide +kernel
theorem dX5_offsets_84 : decode cX5_offsets 84 = .ok (.bipush (-2), 2) := by decide +kernel
theorem dX5_offsets_86 : decode cX5_offsets 86 = .ok (.ireturn, 1) := by decide +kernel
theorem dX5_vintage_0 : decode cX5_vintage 0 = .ok (.iload_n 1, 1) := by decide +kernel
theorem dX5_vintage_1 : decode cX5_vintage 1 = .ok (.invokestatic 101, 3) := by decide +kernel
theorem dX5_vintage_4 : decode cX5_vintage 4 = .ok (.ifCond .ne 5, 3) := by decide +kernel
theorem dX5_vintage_7 : decode cX5_vintage 7 = .ok (.iconst (-1), 1) := by decide +kernel
theorem dX5_vintage_8 : decode cX5_vintage 8 = .ok (.ireturn, 1) := by decide +kernel
theorem dX5_vintage_9 : decode cX5_vintage 9 = .ok (.iload_n 2, 1) := by decide +kernel
theorem dX5_vintage_10 : decode cX5_vintage 10 = .ok (.tableswitch 109 0 6 #[42, 52, 61, 71, 81, 91, 100], 42) := by decide +kernel
theorem dX5_vintage_52 : decode cX5_vintage 52 = .ok (.aload_n 0, 1) := by decide +kernel
theorem dX5_vintage_53 : decode cX5_vintage 53 = .ok (.getfield 12, 3) := by decide +kernel
theorem dX5_vintage_56 : decode cX5_vintage 56 = .ok (.getfield 82, 3) := by decide +kernel
theorem dX5_vintage_59 : decode cX5_vintage 59 = .ok (.iload_n 1, 1) := by decide +kernel
theorem dX5_vintage_60 : decode cX5_vintage 60 = .ok (.iaload, 1) := by decide +kernel
theorem dX5_vintage_61 : decode cX5_vintage 61 = .ok (.ireturn, 1) := by decide +kernel
theorem dX5_vintage_62 : decode cX5_vintage 62 = .ok (.aload_n 0, 1) := by decide +kernel
theorem dX5_vintage_63 : decode cX5_vintage 63 = .ok (.getfield 12, 3) := by decide +kernel
theorem dX5_vintage_66 : decode cX5_vintage 66 = .ok (.iload_n 1, 1) := by decide +kernel
theorem dX5_vintage_67 : decode cX5_vintage 67 = .ok (.invokevirtual 207, 3) := by decide +kernel
theorem dX5_vintage_70 : decode cX5_vintage 70 = .ok (.ireturn, 1) := by decide +kernel
theorem dX5_vintage_71 : decode cX5_vintage 71 = .ok (.aload_n 0, 1) := by decide +kernel
theorem dX5_vintage_72 : decode cX5_vintage 72 = .ok (.getfield 12, 3) := by decide +kernel
theorem dX5_vintage_75 : decode cX5_vintage 75 = .ok (.getfield 211, 3) := by decide +kernel
theorem dX5_vintage_78 : decode cX5_vintage 78 = .ok (.iload_n 1, 1) := by decide +kernel
theorem dX5_vintage_79 : decode cX5_vintage 79 = .ok (.iaload, 1) := by decide +kernel
theorem dX5_vintage_80 : decode cX5_vintage 80 = .ok (.ireturn, 1) := by decide +kernel
theorem dX5_vintage_81 : decode cX5_vintage 81 = .ok (.aload_n 0, 1) := by decide +kernel
theorem dX5_vintage_82 : decode cX5_vintage 82 = .ok (.getfield 12, 3) := by decide +kernel
theorem dX5_vintage_85 : decode cX5_vintage 85 = .ok (.getfield 104, 3) := by decide +kernel
theorem dX5_vintage_88 : decode cX5_vintage 88 = .ok (.iload_n 1, 1) := by decide +kernel
theorem dX5_vintage_89 : decode cX5_vintage 89 = .ok (.iaload, 1) := by decide +kernel
theorem dX5_vintage_90 : decode cX5_vintage 90 = .ok (.ireturn, 1) := by decide +kernel
theorem dX5_vintage_91 : decode cX5_vintage 91 = .ok (.aload_n 0, 1) := by decide +kernel
theorem dX5_vintage_92 : decode cX5_vintage 92 = .ok (.getfield 12, 3) := by decide +kernel
theorem dX5_vintage_95 : decode cX5_vintage 95 = .ok (.getfield 213, 3) := by decide +kernel
theorem dX5_vintage_98 : decode cX5_vintage 98 = .ok (.iload_n 1, 1) := by decide +kernel
theorem dX5_vintage_99 : decode cX5_vintage 99 = .ok (.iaload, 1) := by decide +kernel
theorem dX5_vintage_100 : decode cX5_vintage 100 = .ok (.ireturn, 1) := by decide +kernel
theorem dX5_vintage_101 : decode cX5_vintage 101 = .ok (.aload_n 0, 1) := by decide +kernel
theorem dX5_vintage_102 : decode cX5_vintage 102 = .ok (.getfield 12, 3) := by decide +kernel
theorem dX5_vintage_105 : decode cX5_vintage 105 = .ok (.iload_n 1, 1) := by decide +kernel
theorem dX5_vintage_106 : decode cX5_vintage 106 = .ok (.invokevirtual 216, 3) := by decide +kernel
theorem dX5_vintage_109 : decode cX5_vintage 109 = .ok (.ireturn, 1) := by decide +kernel
theorem dX5_vintage_110 : decode cX5_vintage 110 = .ok (.aload_n 0, 1) := by decide +kernel
theorem dX5_vintage_111 : decode cX5_vintage 111 = .ok (.getfield 12, 3) := by decide +kernel
theorem dX5_vintage_114 : decode cX5_vintage 114 = .ok (.iload_n 1, 1) := by decide +kernel
theorem dX5_vintage_115 : decode cX5_vintage 115 = .ok (.invokevirtual 219, 3) := by decide +kernel
theorem dX5_vintage_118 : decode cX5_vintage 118 = .ok (.ireturn, 1) := by decide +kernel
theorem dX5_vintage_119 : decode cX5_vintage 119 = .ok (.bipush (-2), 2) := by decide +kernel
theorem dX5_vintage_121 : decode cX5_vintage 121 = .ok (.ireturn, 1) := by decide +kernel
theorem dX5_grade_0 : decode cX5_grade 0 = .ok (.iload_n 1, 1) := by decide +kernel
theorem dX5_grade_1 : decode cX5_grade 1 = .ok (.invokestatic 85, 3) := by decide +kernel
theorem dX5_grade_4 : decode cX5_grade 4 = .ok (.ifCond .ne 5, 3) := by decide +kernel
theorem dX5_grade_7 : decode cX5_grade 7 = .ok (.iconst (-1), 1) := by decide +kernel
theorem dX5_grade_8 : decode cX5_grade 8 = .ok (.ireturn, 1) := by decide +kernel
theorem dX5_grade_9 : decode cX5_grade 9 = .ok (.iload_n 2, 1) := by decide +kernel
theorem dX5_grade_10 : decode cX5_grade 10 = .ok (.tableswitch 55 0 2 #[26, 36, 45], 26) := by decide +kernel
theorem dX5_grade_36 : decode cX5_grade 36 = .ok (.aload_n 0, 1) := by decide +kernel
theorem dX5_grade_37 : decode cX5_grade 37 = .ok (.getfield 12, 3) := by decide +kernel
theorem dX5_grade_40 : decode cX5_grade 40 = .ok (.getfield 91, 3) := by decide +kernel
theorem dX5_grade_43 : decode cX5_grade 43 = .ok (.iload_n 1, 1) := by decide +kernel
theorem dX5_grade_44 : decode cX5_grade 44 = .ok (.iaload, 1) := by decide +kernel
theorem dX5_grade_45 : decode cX5_grade 45 = .ok (.ireturn, 1) := by decide +kernel
theorem dX5_grade_46 : decode cX5_grade 46 = .ok (.aload_n 0, 1) := by decide +kernel
theorem dX5_grade_47 : decode cX5_grade 47 = .ok (.getfield 12, 3) := by decide +kernel
theorem dX5_grade_50 : decode cX5_grade 50 = .ok (.iload_n 1, 1) := by decide +kernel
theorem dX5_grade_51 : decode cX5_grade 51 = .ok (.invokevirtual 222, 3) := by decide +kernel
theorem dX5_grade_54 : decode cX5_grade 54 = .ok (.ireturn, 1) := by decide +kernel
theorem dX5_grade_55 : decode cX5_grade 55 = .ok (.aload_n 0, 1) := by decide +kernel
theorem dX5_grade_56 : decode cX5_grade 56 = .ok (.getfield 12, 3) := by decide +kernel
theorem dX5_grade_59 : decode cX5_grade 59 = .ok (.getfield 225, 3) := by decide +kernel
theorem dX5_grade_62 : decode cX5_grade 62 = .ok (.iload_n 1, 1) := by decide +kernel
theorem dX5_grade_63 : decode cX5_grade 63 = .ok (.iaload, 1) := by decide +kernel
theorem dX5_grade_64 : decode cX5_grade 64 = .ok (.ireturn, 1) := by decide +kernel
theorem dX5_grade_65 : decode cX5_grade 65 = .ok (.bipush (-2), 2) := by decide +kernel
theorem dX5_grade_67 : decode cX5_grade 67 = .ok (.ireturn, 1) := by decide +kernel
theorem dX5_holder_0 : decode cX5_holder 0 = .ok (.iload_n 1, 1) := by decide +kernel
theorem dX5_holder_1 : decode cX5_holder 1 = .ok (.invokestatic 101, 3) := by decide +kernel
theorem dX5_holder_4 : decode cX5_holder 4 = .ok (.ifCond .ne 5, 3) := by decide +kernel
theorem dX5_holder_7 : decode cX5_holder 7 = .ok (.iconst (-1), 1) := by decide +kernel
theorem dX5_holder_8 : decode cX5_holder 8 = .ok (.ireturn, 1) := by decide +kernel
theorem dX5_holder_9 : decode cX5_holder 9 = .ok (.iload_n 2, 1) := by decide +kernel
theorem dX5_holder_10 : decode cX5_holder 10 = .ok (.ifCond .ge 6, 3) := by decide +kernel
theorem dX5_holder_13 : decode cX5_holder 13 = .ok (.bipush (-2), 2) := by decide +kernel
theorem dX5_holder_15 : decode cX5_holder 15 = .ok (.ireturn, 1) := by decide +kernel
theorem dX5_holder_16 : decode cX5_holder 16 = .ok (.aload_n 0, 1) := by decide +kernel
theorem dX5_holder_17 : decode cX5_holder 17 = .ok (.getfield 12, 3) := by decide +kernel
theorem dX5_holder_20 : decode cX5_holder 20 = .ok (.iload_n 1, 1) := by decide +kernel
theorem dX5_holder_21 : decode cX5_holder 21 = .ok (.iload_n 2, 1) := by decide +kernel
theorem dX5_holder_22 : decode cX5_holder 22 = .ok (.invokevirtual 228, 3) := by decide +kernel
theorem dX5_holder_25 : decode cX5_holder 25 = .ok (.ireturn, 1) := by decide +kernel
theorem dX5_plan_0 : decode cX5_plan 0 = .ok (.aload_n 0, 1) := by decide +kernel
theorem dX5_plan_1 : decode cX5_plan 1 = .ok (.getfield 12, 3) := by decide +kernel
theorem dX5_plan_4 : decode cX5_plan 4 = .ok (.iload_n 1, 1) := by decide +kernel
theorem dX5_plan_5 : decode cX5_plan 5 = .ok (.invokevirtual 65, 3) := by decide +kernel
theorem dX5_plan_8 : decode cX5_plan 8 = .ok (.astore 5, 2) := by decide +kernel
theorem dX5_plan_10 : decode cX5_plan 10 = .ok (.aload 5, 2) := by decide +kernel
theorem dX5_plan_12 : decode cX5_plan 12 = .ok (.ifnonnull 5, 3) := by decide +kernel
theorem dX5_plan_15 : decode cX5_plan 15 = .ok (.iconst (-1), 1) := by decide +kernel
theorem dX5_plan_16 : decode cX5_plan 16 = .ok (.ireturn, 1) := by decide +kernel
theorem dX5_plan_17 : decode cX5_plan 17 = .ok (.iload_n 2, 1) := by decide +kernel
theorem dX5_plan_18 : decode cX5_plan 18 = .ok (.invokestatic 69, 3) := by decide +kernel
theorem dX5_plan_21 : decode cX5_plan 21 = .ok (.ifCond .eq 21, 3) := by decide +kernel
theorem dX5_plan_24 : decode cX5_plan 24 = .ok (.iload_n 3, 1) := by decide +kernel
theorem dX5_plan_25 : decode cX5_plan 25 = .ok (.invokestatic 113, 3) := by decide +kernel
theorem dX5_plan_28 : decode cX5_plan 28 = .ok (.ifCond .eq 14, 3) := by decide +kernel
theorem dX5_plan_31 : decode cX5_plan 31 = .ok (.iload 4, 2) := by decide +kernel
theorem dX5_plan_33 : decode cX5_plan 33 = .ok (.ifCond .lt 9, 3) := by decide +kernel
theorem dX5_plan_36 : decode cX5_plan 36 = .ok (.iload 4, 2) := by decide +kernel
theorem dX5_plan_38 : decode cX5_plan 38 = .ok (.iconst 5, 1) := by decide +kernel
theorem dX5_plan_39 : decode cX5_plan 39 = .ok (.if_icmp .le 6, 3) := by decide +kernel
theorem dX5_plan_42 : decode cX5_plan 42 = .ok (.bipush (-2), 2) := by decide +kernel
theorem dX5_plan_44 : decode cX5_plan 44 = .ok (.ireturn, 1) := by decide +kernel
theorem dX5_plan_45 : decode cX5_plan 45 = .ok (.aload_n 0, 1) := by decide +kernel
theorem dX5_plan_46 : decode cX5_plan 46 = .ok (.getfield 32, 3) := by decide +kernel
theorem dX5_plan_49 : decode cX5_plan 49 = .ok (.aload 5, 2) := by decide +kernel
theorem dX5_plan_51 : decode cX5_plan 51 = .ok (.aload_n 0, 1) := by decide +kernel
theorem dX5_plan_52 : decode cX5_plan 52 = .ok (.getfield 12, 3) := by decide +kernel
theorem dX5_plan_55 : decode cX5_plan 55 = .ok (.getfield 62, 3) := by decide +kernel
theorem dX5_plan_58 : decode cX5_plan 58 = .ok (.iload_n 2, 1) := by decide +kernel
theorem dX5_plan_59 : decode cX5_plan 59 = .ok (.iload_n 3, 1) := by decide +kernel
theorem dX5_plan_60 : decode cX5_plan 60 = .ok (.invokevirtual 119, 3) := by decide +kernel
theorem dX5_plan_63 : decode cX5_plan 63 = .ok (.aload_n 0, 1) := by decide +kernel
theorem dX5_plan_64 : decode cX5_plan 64 = .ok (.getfield 32, 3) := by decide +kernel
theorem dX5_plan_67 : decode cX5_plan 67 = .ok (.getfield 123, 3) := by decide +kernel
theorem dX5_plan_70 : decode cX5_plan 70 = .ok (.ifCond .le 6, 3) := by decide +kernel
theorem dX5_plan_73 : decode cX5_plan 73 = .ok (.bipush (-4), 2) := by decide +kernel
theorem dX5_plan_75 : decode cX5_plan 75 = .ok (.ireturn, 1) := by decide +kernel
theorem dX5_plan_76 : decode cX5_plan 76 = .ok (.iload 4, 2) := by decide +kernel
theorem dX5_plan_78 : decode cX5_plan 78 = .ok (.tableswitch 80 0 4 #[34, 42, 52, 62, 72], 34) := by decide +kernel
theorem dX5_plan_112 : decode cX5_plan 112 = .ok (.aload_n 0, 1) := by decide +kernel
theorem dX5_plan_113 : decode cX5_plan 113 = .ok (.getfield 32, 3) := by decide +kernel
theorem dX5_plan_116 : decode cX5_plan 116 = .ok (.getfield 231, 3) := by decide +kernel
theorem dX5_plan_119 : decode cX5_plan 119 = .ok (.ireturn, 1) := by decide +kernel
theorem dX5_plan_120 : decode cX5_plan 120 = .ok (.aload_n 0, 1) := by decide +kernel
theorem dX5_plan_121 : decode cX5_plan 121 = .ok (.getfield 32, 3) := by decide +kernel
theorem dX5_plan_124 : decode cX5_plan 124 = .ok (.getfield 234, 3) := by decide +kernel
theorem dX5_plan_127 : decode cX5_plan 127 = .ok (.iconst 0, 1) := by decide +kernel
theorem dX5_plan_128 : decode cX5_plan 128 = .ok (.iaload, 1) := by decide +kernel
theorem dX5_plan_129 : decode cX5_plan 129 = .ok (.ireturn, 1) := by decide +kernel
theorem dX5_plan_130 : decode cX5_plan 130 = .ok (.aload_n 0, 1) := by decide +kernel
theorem dX5_plan_131 : decode cX5_plan 131 = .ok (.getfield 32, 3) := by decide +kernel
theorem dX5_plan_134 : decode cX5_plan 134 = .ok (.getfield 234, 3) := by decide +kernel
theorem dX5_plan_137 : decode cX5_plan 137 = .ok (.iconst 1, 1) := by decide +kernel
theorem dX5_plan_138 : decode cX5_plan 138 = .ok (.iaload, 1) := by decide +kernel
theorem dX5_plan_139 : decode cX5_plan 139 = .ok (.ireturn, 1) := by decide +kernel
theorem dX5_plan_140 : decode cX5_plan 140 = .ok (.aload_n 0, 1) := by decide +kernel
theorem dX5_plan_141 : decode cX5_plan 141 = .ok (.getfield 32, 3) := by decide +kernel
theorem dX5_plan_144 : decode cX5_plan 144 = .ok (.getfield 234, 3) := by decide +kernel
theorem dX5_plan_147 : decode cX5_plan 147 = .ok (.iconst 2, 1) := by decide +kernel
theorem dX5_plan_148 : decode cX5_plan 148 = .ok (.iaload, 1) := by decide +kernel
theorem dX5_plan_149 : decode cX5_plan 149 = .ok (.ireturn, 1) := by decide +kernel
theorem dX5_plan_150 : decode cX5_plan 150 = .ok (.aload_n 0, 1) := by decide +kernel
theorem dX5_plan_151 : decode cX5_plan 151 = .ok (.getfield 32, 3) := by decide +kernel
theorem dX5_plan_154 : decode cX5_plan 154 = .ok (.getfield 237, 3) := by decide +kernel
theorem dX5_plan_157 : decode cX5_plan 157 = .ok (.ireturn, 1) := by decide +kernel
theorem dX5_plan_158 : decode cX5_plan 158 = .ok (.aload_n 0, 1) := by decide +kernel
theorem dX5_plan_159 : decode cX5_plan 159 = .ok (.getfield 32, 3) := by decide +kernel
theorem dX5_plan_162 : decode cX5_plan 162 = .ok (.getfield 240, 3) := by decide +kernel
theorem dX5_plan_165 : decode cX5_plan 165 = .ok (.ireturn, 1) := by decide +kernel
theorem dX5_count_0 : decode cX5_count 0 = .ok (.iload_n 1, 1) := by decide +kernel
theorem dX5_count_1 : decode cX5_count 1 = .ok (.iconst 3, 1) := by decide +kernel
theorem dX5_count_2 : decode cX5_count 2 = .ok (.if_icmp .lt 21, 3) := by decide +kernel
theorem dX5_count_5 : decode cX5_count 5 = .ok (.iload_n 1, 1) := by decide +kernel
theorem dX5_count_6 : decode cX5_count 6 = .ok (.bipush 8, 2) := by decide +kernel
theorem dX5_count_8 : decode cX5_count 8 = .ok (.if_icmp .ge 15, 3) := by decide +kernel
theorem dX5_count_11 : decode cX5_count 11 = .ok (.aload_n 0, 1) := by decide +kernel
theorem dX5_count_12 : decode cX5_count 12 = .ok (.getfield 12, 3) := by decide +kernel
theorem dX5_count_15 : decode cX5_count 15 = .ok (.getfield 62, 3) := by decide +kernel
theorem dX5_count_18 : decode cX5_count 18 = .ok (.iload_n 1, 1) := by decide +kernel
theorem dX5_count_19 : decode cX5_count 19 = .ok (.iconst 3, 1) := by decide +kernel
theorem dX5_count_20 : decode cX5_count 20 = .ok (.isub, 1) := by decide +kernel
theorem dX5_count_21 : decode cX5_count 21 = .ok (.iaload, 1) := by decide +kernel
theorem dX5_count_22 : decode cX5_count 22 = .ok (.ireturn, 1) := by decide +kernel
theorem dX5_count_23 : decode cX5_count 23 = .ok (.iload_n 1, 1) := by decide +kernel
theorem dX5_count_24 : decode cX5_count 24 = .ok (.tableswitch 156 0 14 #[76, 84, 92, 156, 156, 156, 156, 156, 100, 108, 116, 124, 132, 140, 148], 76) := by decide +kernel
theorem dX5_count_100 : decode cX5_count 100 = .ok (.aload_n 0, 1) := by decide +kernel
theorem dX5_count_101 : decode cX5_count 101 = .ok (.getfield 12, 3) := by decide +kernel
theorem dX5_count_104 : decode cX5_count 104 = .ok (.getfield 133, 3) := by decide +kernel
theorem dX5_count_107 : decode cX5_count 107 = .ok (.ireturn, 1) := by decide +kernel
theorem dX5_count_108 : decode cX5_count 108 = .ok (.aload_n 0, 1) := by decide +kernel
theorem dX5_count_109 : decode cX5_count 109 = .ok (.getfield 12, 3) := by decide +kernel
theorem dX5_count_112 : decode cX5_count 112 = .ok (.invokevirtual 73, 3) := by decide +kernel
theorem dX5_count_115 : decode cX5_count 115 = .ok (.ireturn, 1) := by decide +kernel
theorem dX5_count_116 : decode cX5_count 116 = .ok (.aload_n 0, 1) := by decide +kernel
theorem dX5_count_117 : decode cX5_count 117 = .ok (.getfield 12, 3) := by decide +kernel
theorem dX5_count_120 : decode cX5_count 120 = .ok (.getfield 47, 3) := by decide +kernel
theorem dX5_count_123 : decode cX5_count 123 = .ok (.ireturn, 1) := by decide +kernel
theorem dX5_count_124 : decode cX5_count 124 = .ok (.aload_n 0, 1) := by decide +kernel
theorem dX5_count_125 : decode cX5_count 125 = .ok (.getfield 12, 3) := by decide +kernel
theorem dX5_count_128 : decode cX5_count 128 = .ok (.invokevirtual 243, 3) := by decide +kernel
theorem dX5_count_131 : decode cX5_count 131 = .ok (.ireturn, 1) := by decide +kernel
theorem dX5_count_132 : decode cX5_count 132 = .ok (.aload_n 0, 1) := by decide +kernel
theorem dX5_count_133 : decode cX5_count 133 = .ok (.getfield 12, 3) := by decide +kernel
theorem dX5_count_136 : decode cX5_count 136 = .ok (.invokevirtual 246, 3) := by decide +kernel
theorem dX5_count_139 : decode cX5_count 139 = .ok (.ireturn, 1) := by decide +kernel
theorem dX5_count_140 : decode cX5_count 140 = .ok (.aload_n 0, 1) := by decide +kernel
theorem dX5_count_141 : decode cX5_count 141 = .ok (.getfield 12, 3) := by decide +kernel
theorem dX5_count_144 : decode cX5_count 144 = .ok (.invokevirtual 249, 3) := by decide +kernel
theorem dX5_count_147 : decode cX5_count 147 = .ok (.ireturn, 1) := by decide +kernel
theorem dX5_count_148 : decode cX5_count 148 = .ok (.aload_n 0, 1) := by decide +kernel
theorem dX5_count_149 : decode cX5_count 149 = .ok (.getfield 12, 3) := by decide +kernel
theorem dX5_count_152 : decode cX5_count 152 = .ok (.invokevirtual 252, 3) := by decide +kernel
theorem dX5_count_155 : decode cX5_count 155 = .ok (.ireturn, 1) := by decide +kernel
theorem dX5_count_156 : decode cX5_count 156 = .ok (.aload_n 0, 1) := by decide +kernel
theorem dX5_count_157 : decode cX5_count 157 = .ok (.getfield 12, 3) := by decide +kernel
theorem dX5_count_160 : decode cX5_count 160 = .ok (.invokevirtual 255, 3) := by decide +kernel
theorem dX5_count_163 : decode cX5_count 163 = .ok (.ireturn, 1) := by decide +kernel
theorem dX5_count_164 : decode cX5_count 164 = .ok (.aload_n 0, 1) := by decide +kernel
theorem dX5_count_165 : decode cX5_count 165 = .ok (.getfield 25, 3) := by decide +kernel
theorem dX5_count_168 : decode cX5_count 168 = .ok (.getfield 172, 3) := by decide +kernel
theorem dX5_count_171 : decode cX5_count 171 = .ok (.ireturn, 1) := by decide +kernel
theorem dX5_count_172 : decode cX5_count 172 = .ok (.aload_n 0, 1) := by decide +kernel
theorem dX5_count_173 : decode cX5_count 173 = .ok (.getfield 39, 3) := by decide +kernel
theorem dX5_count_176 : decode cX5_count 176 = .ok (.getfield 139, 3) := by decide +kernel
theorem dX5_count_179 : decode cX5_count 179 = .ok (.ireturn, 1) := by decide +kernel
theorem dX5_count_180 : decode cX5_count 180 = .ok (.bipush (-2), 2) := by decide +kernel
theorem dX5_count_182 : decode cX5_count 182 = .ok (.ireturn, 1) := by decide +kernel
theorem dX5_isVintage_0 : decode cX5_isVintage 0 = .ok (.iload_n 0, 1) := by decide +kernel
theorem dX5_isVintage_1 : decode cX5_isVintage 1 = .ok (.ifCond .lt 13, 3) := by decide +kernel
theorem dX5_isVintage_4 : decode cX5_isVintage 4 = .ok (.iload_n 0, 1) := by decide +kernel
theorem dX5_isVintage_5 : decode cX5_isVintage 5 = .ok (.bipush 20, 2) := by decide +kernel
theorem dX5_isVintage_7 : decode cX5_isVintage 7 = .ok (.if_icmp .ge 7, 3) := by decide +kernel
theorem dX5_isVintage_10 : decode cX5_isVintage 10 = .ok (.iconst 1, 1) := by decide +kernel
theorem dX5_isVintage_11 : decode cX5_isVintage 11 = .ok (.goto 4, 3) := by decide +kernel
theorem dX5_isVintage_14 : decode cX5_isVintage 14 = .ok (.iconst 0, 1) := by decide +kernel
theorem dX5_isVintage_15 : decode cX5_isVintage 15 = .ok (.ireturn, 1) := by decide +kernel
theorem dX5_isGrade_0 : decode cX5_isGrade 0 = .ok (.iload_n 0, 1) := by decide +kernel
theorem dX5_isGrade_1 : decode cX5_isGrade 1 = .ok (.ifCond .lt 12, 3) := by decide +kernel
theorem dX5_isGrade_4 : decode cX5_isGrade 4 = .ok (.iload_n 0, 1) := by decide +kernel
theorem dX5_isGrade_5 : decode cX5_isGrade 5 = .ok (.iconst 3, 1) := by decide +kernel
theorem dX5_isGrade_6 : decode cX5_isGrade 6 = .ok (.if_icmp .ge 7, 3) := by decide +kernel
theorem dX5_isGrade_9 : decode cX5_isGrade 9 = .ok (.iconst 1, 1) := by decide +kernel
theorem dX5_isGrade_10 : decode cX5_isGrade 10 = .ok (.goto 4, 3) := by decide +kernel
theorem dX5_isGrade_13 : decode cX5_isGrade 13 = .ok (.iconst 0, 1) := by decide +kernel
theorem dX5_isGrade_14 : decode cX5_isGrade 14 = .ok (.ireturn, 1) := by decide +kernel
theorem dX5_isTonnes_0 : decode cX5_isTonnes 0 = .ok (.iload_n 0, 1) := by decide +kernel
theorem dX5_isTonnes_1 : decode cX5_isTonnes 1 = .ok (.iconst 1, 1) := by decide +kernel
theorem dX5_isTonnes_2 : decode cX5_isTonnes 2 = .ok (.if_icmp .lt 14, 3) := by decide +kernel
theorem dX5_isTonnes_5 : decode cX5_isTonnes 5 = .ok (.iload_n 0, 1) := by decide +kernel
theorem dX5_isTonnes_6 : decode cX5_isTonnes 6 = .ok (.sipush 9999, 3) := by decide +kernel
theorem dX5_isTonnes_9 : decode cX5_isTonnes 9 = .ok (.if_icmp .gt 7, 3) := by decide +kernel
theorem dX5_isTonnes_12 : decode cX5_isTonnes 12 = .ok (.iconst 1, 1) := by decide +kernel
theorem dX5_isTonnes_13 : decode cX5_isTonnes 13 = .ok (.goto 4, 3) := by decide +kernel
theorem dX5_isTonnes_16 : decode cX5_isTonnes 16 = .ok (.iconst 0, 1) := by decide +kernel
theorem dX5_isTonnes_17 : decode cX5_isTonnes 17 = .ok (.ireturn, 1) := by decide +kernel
theorem dX5_isWay_0 : decode cX5_isWay 0 = .ok (.iload_n 0, 1) := by decide +kernel
theorem dX5_isWay_1 : decode cX5_isWay 1 = .ok (.ifCond .lt 12, 3) := by decide +kernel
theorem dX5_isWay_4 : decode cX5_isWay 4 = .ok (.iload_n 0, 1) := by decide +kernel
theorem dX5_isWay_5 : decode cX5_isWay 5 = .ok (.iconst 2, 1) := by decide +kernel
theorem dX5_isWay_6 : decode cX5_isWay 6 = .ok (.if_icmp .gt 7, 3) := by decide +kernel
theorem dX5_isWay_9 : decode cX5_isWay 9 = .ok (.iconst 1, 1) := by decide +kernel
theorem dX5_isWay_10 : decode cX5_isWay 10 = .ok (.goto 4, 3) := by decide +kernel
theorem dX5_isWay_13 : decode cX5_isWay 13 = .ok (.iconst 0, 1) := by decide +kernel
theorem dX5_isWay_14 : decode cX5_isWay 14 = .ok (.ireturn, 1) := by decide +kernel
theorem dX5_copyState_0 : decode cX5_copyState 0 = .ok (.aload_n 0, 1) := by decide +kernel
theorem dX5_copyState_1 : decode cX5_copyState 1 = .ok (.ifnull 7, 3) := by decide +kernel
theorem dX5_copyState_4 : decode cX5_copyState 4 = .ok (.aload_n 1, 1) := by decide +kernel
theorem dX5_copyState_5 : decode cX5_copyState 5 = .ok (.ifnonnull 4, 3) := by decide +kernel
theorem dX5_copyState_8 : decode cX5_copyState 8 = .ok (.return_, 1) := by decide +kernel
theorem dX5_copyState_9 : decode cX5_copyState 9 = .ok (.aload_n 1, 1) := by decide +kernel
theorem dX5_copyState_10 : decode cX5_copyState 10 = .ok (.aload_n 0, 1) := by decide +kernel
theorem dX5_copyState_11 : decode cX5_copyState 11 = .ok (.getfield 133, 3) := by decide +kernel
theorem dX5_copyState_14 : decode cX5_copyState 14 = .ok (.putfield 133, 3) := by decide +kernel
theorem dX5_copyState_17 : decode cX5_copyState 17 = .ok (.aload_n 1, 1) := by decide +kernel
theorem dX5_copyState_18 : decode cX5_copyState 18 = .ok (.aload_n 0, 1) := by decide +kernel
theorem dX5_copyState_19 : decode cX5_copyState 19 = .ok (.getfield 47, 3) := by decide +kernel
theorem dX5_copyState_22 : decode cX5_copyState 22 = .ok (.putfield 47, 3) := by decide +kernel
theorem dX5_copyState_25 : decode cX5_copyState 25 = .ok (.aload_n 0, 1) := by decide +kernel
theorem dX5_copyState_26 : decode cX5_copyState 26 = .ok (.getfield 62, 3) := by decide +kernel
theorem dX5_copyState_29 : decode cX5_copyState 29 = .ok (.aload_n 1, 1) := by decide +kernel
theorem dX5_copyState_30 : decode cX5_copyState 30 = .ok (.getfield 62, 3) := by decide +kernel
theorem dX5_copyState_33 : decode cX5_copyState 33 = .ok (.invokestatic 258, 3) := by decide +kernel
theorem dX5_copyState_36 : decode cX5_copyState 36 = .ok (.aload_n 0, 1) := by decide +kernel
theorem dX5_copyState_37 : decode cX5_copyState 37 = .ok (.getfield 82, 3) := by decide +kernel
theorem dX5_copyState_40 : decode cX5_copyState 40 = .ok (.aload_n 1, 1) := by decide +kernel
theorem dX5_copyState_41 : decode cX5_copyState 41 = .ok (.getfield 82, 3) := by decide +kernel
theorem dX5_copyState_44 : decode cX5_copyState 44 = .ok (.invokestatic 258, 3) := by decide +kernel
theorem dX5_copyState_47 : decode cX5_copyState 47 = .ok (.aload_n 0, 1) := by decide +kernel
theorem dX5_copyState_48 : decode cX5_copyState 48 = .ok (.getfield 211, 3) := by decide +kernel
theorem dX5_copyState_51 : decode cX5_copyState 51 = .ok (.aload_n 1, 1) := by decide +kernel
theorem dX5_copyState_52 : decode cX5_copyState 52 = .ok (.getfield 211, 3) := by decide +kernel
theorem dX5_copyState_55 : decode cX5_copyState 55 = .ok (.invokestatic 258, 3) := by decide +kernel
theorem dX5_copyState_58 : decode cX5_copyState 58 = .ok (.aload_n 0, 1) := by decide +kernel
theorem dX5_copyState_59 : decode cX5_copyState 59 = .ok (.getfield 104, 3) := by decide +kernel
theorem dX5_copyState_62 : decode cX5_copyState 62 = .ok (.aload_n 1, 1) := by decide +kernel
theorem dX5_copyState_63 : decode cX5_copyState 63 = .ok (.getfield 104, 3) := by decide +kernel
theorem dX5_copyState_66 : decode cX5_copyState 66 = .ok (.invokestatic 258, 3) := by decide +kernel
theorem dX5_copyState_69 : decode cX5_copyState 69 = .ok (.aload_n 0, 1) := by decide +kernel
theorem dX5_copyState_70 : decode cX5_copyState 70 = .ok (.getfield 213, 3) := by decide +kernel
theorem dX5_copyState_73 : decode cX5_copyState 73 = .ok (.aload_n 1, 1) := by decide +kernel
theorem dX5_copyState_74 : decode cX5_copyState 74 = .ok (.getfield 213, 3) := by decide +kernel
theorem dX5_copyState_77 : decode cX5_copyState 77 = .ok (.invokestatic 258, 3) := by decide +kernel
theorem dX5_copyState_80 : decode cX5_copyState 80 = .ok (.aload_n 0, 1) := by decide +kernel
theorem dX5_copyState_81 : decode cX5_copyState 81 = .ok (.getfield 91, 3) := by decide +kernel
theorem dX5_copyState_84 : decode cX5_copyState 84 = .ok (.aload_n 1, 1) := by decide +kernel
theorem dX5_copyState_85 : decode cX5_copyState 85 = .ok (.getfield 91, 3) := by decide +kernel
theorem dX5_copyState_88 : decode cX5_copyState 88 = .ok (.invokestatic 258, 3) := by decide +kernel
theorem dX5_copyState_91 : decode cX5_copyState 91 = .ok (.aload_n 0, 1) := by decide +kernel
theorem dX5_copyState_92 : decode cX5_copyState 92 = .ok (.getfield 225, 3) := by decide +kernel
theorem dX5_copyState_95 : decode cX5_copyState 95 = .ok (.aload_n 1, 1) := by decide +kernel
theorem dX5_copyState_96 : decode cX5_copyState 96 = .ok (.getfield 225, 3) := by decide +kernel
theorem dX5_copyState_99 : decode cX5_copyState 99 = .ok (.invokestatic 258, 3) := by decide +kernel
theorem dX5_copyState_102 : decode cX5_copyState 102 = .ok (.iconst 0, 1) := by decide +kernel
theorem dX5_copyState_103 : decode cX5_copyState 103 = .ok (.istore_n 2, 1) := by decide +kernel
theorem dX5_copyState_104 : decode cX5_copyState 104 = .ok (.iload_n 2, 1) := by decide +kernel
theorem dX5_copyState_105 : decode cX5_copyState 105 = .ok (.bipush 8, 2) := by decide +kernel
theorem dX5_copyState_107 : decode cX5_copyState 107 = .ok (.if_icmp .ge 24, 3) := by decide +kernel
theorem dX5_copyState_110 : decode cX5_copyState 110 = .ok (.aload_n 0, 1) := by decide +kernel
theorem dX5_copyState_111 : decode cX5_copyState 111 = .ok (.getfield 262, 3) := by decide +kernel
theorem dX5_copyState_114 : decode cX5_copyState 114 = .ok (.iload_n 2, 1) := by decide +kernel
theorem dX5_copyState_115 : decode cX5_copyState 115 = .ok (.aaload, 1) := by decide +kernel
theorem dX5_copyState_116 : decode cX5_copyState 116 = .ok (.aload_n 1, 1) := by decide +kernel
theorem dX5_copyState_117 : decode cX5_copyState 117 = .ok (.getfield 262, 3) := by decide +kernel
theorem dX5_copyState_120 : decode cX5_copyState 120 = .ok (.iload_n 2, 1) := by decide +kernel
theorem dX5_copyState_121 : decode cX5_copyState 121 = .ok (.aaload, 1) := by decide +kernel
theorem dX5_copyState_122 : decode cX5_copyState 122 = .ok (.invokestatic 266, 3) := by decide +kernel
theorem dX5_copyState_125 : decode cX5_copyState 125 = .ok (.iinc 2 1, 3) := by decide +kernel
theorem dX5_copyState_128 : decode cX5_copyState 128 = .ok (.goto (-24), 3) := by decide +kernel
theorem dX5_copyState_131 : decode cX5_copyState 131 = .ok (.return_, 1) := by decide +kernel
theorem dX5_copyFirm_0 : decode cX5_copyFirm 0 = .ok (.aload_n 0, 1) := by decide +kernel
theorem dX5_copyFirm_1 : decode cX5_copyFirm 1 = .ok (.ifnull 7, 3) := by decide +kernel
theorem dX5_copyFirm_4 : decode cX5_copyFirm 4 = .ok (.aload_n 1, 1) := by decide +kernel
theorem dX5_copyFirm_5 : decode cX5_copyFirm 5 = .ok (.ifnonnull 4, 3) := by decide +kernel
theorem dX5_copyFirm_8 : decode cX5_copyFirm 8 = .ok (.return_, 1) := by decide +kernel
theorem dX5_copyFirm_9 : decode cX5_copyFirm 9 = .ok (.aload_n 0, 1) := by decide +kernel
theorem dX5_copyFirm_10 : decode cX5_copyFirm 10 = .ok (.getfield 77, 3) := by decide +kernel
theorem dX5_copyFirm_13 : decode cX5_copyFirm 13 = .ok (.aload_n 1, 1) := by decide +kernel
theorem dX5_copyFirm_14 : decode cX5_copyFirm 14 = .ok (.getfield 77, 3) := by decide +kernel
theorem dX5_copyFirm_17 : decode cX5_copyFirm 17 = .ok (.invokestatic 258, 3) := by decide +kernel
theorem dX5_copyFirm_20 : decode cX5_copyFirm 20 = .ok (.aload_n 0, 1) := by decide +kernel
theorem dX5_copyFirm_21 : decode cX5_copyFirm 21 = .ok (.getfield 88, 3) := by decide +kernel
theorem dX5_copyFirm_24 : decode cX5_copyFirm 24 = .ok (.aload_n 1, 1) := by decide +kernel
theorem dX5_copyFirm_25 : decode cX5_copyFirm 25 = .ok (.getfield 88, 3) := by decide +kernel
theorem dX5_copyFirm_28 : decode cX5_copyFirm 28 = .ok (.invokestatic 258, 3) := by decide +kernel
theorem dX5_copyFirm_31 : decode cX5_copyFirm 31 = .ok (.aload_n 0, 1) := by decide +kernel
theorem dX5_copyFirm_32 : decode cX5_copyFirm 32 = .ok (.getfield 204, 3) := by decide +kernel
theorem dX5_copyFirm_35 : decode cX5_copyFirm 35 = .ok (.aload_n 1, 1) := by decide +kernel
theorem dX5_copyFirm_36 : decode cX5_copyFirm 36 = .ok (.getfield 204, 3) := by decide +kernel
theorem dX5_copyFirm_39 : decode cX5_copyFirm 39 = .ok (.invokestatic 258, 3) := by decide +kernel
theorem dX5_copyFirm_42 : decode cX5_copyFirm 42 = .ok (.aload_n 1, 1) := by decide +kernel
theorem dX5_copyFirm_43 : decode cX5_copyFirm 43 = .ok (.aload_n 0, 1) := by decide +kernel
theorem dX5_copyFirm_44 : decode cX5_copyFirm 44 = .ok (.getfield 107, 3) := by decide +kernel
theorem dX5_copyFirm_47 : decode cX5_copyFirm 47 = .ok (.putfield 107, 3) := by decide +kernel
theorem dX5_copyFirm_50 : decode cX5_copyFirm 50 = .ok (.aload_n 1, 1) := by decide +kernel
theorem dX5_copyFirm_51 : decode cX5_copyFirm 51 = .ok (.aload_n 0, 1) := by decide +kernel
theorem dX5_copyFirm_52 : decode cX5_copyFirm 52 = .ok (.getfield 110, 3) := by decide +kernel
theorem dX5_copyFirm_55 : decode cX5_copyFirm 55 = .ok (.putfield 110, 3) := by decide +kernel
theorem dX5_copyFirm_58 : decode cX5_copyFirm 58 = .ok (.aload_n 1, 1) := by decide +kernel
theorem dX5_copyFirm_59 : decode cX5_copyFirm 59 = .ok (.aload_n 0, 1) := by decide +kernel
theorem dX5_copyFirm_60 : decode cX5_copyFirm 60 = .ok (.getfield 190, 3) := by decide +kernel
theorem dX5_copyFirm_63 : decode cX5_copyFirm 63 = .ok (.putfield 190, 3) := by decide +kernel
theorem dX5_copyFirm_66 : decode cX5_copyFirm 66 = .ok (.aload_n 1, 1) := by decide +kernel
theorem dX5_copyFirm_67 : decode cX5_copyFirm 67 = .ok (.aload_n 0, 1) := by decide +kernel
theorem dX5_copyFirm_68 : decode cX5_copyFirm 68 = .ok (.getfield 116, 3) := by decide +kernel
theorem dX5_copyFirm_71 : decode cX5_copyFirm 71 = .ok (.putfield 116, 3) := by decide +kernel
theorem dX5_copyFirm_74 : decode cX5_copyFirm 74 = .ok (.aload_n 1, 1) := by decide +kernel
theorem dX5_copyFirm_75 : decode cX5_copyFirm 75 = .ok (.aload_n 0, 1) := by decide +kernel
theorem dX5_copyFirm_76 : decode cX5_copyFirm 76 = .ok (.getfield 130, 3) := by decide +kernel
theorem dX5_copyFirm_79 : decode cX5_copyFirm 79 = .ok (.putfield 130, 3) := by decide +kernel
theorem dX5_copyFirm_82 : decode cX5_copyFirm 82 = .ok (.aload_n 1, 1) := by decide +kernel
theorem dX5_copyFirm_83 : decode cX5_copyFirm 83 = .ok (.aload_n 0, 1) := by decide +kernel
theorem dX5_copyFirm_84 : decode cX5_copyFirm 84 = .ok (.getfield 193, 3) := by decide +kernel
theorem dX5_copyFirm_87 : decode cX5_copyFirm 87 = .ok (.putfield 193, 3) := by decide +kernel
theorem dX5_copyFirm_90 : decode cX5_copyFirm 90 = .ok (.return_, 1) := by decide +kernel
theorem dX5_copyNumbers_0 : decode cX5_copyNumbers 0 = .ok (.aload_n 0, 1) := by decide +kernel
theorem dX5_copyNumbers_1 : decode cX5_copyNumbers 1 = .ok (.iconst 0, 1) := by decide +kernel
theorem dX5_copyNumbers_2 : decode cX5_copyNumbers 2 = .ok (.aload_n 1, 1) := by decide +kernel
theorem dX5_copyNumbers_3 : decode cX5_copyNumbers 3 = .ok (.iconst 0, 1) := by decide +kernel
theorem dX5_copyNumbers_4 : decode cX5_copyNumbers 4 = .ok (.aload_n 0, 1) := by decide +kernel
theorem dX5_copyNumbers_5 : decode cX5_copyNumbers 5 = .ok (.arraylength, 1) := by decide +kernel
theorem dX5_copyNumbers_6 : decode cX5_copyNumbers 6 = .ok (.aload_n 1, 1) := by decide +kernel
theorem dX5_copyNumbers_7 : decode cX5_copyNumbers 7 = .ok (.arraylength, 1) := by decide +kernel
theorem dX5_copyNumbers_8 : decode cX5_copyNumbers 8 = .ok (.invokestatic 270, 3) := by decide +kernel
theorem dX5_copyNumbers_11 : decode cX5_copyNumbers 11 = .ok (.invokestatic 275, 3) := by decide +kernel
theorem dX5_copyNumbers_14 : decode cX5_copyNumbers 14 = .ok (.return_, 1) := by decide +kernel
theorem dX6_init_0 : decode cX6_init 0 = .ok (.aload_n 0, 1) := by decide +kernel
theorem dX6_init_1 : decode cX6_init 1 = .ok (.invokespecial 1, 3) := by decide +kernel
theorem dX6_init_4 : decode cX6_init 4 = .ok (.aload_n 0, 1) := by decide +kernel
theorem dX6_init_5 : decode cX6_init 5 = .ok (.sipush 2443, 3) := by decide +kernel
theorem dX6_init_8 : decode cX6_init 8 = .ok (.newarray .int, 2) := by decide +kernel
theorem dX6_init_10 : decode cX6_init 10 = .ok (.putfield 7, 3) := by decide +kernel
theorem dX6_init_13 : decode cX6_init 13 = .ok (.aload_n 0, 1) := by decide +kernel
theorem dX6_init_14 : decode cX6_init 14 = .ok (.bipush 60, 2) := by decide +kernel
theorem dX6_init_16 : decode cX6_init 16 = .ok (.newarray .int, 2) := by decide +kernel
theorem dX6_init_18 : decode cX6_init 18 = .ok (.putfield 13, 3) := by decide +kernel
theorem dX6_init_21 : decode cX6_init 21 = .ok (.aload_n 0, 1) := by decide +kernel
theorem dX6_init_22 : decode cX6_init 22 = .ok (.bipush 20, 2) := by decide +kernel
theorem dX6_init_24 : decode cX6_init 24 = .ok (.newarray .int, 2) := by decide +kernel
theorem dX6_init_26 : decode cX6_init 26 = .ok (.putfield 16, 3) := by decide +kernel
theorem dX6_init_29 : decode cX6_init 29 = .ok (.aload_n 0, 1) := by decide +kernel
theorem dX6_init_30 : decode cX6_init 30 = .ok (.iconst 3, 1) := by decide +kernel
theorem dX6_init_31 : decode cX6_init 31 = .ok (.newarray .int, 2) := by decide +kernel
theorem dX6_init_33 : decode cX6_init 33 = .ok (.putfield 19, 3) := by decide +kernel
theorem dX6_init_36 : decode cX6_init 36 = .ok (.aload_n 0, 1) := by decide +kernel
theorem dX6_init_37 : decode cX6_init 37 = .ok (.iconst 4, 1) := by decide +kernel
theorem dX6_init_38 : decode cX6_init 38 = .ok (.newarray .int, 2) := by decide +kernel
theorem dX6_init_40 : decode cX6_init 40 = .ok (.putfield 22, 3) := by decide +kernel
theorem dX6_init_43 : decode cX6_init 43 = .ok (.aload_n 0, 1) := by decide +kernel
theorem dX6_init_44 : decode cX6_init 44 = .ok (.getfield 7, 3) := by decide +kernel
theorem dX6_init_47 : decode cX6_init 47 = .ok (.iconst 2, 1) := by decide +kernel
theorem dX6_init_48 : decode cX6_init 48 = .ok (.bipush 20, 2) := by decide +kernel
theorem dX6_init_50 : decode cX6_init 50 = .ok (.iastore, 1) := by decide +kernel
theorem dX6_init_51 : decode cX6_init 51 = .ok (.aload_n 0, 1) := by decide +kernel
theorem dX6_init_52 : decode cX6_init 52 = .ok (.getfield 7, 3) := by decide +kernel
theorem dX6_init_55 : decode cX6_init 55 = .ok (.iconst 3, 1) := by decide +kernel
theorem dX6_init_56 : decode cX6_init 56 = .ok (.bipush 10, 2) := by decide +kernel
theorem dX6_init_58 : decode cX6_init 58 = .ok (.iastore, 1) := by decide +kernel
theorem dX6_init_59 : decode cX6_init 59 = .ok (.aload_n 0, 1) := by decide +kernel
theorem dX6_init_60 : decode cX6_init 60 = .ok (.getfield 7, 3) := by decide +kernel
theorem dX6_init_63 : decode cX6_init 63 = .ok (.iconst 4, 1) := by decide +kernel
theorem dX6_init_64 : decode cX6_init 64 = .ok (.iconst 5, 1) := by decide +kernel
theorem dX6_init_65 : decode cX6_init 65 = .ok (.iastore, 1) := by decide +kernel
theorem dX6_init_66 : decode cX6_init 66 = .ok (.aload_n 0, 1) := by decide +kernel
theorem dX6_init_67 : decode cX6_init 67 = .ok (.getfield 7, 3) := by decide +kernel
theorem dX6_init_70 : decode cX6_init 70 = .ok (.iconst 5, 1) := by decide +kernel
theorem dX6_init_71 : decode cX6_init 71 = .ok (.iconst 3, 1) := by decide +kernel
theorem dX6_init_72 : decode cX6_init 72 = .ok (.iastore, 1) := by decide +kernel
theorem dX6_init_73 : decode cX6_init 73 = .ok (.aload_n 0, 1) := by decide +kernel
theorem dX6_init_74 : decode cX6_init 74 = .ok (.getfield 7, 3) := by decide +kernel
theorem dX6_init_77 : decode cX6_init 77 = .ok (.bipush 6, 2) := by decide +kernel
theorem dX6_init_79 : decode cX6_init 79 = .ok (.bipush 50, 2) := by decide +kernel
theorem dX6_init_81 : decode cX6_init 81 = .ok (.iastore, 1) := by decide +kernel
theorem dX6_init_82 : decode cX6_init 82 = .ok (.return_, 1) := by decide +kernel
theorem dX6_in_0 : decode cX6_in 0 = .ok (.iload_n 0, 1) := by decide +kernel
theorem dX6_in_1 : decode cX6_in 1 = .ok (.iload_n 1, 1) := by decide +kernel
theorem dX6_in_2 : decode cX6_in 2 = .ok (.if_icmp .lt 12, 3) := by decide +kernel
theorem dX6_in_5 : decode cX6_in 5 = .ok (.iload_n 0, 1) := by decide +kernel
theorem dX6_in_6 : decode cX6_in 6 = .ok (.iload_n 2, 1) := by decide +kernel
theorem dX6_in_7 : decode cX6_in 7 = .ok (.if_icmp .gt 7, 3) := by decide +kernel
theorem dX6_in_10 : decode cX6_in 10 = .ok (.iconst 1, 1) := by decide +kernel
theorem dX6_in_11 : decode cX6_in 11 = .ok (.goto 4, 3) := by decide +kernel
theorem dX6_in_14 : decode cX6_in 14 = .ok (.iconst 0, 1) := by decide +kernel
theorem dX6_in_15 : decode cX6_in 15 = .ok (.ireturn, 1) := by decide +kernel
theorem dX6_of_0 : decode cX6_of 0 = .ok (.bipush 7, 2) := by decide +kernel
theorem dX6_of_2 : decode cX6_of 2 = .ok (.bipush 32, 2) := by decide +kernel
theorem dX6_of_4 : decode cX6_of 4 = .ok (.iload_n 0, 1) := by decide +kernel
theorem dX6_of_5 : decode cX6_of 5 = .ok (.imul, 1) := by decide +kernel
theorem dX6_of_6 : decode cX6_of 6 = .ok (.iadd, 1) := by decide +kernel
theorem dX6_of_7 : decode cX6_of 7 = .ok (.iload_n 1, 1) := by decide +kernel
theorem dX6_of_8 : decode cX6_of 8 = .ok (.iadd, 1) := by decide +kernel
theorem dX6_of_9 : decode cX6_of 9 = .ok (.ireturn, 1) := by decide +kernel
theorem dX6_isFirm_0 : decode cX6_isFirm 0 = .ok (.iload_n 1, 1) := by decide +kernel
theorem dX6_isFirm_1 : decode cX6_isFirm 1 = .ok (.iconst 0, 1) := by decide +kernel
theorem dX6_isFirm_2 : decode cX6_isFirm 2 = .ok (.aload_n 0, 1) := by decide +kernel
theorem dX6_isFirm_3 : decode cX6_isFirm 3 = .ok (.getfield 7, 3) := by decide +kernel
theorem dX6_isFirm_6 : decode cX6_isFirm 6 = .ok (.iconst 1, 1) := by decide +kernel
theorem dX6_isFirm_7 : decode cX6_isFirm 7 = .ok (.iaload, 1) := by decide +kernel
theorem dX6_isFirm_8 : decode cX6_isFirm 8 = .ok (.iconst 1, 1) := by decide +kernel
theorem dX6_isFirm_9 : decode cX6_isFirm 9 = .ok (.isub, 1) := by decide +kernel
theorem dX6_isFirm_10 : decode cX6_isFirm 10 = .ok (.invokestatic 25, 3) := by decide +kernel
theorem dX6_isFirm_13 : decode cX6_isFirm 13 = .ok (.ireturn, 1) := by decide +kernel
theorem dX6_isVintage_0 : decode cX6_isVintage 0 = .ok (.iload_n 0, 1) := by decide +kernel
theorem dX6_isVintage_1 : decode cX6_isVintage 1 = .ok (.iconst 0, 1) := by decide +kernel
theorem dX6_isVintage_2 : decode cX6_isVintage 2 = .ok (.bipush 19, 2) := by decide +kernel
theorem dX6_isVintage_4 : decode cX6_isVintage 4 = .ok (.invokestatic 25, 3) := by decide +kernel
theorem dX6_isVintage_7 : decode cX6_isVintage 7 = .ok (.ireturn, 1) := by decide +kernel
theorem dX6_isGrade_0 : decode cX6_isGrade 0 = .ok (.iload_n 0, 1) := by decide +kernel
theorem dX6_isGrade_1 : decode cX6_isGrade 1 = .ok (.iconst 0, 1) := by decide +kernel
theorem dX6_isGrade_2 : decode cX6_isGrade 2 = .ok (.iconst 2, 1) := by decide +kernel
theorem dX6_isGrade_3 : decode cX6_isGrade 3 = .ok (.invokestatic 25, 3) := by decide +kernel
theorem dX6_isGrade_6 : decode cX6_isGrade 6 = .ok (.ireturn, 1) := by decide +kernel
theorem dX6_isTonnes_0 : decode cX6_isTonnes 0 = .ok (.iload_n 0, 1) := by decide +kernel
theorem dX6_isTonnes_1 : decode cX6_isTonnes 1 = .ok (.iconst 1, 1) := by decide +kernel
theorem dX6_isTonnes_2 : decode cX6_isTonnes 2 = .ok (.sipush 9999, 3) := by decide +kernel
theorem dX6_isTonnes_5 : decode cX6_isTonnes 5 = .ok (.invokestatic 25, 3) := by decide +kernel
theorem dX6_isTonnes_8 : decode cX6_isTonnes 8 = .ok (.ireturn, 1) := by decide +kernel
theorem dX6_year_0 : decode cX6_year 0 = .ok (.aload_n 0, 1) := by decide +kernel
theorem dX6_year_1 : decode cX6_year 1 = .ok (.getfield 7, 3) := by decide +kernel
theorem dX6_year_4 : decode cX6_year 4 = .ok (.iconst 0, 1) := by decide +kernel
theorem dX6_year_5 : decode cX6_year 5 = .ok (.iaload, 1) := by decide +kernel
theorem dX6_year_6 : decode cX6_year 6 = .ok (.bipush 12, 2) := by decide +kernel
theorem dX6_year_8 : decode cX6_year 8 = .ok (.idiv, 1) := by decide +kernel
theorem dX6_year_9 : decode cX6_year 9 = .ok (.ireturn, 1) := by decide +kernel
theorem dX6_copy_0 : decode cX6_copy 0 = .ok (.iconst 0, 1) := by decide +kernel
theorem dX6_copy_1 : decode cX6_copy 1 = .ok (.istore_n 3, 1) := by decide +kernel
theorem dX6_copy_2 : decode cX6_copy 2 = .ok (.iload_n 3, 1) := by decide +kernel
theorem dX6_copy_3 : decode cX6_copy 3 = .ok (.sipush 349, 3) := by decide +kernel
theorem dX6_copy_6 : decode cX6_copy 6 = .ok (.if_icmp .ge 25, 3) := by decide +kernel
theorem dX6_copy_9 : decode cX6_copy 9 = .ok (.aload_n 0, 1) := by decide +kernel
theorem dX6_copy_10 : decode cX6_copy 10 = .ok (.getfield 7, 3) := by decide +kernel
theorem dX6_copy_13 : decode cX6_copy 13 = .ok (.iload_n 2, 1) := by decide +kernel
theorem dX6_copy_14 : decode cX6_copy 14 = .ok (.iload_n 3, 1) := by decide +kernel
theorem dX6_copy_15 : decode cX6_copy 15 = .ok (.iadd, 1) := by decide +kernel
theorem dX6_copy_16 : decode cX6_copy 16 = .ok (.aload_n 0, 1) := by decide +kernel
theorem dX6_copy_17 : decode cX6_copy 17 = .ok (.getfield 7, 3) := by decide +kernel
theorem dX6_copy_20 : decode cX6_copy 20 = .ok (.iload_n 1, 1) := by decide +kernel
theorem dX6_copy_21 : decode cX6_copy 21 = .ok (.iload_n 3, 1) := by decide +kernel
theorem dX6_copy_22 : decode cX6_copy 22 = .ok (.iadd, 1) := by decide +kernel
theorem dX6_copy_23 : decode cX6_copy 23 = .ok (.iaload, 1) := by decide +kernel
theorem dX6_copy_24 : decode cX6_copy 24 = .ok (.iastore, 1) := by decide +kernel
theorem dX6_copy_25 : decode cX6_copy 25 = .ok (.iinc 3 1, 3) := by decide +kernel
theorem dX6_copy_28 : decode cX6_copy 28 = .ok (.goto (-26), 3) := by decide +kernel
theorem dX6_copy_31 : decode cX6_copy 31 = .ok (.return_, 1) := by decide +kernel
theorem dX6_record_0 : decode cX6_record 0 = .ok (.aload_n 0, 1) := by decide +kernel
theorem dX6_record_1 : decode cX6_record 1 = .ok (.getfield 29, 3) := by decide +kernel
theorem dX6_record_4 : decode cX6_record 4 = .ok (.iconst 4, 1) := by decide +kernel
theorem dX6_record_5 : decode cX6_record 5 = .ok (.if_icmp .ne 44, 3) := by decide +kernel
theorem dX6_record_8 : decode cX6_record 8 = .ok (.iconst 1, 1) := by decide +kernel
theorem dX6_record_9 : decode cX6_record 9 = .ok (.istore_n 2, 1) := by decide +kernel
theorem dX6_record_10 : decode cX6_record 10 = .ok (.iload_n 2, 1) := by decide +kernel
theorem dX6_record_11 : decode cX6_record 11 = .ok (.iconst 4, 1) := by decide +kernel
theorem dX6_record_12 : decode cX6_record 12 = .ok (.if_icmp .ge 27, 3) := by decide +kernel
theorem dX6_record_15 : decode cX6_record 15 = .ok (.aload_n 0, 1) := by decide +kernel
theorem dX6_record_16 : decode cX6_record 16 = .ok (.sipush 349, 3) := by decide +kernel
theorem dX6_record_19 : decode cX6_record 19 = .ok (.sipush 349, 3) := by decide +kernel
theorem dX6_record_22 : decode cX6_record 22 = .ok (.iload_n 2, 1) := by decide +kernel
theorem dX6_record_23 : decode cX6_record 23 = .ok (.imul, 1) := by decide +kernel
theorem dX6_record_24 : decode cX6_record 24 = .ok (.iadd, 1) := by decide +kernel
theorem dX6_record_25 : decode cX6_record 25 = .ok (.sipush 349, 3) := by decide +kernel
theorem dX6_record_28 : decode cX6_record 28 = .ok (.iload_n 2, 1) := by decide +kernel
theorem dX6_record_29 : decode cX6_record 29 = .ok (.imul, 1) := by decide +kernel
theorem dX6_record_30 : decode cX6_record 30 = .ok (.invokevirtual 33, 3) := by decide +kernel
theorem dX6_record_33 : decode cX6_record 33 = .ok (.iinc 2 1, 3) := by decide +kernel
theorem dX6_record_36 : decode cX6_record 36 = .ok (.goto (-26), 3) := by decide +kernel
theorem dX6_record_39 : decode cX6_record 39 = .ok (.aload_n 0, 1) := by decide +kernel
theorem dX6_record_40 : decode cX6_record 40 = .ok (.dup, 1) := by decide +kernel
theorem dX6_record_41 : decode cX6_record 41 = .ok (.getfield 29, 3) := by decide +kernel
theorem dX6_record_44 : decode cX6_record 44 = .ok (.iconst 1, 1) := by decide +kernel
theorem dX6_record_45 : decode cX6_record 45 = .ok (.isub, 1) := by decide +kernel
theorem dX6_record_46 : decode cX6_record 46 = .ok (.putfield 29, 3) := by decide +kernel
theorem dX6_record_49 : decode cX6_record 49 = .ok (.aload_n 0, 1) := by decide +kernel
theorem dX6_record_50 : decode cX6_record 50 = .ok (.iload_n 1, 1) := by decide +kernel
theorem dX6_record_51 : decode cX6_record 51 = .ok (.sipush 349, 3) := by decide +kernel
theorem dX6_record_54 : decode cX6_record 54 = .ok (.sipush 349, 3) := by decide +kernel
theorem dX6_record_57 : decode cX6_record 57 = .ok (.aload_n 0, 1) := by decide +kernel
theorem dX6_record_58 : decode cX6_record 58 = .ok (.getfield 29, 3) := by decide +kernel
theorem dX6_record_61 : decode cX6_record 61 = .ok (.imul, 1) := by decide +kernel
theorem dX6_record_62 : decode cX6_record 62 = .ok (.iadd, 1) := by decide +kernel
theorem dX6_record_63 : decode cX6_record 63 = .ok (.invokevirtual 33, 3) := by decide +kernel
theorem dX6_record_66 : decode cX6_record 66 = .ok (.aload_n 0, 1) := by decide +kernel
theorem dX6_record_67 : decode cX6_record 67 = .ok (.dup, 1) := by decide +kernel
theorem dX6_record_68 : decode cX6_record 68 = .ok (.getfield 29, 3) := by decide +kernel
theorem dX6_record_71 : decode cX6_record 71 = .ok (.iconst 1, 1) := by decide +kernel
theorem dX6_record_72 : decode cX6_record 72 = .ok (.iadd, 1) := by decide +kernel
theorem dX6_record_73 : decode cX6_record 73 = .ok (.putfield 29, 3) := by decide +kernel
theorem dX6_record_76 : decode cX6_record 76 = .ok (.return_, 1) := by decide +kernel
theorem dX6_undo_0 : decode cX6_undo 0 = .ok (.aload_n 0, 1) := by decide +kernel
theorem dX6_undo_1 : decode cX6_undo 1 = .ok (.getfield 29, 3) := by decide +kernel
theorem dX6_undo_4 : decode cX6_undo 4 = .ok (.ifCond .ne 6, 3) := by decide +kernel
theorem dX6_undo_7 : decode cX6_undo 7 = .ok (.bipush (-5), 2) := by decide +kernel
theorem dX6_undo_9 : decode cX6_undo 9 = .ok (.ireturn, 1) := by decide +kernel
theorem dX6_undo_10 : decode cX6_undo 10 = .ok (.aload_n 0, 1) := by decide +kernel
theorem dX6_undo_11 : decode cX6_undo 11 = .ok (.dup, 1) := by decide +kernel
theorem dX6_undo_12 : decode cX6_undo 12 = .ok (.getfield 29, 3) := by decide +kernel
theorem dX6_undo_15 : decode cX6_undo 15 = .ok (.iconst 1, 1) := by decide +kernel
theorem dX6_undo_16 : decode cX6_undo 16 = .ok (.isub, 1) := by decide +kernel
theorem dX6_undo_17 : decode cX6_undo 17 = .ok (.putfield 29, 3) := by decide +kernel
theorem dX6_undo_20 : decode cX6_undo 20 = .ok (.aload_n 0, 1) := by decide +kernel
theorem dX6_undo_21 : decode cX6_undo 21 = .ok (.sipush 349, 3) := by decide +kernel
theorem dX6_undo_24 : decode cX6_undo 24 = .ok (.sipush 349, 3) := by decide +kernel
theorem dX6_undo_27 : decode cX6_undo 27 = .ok (.aload_n 0, 1) := by decide +kernel
theorem dX6_undo_28 : decode cX6_undo 28 = .ok (.getfield 29, 3) := by decide +kernel
theorem dX6_undo_31 : decode cX6_undo 31 = .ok (.imul, 1) := by decide +kernel
theorem dX6_undo_32 : decode cX6_undo 32 = .ok (.iadd, 1) := by decide +kernel
theorem dX6_undo_33 : decode cX6_undo 33 = .ok (.iconst 0, 1) := by decide +kernel
theorem dX6_undo_34 : decode cX6_undo 34 = .ok (.invokevirtual 33, 3) := by decide +kernel
theorem dX6_undo_37 : decode cX6_undo 37 = .ok (.aload_n 0, 1) := by decide +kernel
theorem dX6_undo_38 : decode cX6_undo 38 = .ok (.getfield 29, 3) := by decide +kernel
theorem dX6_undo_41 : decode cX6_undo 41 = .ok (.ireturn, 1) := by decide +kernel
theorem dX6_keep_0 : decode cX6_keep 0 = .ok (.aload_n 0, 1) := by decide +kernel
theorem dX6_keep_1 : decode cX6_keep 1 = .ok (.iconst 0, 1) := by decide +kernel
theorem dX6_keep_2 : decode cX6_keep 2 = .ok (.sipush 1745, 3) := by decide +kernel
theorem dX6_keep_5 : decode cX6_keep 5 = .ok (.invokevirtual 33, 3) := by decide +kernel
theorem dX6_keep_8 : decode cX6_keep 8 = .ok (.aload_n 0, 1) := by decide +kernel
theorem dX6_keep_9 : decode cX6_keep 9 = .ok (.iconst 1, 1) := by decide +kernel
theorem dX6_keep_10 : decode cX6_keep 10 = .ok (.putfield 37, 3) := by decide +kernel
theorem dX6_keep_13 : decode cX6_keep 13 = .ok (.aload_n 0, 1) := by decide +kernel
theorem dX6_keep_14 : decode cX6_keep 14 = .ok (.getfield 7, 3) := by decide +kernel
theorem dX6_keep_17 : decode cX6_keep 17 = .ok (.iconst 0, 1) := by decide +kernel
theorem dX6_keep_18 : decode cX6_keep 18 = .ok (.iaload, 1) := by decide +kernel
theorem dX6_keep_19 : decode cX6_keep 19 = .ok (.ireturn, 1) := by decide +kernel
theorem dX6_restore_0 : decode cX6_restore 0 = .ok (.aload_n 0, 1) := by decide +kernel
theorem dX6_restore_1 : decode cX6_restore 1 = .ok (.getfield 37, 3) := by decide +kernel
theorem dX6_restore_4 : decode cX6_restore 4 = .ok (.ifCond .ne 6, 3) := by decide +kernel
theorem dX6_restore_7 : decode cX6_restore 7 = .ok (.bipush (-5), 2) := by decide +kernel
theorem dX6_restore_9 : decode cX6_restore 9 = .ok (.ireturn, 1) := by decide +kernel
theorem dX6_restore_10 : decode cX6_restore 10 = .ok (.aload_n 0, 1) := by decide +kernel
theorem dX6_restore_11 : decode cX6_restore 11 = .ok (.iconst 0, 1) := by decide +kernel
theorem dX6_restore_12 : decode cX6_restore 12 = .ok (.invokevirtual 41, 3) := by decide +kernel
theorem dX6_restore_15 : decode cX6_restore 15 = .ok (.aload_n 0, 1) := by decide +kernel
theorem dX6_restore_16 : decode cX6_restore 16 = .ok (.sipush 1745, 3) := by decide +kernel
theorem dX6_restore_19 : decode cX6_restore 19 = .ok (.iconst 0, 1) := by decide +kernel
theorem dX6_restore_20 : decode cX6_restore 20 = .ok (.invokevirtual 33, 3) := by decide +kernel
theorem dX6_restore_23 : decode cX6_restore 23 = .ok (.aload_n 0, 1) := by decide +kernel
theorem dX6_restore_24 : decode cX6_restore 24 = .ok (.getfield 7, 3) := by decide +kernel
theorem dX6_restore_27 : decode cX6_restore 27 = .ok (.iconst 0, 1) := by decide +kernel
theorem dX6_restore_28 : decode cX6_restore 28 = .ok (.iaload, 1) := by decide +kernel
theorem dX6_restore_29 : decode cX6_restore 29 = .ok (.ireturn, 1) := by decide +kernel
theorem dX6_addFirm_0 : decode cX6_addFirm 0 = .ok (.aload_n 0, 1) := by decide +kernel
theorem dX6_addFirm_1 : decode cX6_addFirm 1 = .ok (.getfield 7, 3) := by decide +kernel
