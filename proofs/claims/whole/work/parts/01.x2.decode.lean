theorem dX10_setback_48 : decode cX10_setback 48 = .ok (.aload_n 0, 1) := by decide +kernel
theorem dX10_setback_49 : decode cX10_setback 49 = .ok (.getfield 66, 3) := by decide +kernel
theorem dX10_setback_52 : decode cX10_setback 52 = .ok (.iload_n 1, 1) := by decide +kernel
theorem dX10_setback_53 : decode cX10_setback 53 = .ok (.putfield 255, 3) := by decide +kernel
theorem dX10_setback_56 : decode cX10_setback 56 = .ok (.iload_n 3, 1) := by decide +kernel
theorem dX10_setback_57 : decode cX10_setback 57 = .ok (.aload_n 0, 1) := by decide +kernel
theorem dX10_setback_58 : decode cX10_setback 58 = .ok (.getfield 66, 3) := by decide +kernel
theorem dX10_setback_61 : decode cX10_setback 61 = .ok (.iload_n 2, 1) := by decide +kernel
theorem dX10_setback_62 : decode cX10_setback 62 = .ok (.invokevirtual 244, 3) := by decide +kernel
theorem dX10_setback_65 : decode cX10_setback 65 = .ok (.isub, 1) := by decide +kernel
theorem dX10_setback_66 : decode cX10_setback 66 = .ok (.ireturn, 1) := by decide +kernel
theorem dX10_works_0 : decode cX10_works 0 = .ok (.aload_n 0, 1) := by decide +kernel
theorem dX10_works_1 : decode cX10_works 1 = .ok (.getfield 27, 3) := by decide +kernel
theorem dX10_works_4 : decode cX10_works 4 = .ok (.iload_n 1, 1) := by decide +kernel
theorem dX10_works_5 : decode cX10_works 5 = .ok (.invokevirtual 110, 3) := by decide +kernel
theorem dX10_works_8 : decode cX10_works 8 = .ok (.ifCond .eq 23, 3) := by decide +kernel
theorem dX10_works_11 : decode cX10_works 11 = .ok (.iload_n 2, 1) := by decide +kernel
theorem dX10_works_12 : decode cX10_works 12 = .ok (.iconst 1, 1) := by decide +kernel
theorem dX10_works_13 : decode cX10_works 13 = .ok (.bipush 99, 2) := by decide +kernel
theorem dX10_works_15 : decode cX10_works 15 = .ok (.invokestatic 90, 3) := by decide +kernel
theorem dX10_works_18 : decode cX10_works 18 = .ok (.ifCond .eq 13, 3) := by decide +kernel
theorem dX10_works_21 : decode cX10_works 21 = .ok (.iload_n 3, 1) := by decide +kernel
theorem dX10_works_22 : decode cX10_works 22 = .ok (.iconst 1, 1) := by decide +kernel
theorem dX10_works_23 : decode cX10_works 23 = .ok (.bipush 50, 2) := by decide +kernel
theorem dX10_works_25 : decode cX10_works 25 = .ok (.invokestatic 90, 3) := by decide +kernel
theorem dX10_works_28 : decode cX10_works 28 = .ok (.ifCond .ne 10, 3) := by decide +kernel
theorem dX10_works_31 : decode cX10_works 31 = .ok (.aload_n 0, 1) := by decide +kernel
theorem dX10_works_32 : decode cX10_works 32 = .ok (.ldc 94, 2) := by decide +kernel
theorem dX10_works_34 : decode cX10_works 34 = .ok (.invokevirtual 95, 3) := by decide +kernel
theorem dX10_works_37 : decode cX10_works 37 = .ok (.ireturn, 1) := by decide +kernel
theorem dX10_works_38 : decode cX10_works 38 = .ok (.aload_n 0, 1) := by decide +kernel
theorem dX10_works_39 : decode cX10_works 39 = .ok (.getfield 66, 3) := by decide +kernel
theorem dX10_works_42 : decode cX10_works 42 = .ok (.aload_n 0, 1) := by decide +kernel
theorem dX10_works_43 : decode cX10_works 43 = .ok (.getfield 27, 3) := by decide +kernel
theorem dX10_works_46 : decode cX10_works 46 = .ok (.invokevirtual 187, 3) := by decide +kernel
theorem dX10_works_49 : decode cX10_works 49 = .ok (.aload_n 0, 1) := by decide +kernel
theorem dX10_works_50 : decode cX10_works 50 = .ok (.getfield 66, 3) := by decide +kernel
theorem dX10_works_53 : decode cX10_works 53 = .ok (.iload_n 3, 1) := by decide +kernel
theorem dX10_works_54 : decode cX10_works 54 = .ok (.invokevirtual 244, 3) := by decide +kernel
theorem dX10_works_57 : decode cX10_works 57 = .ok (.istore 4, 2) := by decide +kernel
theorem dX10_works_59 : decode cX10_works 59 = .ok (.aload_n 0, 1) := by decide +kernel
theorem dX10_works_60 : decode cX10_works 60 = .ok (.getfield 66, 3) := by decide +kernel
theorem dX10_works_63 : decode cX10_works 63 = .ok (.getfield 256, 3) := by decide +kernel
theorem dX10_works_66 : decode cX10_works 66 = .ok (.iload_n 1, 1) := by decide +kernel
theorem dX10_works_67 : decode cX10_works 67 = .ok (.aload_n 0, 1) := by decide +kernel
theorem dX10_works_68 : decode cX10_works 68 = .ok (.getfield 27, 3) := by decide +kernel
theorem dX10_works_71 : decode cX10_works 71 = .ok (.getfield 114, 3) := by decide +kernel
theorem dX10_works_74 : decode cX10_works 74 = .ok (.iload_n 1, 1) := by decide +kernel
theorem dX10_works_75 : decode cX10_works 75 = .ok (.aaload, 1) := by decide +kernel
theorem dX10_works_76 : decode cX10_works 76 = .ok (.iload_n 2, 1) := by decide +kernel
theorem dX10_works_77 : decode cX10_works 77 = .ok (.invokevirtual 148, 3) := by decide +kernel
theorem dX10_works_80 : decode cX10_works 80 = .ok (.iastore, 1) := by decide +kernel
theorem dX10_works_81 : decode cX10_works 81 = .ok (.iload 4, 2) := by decide +kernel
theorem dX10_works_83 : decode cX10_works 83 = .ok (.aload_n 0, 1) := by decide +kernel
theorem dX10_works_84 : decode cX10_works 84 = .ok (.getfield 66, 3) := by decide +kernel
theorem dX10_works_87 : decode cX10_works 87 = .ok (.iload_n 3, 1) := by decide +kernel
theorem dX10_works_88 : decode cX10_works 88 = .ok (.invokevirtual 244, 3) := by decide +kernel
theorem dX10_works_91 : decode cX10_works 91 = .ok (.isub, 1) := by decide +kernel
theorem dX10_works_92 : decode cX10_works 92 = .ok (.ireturn, 1) := by decide +kernel
theorem dX10_complain_0 : decode cX10_complain 0 = .ok (.aload_n 0, 1) := by decide +kernel
theorem dX10_complain_1 : decode cX10_complain 1 = .ok (.getfield 27, 3) := by decide +kernel
theorem dX10_complain_4 : decode cX10_complain 4 = .ok (.iload_n 1, 1) := by decide +kernel
theorem dX10_complain_5 : decode cX10_complain 5 = .ok (.invokevirtual 110, 3) := by decide +kernel
theorem dX10_complain_8 : decode cX10_complain 8 = .ok (.ifCond .eq 12, 3) := by decide +kernel
theorem dX10_complain_11 : decode cX10_complain 11 = .ok (.iload_n 2, 1) := by decide +kernel
theorem dX10_complain_12 : decode cX10_complain 12 = .ok (.iconst 1, 1) := by decide +kernel
theorem dX10_complain_13 : decode cX10_complain 13 = .ok (.iconst 2, 1) := by decide +kernel
theorem dX10_complain_14 : decode cX10_complain 14 = .ok (.invokestatic 90, 3) := by decide +kernel
theorem dX10_complain_17 : decode cX10_complain 17 = .ok (.ifCond .ne 10, 3) := by decide +kernel
theorem dX10_complain_20 : decode cX10_complain 20 = .ok (.aload_n 0, 1) := by decide +kernel
theorem dX10_complain_21 : decode cX10_complain 21 = .ok (.ldc 94, 2) := by decide +kernel
theorem dX10_complain_23 : decode cX10_complain 23 = .ok (.invokevirtual 95, 3) := by decide +kernel
theorem dX10_complain_26 : decode cX10_complain 26 = .ok (.ireturn, 1) := by decide +kernel
theorem dX10_complain_27 : decode cX10_complain 27 = .ok (.aload_n 0, 1) := by decide +kernel
theorem dX10_complain_28 : decode cX10_complain 28 = .ok (.getfield 32, 3) := by decide +kernel
theorem dX10_complain_31 : decode cX10_complain 31 = .ok (.getfield 258, 3) := by decide +kernel
theorem dX10_complain_34 : decode cX10_complain 34 = .ok (.bipush 24, 2) := by decide +kernel
theorem dX10_complain_36 : decode cX10_complain 36 = .ok (.if_icmp .lt 10, 3) := by decide +kernel
theorem dX10_complain_39 : decode cX10_complain 39 = .ok (.aload_n 0, 1) := by decide +kernel
theorem dX10_complain_40 : decode cX10_complain 40 = .ok (.ldc 105, 2) := by decide +kernel
theorem dX10_complain_42 : decode cX10_complain 42 = .ok (.invokevirtual 95, 3) := by decide +kernel
theorem dX10_complain_45 : decode cX10_complain 45 = .ok (.ireturn, 1) := by decide +kernel
theorem dX10_complain_46 : decode cX10_complain 46 = .ok (.aload_n 0, 1) := by decide +kernel
theorem dX10_complain_47 : decode cX10_complain 47 = .ok (.getfield 32, 3) := by decide +kernel
theorem dX10_complain_50 : decode cX10_complain 50 = .ok (.aload_n 0, 1) := by decide +kernel
theorem dX10_complain_51 : decode cX10_complain 51 = .ok (.getfield 27, 3) := by decide +kernel
theorem dX10_complain_54 : decode cX10_complain 54 = .ok (.iload_n 1, 1) := by decide +kernel
theorem dX10_complain_55 : decode cX10_complain 55 = .ok (.iload_n 2, 1) := by decide +kernel
theorem dX10_complain_56 : decode cX10_complain 56 = .ok (.invokevirtual 261, 3) := by decide +kernel
theorem dX10_complain_59 : decode cX10_complain 59 = .ok (.ireturn, 1) := by decide +kernel
theorem dX10_complaint_0 : decode cX10_complaint 0 = .ok (.iload_n 1, 1) := by decide +kernel
theorem dX10_complaint_1 : decode cX10_complaint 1 = .ok (.iconst 0, 1) := by decide +kernel
theorem dX10_complaint_2 : decode cX10_complaint 2 = .ok (.aload_n 0, 1) := by decide +kernel
theorem dX10_complaint_3 : decode cX10_complaint 3 = .ok (.getfield 32, 3) := by decide +kernel
theorem dX10_complaint_6 : decode cX10_complaint 6 = .ok (.getfield 258, 3) := by decide +kernel
theorem dX10_complaint_9 : decode cX10_complaint 9 = .ok (.iconst 1, 1) := by decide +kernel
theorem dX10_complaint_10 : decode cX10_complaint 10 = .ok (.isub, 1) := by decide +kernel
theorem dX10_complaint_11 : decode cX10_complaint 11 = .ok (.invokestatic 90, 3) := by decide +kernel
theorem dX10_complaint_14 : decode cX10_complaint 14 = .ok (.ifCond .ne 10, 3) := by decide +kernel
theorem dX10_complaint_17 : decode cX10_complaint 17 = .ok (.aload_n 0, 1) := by decide +kernel
theorem dX10_complaint_18 : decode cX10_complaint 18 = .ok (.ldc 94, 2) := by decide +kernel
theorem dX10_complaint_20 : decode cX10_complaint 20 = .ok (.invokevirtual 95, 3) := by decide +kernel
theorem dX10_complaint_23 : decode cX10_complaint 23 = .ok (.ireturn, 1) := by decide +kernel
theorem dX10_complaint_24 : decode cX10_complaint 24 = .ok (.iload_n 2, 1) := by decide +kernel
theorem dX10_complaint_25 : decode cX10_complaint 25 = .ok (.tableswitch 71 0 3 #[31, 41, 51, 61], 31) := by decide +kernel
theorem dX10_complaint_56 : decode cX10_complaint 56 = .ok (.aload_n 0, 1) := by decide +kernel
theorem dX10_complaint_57 : decode cX10_complaint 57 = .ok (.getfield 32, 3) := by decide +kernel
theorem dX10_complaint_60 : decode cX10_complaint 60 = .ok (.getfield 264, 3) := by decide +kernel
theorem dX10_complaint_63 : decode cX10_complaint 63 = .ok (.iload_n 1, 1) := by decide +kernel
theorem dX10_complaint_64 : decode cX10_complaint 64 = .ok (.iaload, 1) := by decide +kernel
theorem dX10_complaint_65 : decode cX10_complaint 65 = .ok (.ireturn, 1) := by decide +kernel
theorem dX10_complaint_66 : decode cX10_complaint 66 = .ok (.aload_n 0, 1) := by decide +kernel
theorem dX10_complaint_67 : decode cX10_complaint 67 = .ok (.getfield 32, 3) := by decide +kernel
theorem dX10_complaint_70 : decode cX10_complaint 70 = .ok (.getfield 267, 3) := by decide +kernel
theorem dX10_complaint_73 : decode cX10_complaint 73 = .ok (.iload_n 1, 1) := by decide +kernel
theorem dX10_complaint_74 : decode cX10_complaint 74 = .ok (.iaload, 1) := by decide +kernel
theorem dX10_complaint_75 : decode cX10_complaint 75 = .ok (.ireturn, 1) := by decide +kernel
theorem dX10_complaint_76 : decode cX10_complaint 76 = .ok (.aload_n 0, 1) := by decide +kernel
theorem dX10_complaint_77 : decode cX10_complaint 77 = .ok (.getfield 32, 3) := by decide +kernel
theorem dX10_complaint_80 : decode cX10_complaint 80 = .ok (.getfield 270, 3) := by decide +kernel
theorem dX10_complaint_83 : decode cX10_complaint 83 = .ok (.iload_n 1, 1) := by decide +kernel
theorem dX10_complaint_84 : decode cX10_complaint 84 = .ok (.iaload, 1) := by decide +kernel
theorem dX10_complaint_85 : decode cX10_complaint 85 = .ok (.ireturn, 1) := by decide +kernel
theorem dX10_complaint_86 : decode cX10_complaint 86 = .ok (.aload_n 0, 1) := by decide +kernel
theorem dX10_complaint_87 : decode cX10_complaint 87 = .ok (.getfield 32, 3) := by decide +kernel
theorem dX10_complaint_90 : decode cX10_complaint 90 = .ok (.getfield 273, 3) := by decide +kernel
theorem dX10_complaint_93 : decode cX10_complaint 93 = .ok (.iload_n 1, 1) := by decide +kernel
theorem dX10_complaint_94 : decode cX10_complaint 94 = .ok (.iaload, 1) := by decide +kernel
theorem dX10_complaint_95 : decode cX10_complaint 95 = .ok (.ireturn, 1) := by decide +kernel
theorem dX10_complaint_96 : decode cX10_complaint 96 = .ok (.aload_n 0, 1) := by decide +kernel
theorem dX10_complaint_97 : decode cX10_complaint 97 = .ok (.ldc 94, 2) := by decide +kernel
theorem dX10_complaint_99 : decode cX10_complaint 99 = .ok (.invokevirtual 95, 3) := by decide +kernel
theorem dX10_complaint_102 : decode cX10_complaint 102 = .ok (.ireturn, 1) := by decide +kernel
theorem dX10_joined_0 : decode cX10_joined 0 = .ok (.iload_n 1, 1) := by decide +kernel
theorem dX10_joined_1 : decode cX10_joined 1 = .ok (.iconst 0, 1) := by decide +kernel
theorem dX10_joined_2 : decode cX10_joined 2 = .ok (.aload_n 0, 1) := by decide +kernel
theorem dX10_joined_3 : decode cX10_joined 3 = .ok (.getfield 32, 3) := by decide +kernel
theorem dX10_joined_6 : decode cX10_joined 6 = .ok (.getfield 258, 3) := by decide +kernel
theorem dX10_joined_9 : decode cX10_joined 9 = .ok (.iconst 1, 1) := by decide +kernel
theorem dX10_joined_10 : decode cX10_joined 10 = .ok (.isub, 1) := by decide +kernel
theorem dX10_joined_11 : decode cX10_joined 11 = .ok (.invokestatic 90, 3) := by decide +kernel
theorem dX10_joined_14 : decode cX10_joined 14 = .ok (.ifCond .eq 20, 3) := by decide +kernel
theorem dX10_joined_17 : decode cX10_joined 17 = .ok (.iload_n 2, 1) := by decide +kernel
theorem dX10_joined_18 : decode cX10_joined 18 = .ok (.iconst 0, 1) := by decide +kernel
theorem dX10_joined_19 : decode cX10_joined 19 = .ok (.aload_n 0, 1) := by decide +kernel
theorem dX10_joined_20 : decode cX10_joined 20 = .ok (.getfield 32, 3) := by decide +kernel
theorem dX10_joined_23 : decode cX10_joined 23 = .ok (.getfield 258, 3) := by decide +kernel
theorem dX10_joined_26 : decode cX10_joined 26 = .ok (.iconst 1, 1) := by decide +kernel
theorem dX10_joined_27 : decode cX10_joined 27 = .ok (.isub, 1) := by decide +kernel
theorem dX10_joined_28 : decode cX10_joined 28 = .ok (.invokestatic 90, 3) := by decide +kernel
theorem dX10_joined_31 : decode cX10_joined 31 = .ok (.ifCond .ne 10, 3) := by decide +kernel
theorem dX10_joined_34 : decode cX10_joined 34 = .ok (.aload_n 0, 1) := by decide +kernel
theorem dX10_joined_35 : decode cX10_joined 35 = .ok (.ldc 94, 2) := by decide +kernel
theorem dX10_joined_37 : decode cX10_joined 37 = .ok (.invokevirtual 95, 3) := by decide +kernel
theorem dX10_joined_40 : decode cX10_joined 40 = .ok (.ireturn, 1) := by decide +kernel
theorem dX10_joined_41 : decode cX10_joined 41 = .ok (.aload_n 0, 1) := by decide +kernel
theorem dX10_joined_42 : decode cX10_joined 42 = .ok (.getfield 32, 3) := by decide +kernel
theorem dX10_joined_45 : decode cX10_joined 45 = .ok (.getfield 273, 3) := by decide +kernel
theorem dX10_joined_48 : decode cX10_joined 48 = .ok (.iload_n 1, 1) := by decide +kernel
theorem dX10_joined_49 : decode cX10_joined 49 = .ok (.iaload, 1) := by decide +kernel
theorem dX10_joined_50 : decode cX10_joined 50 = .ok (.aload_n 0, 1) := by decide +kernel
theorem dX10_joined_51 : decode cX10_joined 51 = .ok (.getfield 32, 3) := by decide +kernel
theorem dX10_joined_54 : decode cX10_joined 54 = .ok (.getfield 273, 3) := by decide +kernel
theorem dX10_joined_57 : decode cX10_joined 57 = .ok (.iload_n 2, 1) := by decide +kernel
theorem dX10_joined_58 : decode cX10_joined 58 = .ok (.iaload, 1) := by decide +kernel
theorem dX10_joined_59 : decode cX10_joined 59 = .ok (.if_icmp .ne 7, 3) := by decide +kernel
theorem dX10_joined_62 : decode cX10_joined 62 = .ok (.iconst 1, 1) := by decide +kernel
theorem dX10_joined_63 : decode cX10_joined 63 = .ok (.goto 4, 3) := by decide +kernel
theorem dX10_joined_66 : decode cX10_joined 66 = .ok (.iconst 0, 1) := by decide +kernel
theorem dX10_joined_67 : decode cX10_joined 67 = .ok (.invokestatic 138, 3) := by decide +kernel
theorem dX10_joined_70 : decode cX10_joined 70 = .ok (.ireturn, 1) := by decide +kernel
theorem dX10_groups_0 : decode cX10_groups 0 = .ok (.iload_n 1, 1) := by decide +kernel
theorem dX10_groups_1 : decode cX10_groups 1 = .ok (.iconst 0, 1) := by decide +kernel
theorem dX10_groups_2 : decode cX10_groups 2 = .ok (.iconst 2, 1) := by decide +kernel
theorem dX10_groups_3 : decode cX10_groups 3 = .ok (.invokestatic 90, 3) := by decide +kernel
theorem dX10_groups_6 : decode cX10_groups 6 = .ok (.ifCond .ne 10, 3) := by decide +kernel
theorem dX10_groups_9 : decode cX10_groups 9 = .ok (.aload_n 0, 1) := by decide +kernel
theorem dX10_groups_10 : decode cX10_groups 10 = .ok (.ldc 94, 2) := by decide +kernel
theorem dX10_groups_12 : decode cX10_groups 12 = .ok (.invokevirtual 95, 3) := by decide +kernel
theorem dX10_groups_15 : decode cX10_groups 15 = .ok (.ireturn, 1) := by decide +kernel
theorem dX10_groups_16 : decode cX10_groups 16 = .ok (.aload_n 0, 1) := by decide +kernel
theorem dX10_groups_17 : decode cX10_groups 17 = .ok (.getfield 32, 3) := by decide +kernel
theorem dX10_groups_20 : decode cX10_groups 20 = .ok (.iload_n 1, 1) := by decide +kernel
theorem dX10_groups_21 : decode cX10_groups 21 = .ok (.invokevirtual 276, 3) := by decide +kernel
theorem dX10_groups_24 : decode cX10_groups 24 = .ok (.ireturn, 1) := by decide +kernel
theorem dX10_sheet_0 : decode cX10_sheet 0 = .ok (.iload_n 1, 1) := by decide +kernel
theorem dX10_sheet_1 : decode cX10_sheet 1 = .ok (.invokestatic 279, 3) := by decide +kernel
theorem dX10_sheet_4 : decode cX10_sheet 4 = .ok (.ifCond .eq 25, 3) := by decide +kernel
theorem dX10_sheet_7 : decode cX10_sheet 7 = .ok (.iload_n 2, 1) := by decide +kernel
theorem dX10_sheet_8 : decode cX10_sheet 8 = .ok (.ifCond .eq 28, 3) := by decide +kernel
theorem dX10_sheet_11 : decode cX10_sheet 11 = .ok (.iload_n 2, 1) := by decide +kernel
theorem dX10_sheet_12 : decode cX10_sheet 12 = .ok (.bipush 8, 2) := by decide +kernel
theorem dX10_sheet_14 : decode cX10_sheet 14 = .ok (.if_icmp .eq 22, 3) := by decide +kernel
theorem dX10_sheet_17 : decode cX10_sheet 17 = .ok (.iload_n 2, 1) := by decide +kernel
theorem dX10_sheet_18 : decode cX10_sheet 18 = .ok (.bipush 16, 2) := by decide +kernel
theorem dX10_sheet_20 : decode cX10_sheet 20 = .ok (.if_icmp .eq 16, 3) := by decide +kernel
theorem dX10_sheet_23 : decode cX10_sheet 23 = .ok (.iload_n 2, 1) := by decide +kernel
theorem dX10_sheet_24 : decode cX10_sheet 24 = .ok (.bipush 64, 2) := by decide +kernel
theorem dX10_sheet_26 : decode cX10_sheet 26 = .ok (.if_icmp .eq 10, 3) := by decide +kernel
theorem dX10_sheet_29 : decode cX10_sheet 29 = .ok (.aload_n 0, 1) := by decide +kernel
theorem dX10_sheet_30 : decode cX10_sheet 30 = .ok (.ldc 94, 2) := by decide +kernel
theorem dX10_sheet_32 : decode cX10_sheet 32 = .ok (.invokevirtual 95, 3) := by decide +kernel
theorem dX10_sheet_35 : decode cX10_sheet 35 = .ok (.ireturn, 1) := by decide +kernel
theorem dX10_sheet_36 : decode cX10_sheet 36 = .ok (.iload_n 3, 1) := by decide +kernel
theorem dX10_sheet_37 : decode cX10_sheet 37 = .ok (.ifCond .ge 11, 3) := by decide +kernel
theorem dX10_sheet_40 : decode cX10_sheet 40 = .ok (.aload_n 0, 1) := by decide +kernel
theorem dX10_sheet_41 : decode cX10_sheet 41 = .ok (.ldc_w 282, 3) := by decide +kernel
theorem dX10_sheet_44 : decode cX10_sheet 44 = .ok (.invokevirtual 95, 3) := by decide +kernel
theorem dX10_sheet_47 : decode cX10_sheet 47 = .ok (.ireturn, 1) := by decide +kernel
theorem dX10_sheet_48 : decode cX10_sheet 48 = .ok (.iload_n 3, 1) := by decide +kernel
theorem dX10_sheet_49 : decode cX10_sheet 49 = .ok (.bipush 40, 2) := by decide +kernel
theorem dX10_sheet_51 : decode cX10_sheet 51 = .ok (.if_icmp .le 10, 3) := by decide +kernel
theorem dX10_sheet_54 : decode cX10_sheet 54 = .ok (.aload_n 0, 1) := by decide +kernel
theorem dX10_sheet_55 : decode cX10_sheet 55 = .ok (.ldc 94, 2) := by decide +kernel
theorem dX10_sheet_57 : decode cX10_sheet 57 = .ok (.invokevirtual 95, 3) := by decide +kernel
theorem dX10_sheet_60 : decode cX10_sheet 60 = .ok (.ireturn, 1) := by decide +kernel
theorem dX10_sheet_61 : decode cX10_sheet 61 = .ok (.aload_n 0, 1) := by decide +kernel
theorem dX10_sheet_62 : decode cX10_sheet 62 = .ok (.getfield 82, 3) := by decide +kernel
theorem dX10_sheet_65 : decode cX10_sheet 65 = .ok (.iload_n 1, 1) := by decide +kernel
theorem dX10_sheet_66 : decode cX10_sheet 66 = .ok (.iload_n 2, 1) := by decide +kernel
theorem dX10_sheet_67 : decode cX10_sheet 67 = .ok (.iload_n 3, 1) := by decide +kernel
theorem dX10_sheet_68 : decode cX10_sheet 68 = .ok (.invokevirtual 283, 3) := by decide +kernel
theorem dX10_sheet_71 : decode cX10_sheet 71 = .ok (.aload_n 0, 1) := by decide +kernel
theorem dX10_sheet_72 : decode cX10_sheet 72 = .ok (.getfield 82, 3) := by decide +kernel
theorem dX10_sheet_75 : decode cX10_sheet 75 = .ok (.getfield 287, 3) := by decide +kernel
theorem dX10_sheet_78 : decode cX10_sheet 78 = .ok (.iload_n 1, 1) := by decide +kernel
theorem dX10_sheet_79 : decode cX10_sheet 79 = .ok (.iaload, 1) := by decide +kernel
theorem dX10_sheet_80 : decode cX10_sheet 80 = .ok (.ireturn, 1) := by decide +kernel
theorem dX10_write_0 : decode cX10_write 0 = .ok (.iload_n 1, 1) := by decide +kernel
theorem dX10_write_1 : decode cX10_write 1 = .ok (.invokestatic 279, 3) := by decide +kernel
theorem dX10_write_4 : decode cX10_write 4 = .ok (.ifCond .ne 11, 3) := by decide +kernel
theorem dX10_write_7 : decode cX10_write 7 = .ok (.aload_n 0, 1) := by decide +kernel
theorem dX10_write_8 : decode cX10_write 8 = .ok (.ldc 94, 2) := by decide +kernel
theorem dX10_write_10 : decode cX10_write 10 = .ok (.invokevirtual 95, 3) := by decide +kernel
theorem dX10_write_13 : decode cX10_write 13 = .ok (.i2l, 1) := by decide +kernel
theorem dX10_write_14 : decode cX10_write 14 = .ok (.lreturn, 1) := by decide +kernel
theorem dX10_write_15 : decode cX10_write 15 = .ok (.aload_n 0, 1) := by decide +kernel
theorem dX10_write_16 : decode cX10_write 16 = .ok (.getfield 82, 3) := by decide +kernel
theorem dX10_write_19 : decode cX10_write 19 = .ok (.iload_n 1, 1) := by decide +kernel
theorem dX10_write_20 : decode cX10_write 20 = .ok (.invokevirtual 289, 3) := by decide +kernel
theorem dX10_write_23 : decode cX10_write 23 = .ok (.ifCond .eq 12, 3) := by decide +kernel
theorem dX10_write_26 : decode cX10_write 26 = .ok (.aload_n 0, 1) := by decide +kernel
theorem dX10_write_27 : decode cX10_write 27 = .ok (.ldc_w 292, 3) := by decide +kernel
theorem dX10_write_30 : decode cX10_write 30 = .ok (.invokevirtual 95, 3) := by decide +kernel
theorem dX10_write_33 : decode cX10_write 33 = .ok (.i2l, 1) := by decide +kernel
theorem dX10_write_34 : decode cX10_write 34 = .ok (.lreturn, 1) := by decide +kernel
theorem dX10_write_35 : decode cX10_write 35 = .ok (.iload_n 2, 1) := by decide +kernel
theorem dX10_write_36 : decode cX10_write 36 = .ok (.iconst 0, 1) := by decide +kernel
theorem dX10_write_37 : decode cX10_write 37 = .ok (.aload_n 0, 1) := by decide +kernel
theorem dX10_write_38 : decode cX10_write 38 = .ok (.getfield 82, 3) := by decide +kernel
theorem dX10_write_41 : decode cX10_write 41 = .ok (.getfield 287, 3) := by decide +kernel
theorem dX10_write_44 : decode cX10_write 44 = .ok (.iload_n 1, 1) := by decide +kernel
theorem dX10_write_45 : decode cX10_write 45 = .ok (.iaload, 1) := by decide +kernel
theorem dX10_write_46 : decode cX10_write 46 = .ok (.iconst 1, 1) := by decide +kernel
theorem dX10_write_47 : decode cX10_write 47 = .ok (.isub, 1) := by decide +kernel
theorem dX10_write_48 : decode cX10_write 48 = .ok (.invokestatic 90, 3) := by decide +kernel
theorem dX10_write_51 : decode cX10_write 51 = .ok (.ifCond .ne 11, 3) := by decide +kernel
theorem dX10_write_54 : decode cX10_write 54 = .ok (.aload_n 0, 1) := by decide +kernel
theorem dX10_write_55 : decode cX10_write 55 = .ok (.ldc 94, 2) := by decide +kernel
theorem dX10_write_57 : decode cX10_write 57 = .ok (.invokevirtual 95, 3) := by decide +kernel
theorem dX10_write_60 : decode cX10_write 60 = .ok (.i2l, 1) := by decide +kernel
theorem dX10_write_61 : decode cX10_write 61 = .ok (.lreturn, 1) := by decide +kernel
theorem dX10_write_62 : decode cX10_write 62 = .ok (.aload_n 0, 1) := by decide +kernel
theorem dX10_write_63 : decode cX10_write 63 = .ok (.getfield 82, 3) := by decide +kernel
theorem dX10_write_66 : decode cX10_write 66 = .ok (.getfield 293, 3) := by decide +kernel
theorem dX10_write_69 : decode cX10_write 69 = .ok (.iload_n 1, 1) := by decide +kernel
theorem dX10_write_70 : decode cX10_write 70 = .ok (.aaload, 1) := by decide +kernel
theorem dX10_write_71 : decode cX10_write 71 = .ok (.iload_n 2, 1) := by decide +kernel
theorem dX10_write_72 : decode cX10_write 72 = .ok (.laload, 1) := by decide +kernel
theorem dX10_write_73 : decode cX10_write 73 = .ok (.lstore 5, 2) := by decide +kernel
theorem dX10_write_75 : decode cX10_write 75 = .ok (.aload_n 0, 1) := by decide +kernel
theorem dX10_write_76 : decode cX10_write 76 = .ok (.getfield 82, 3) := by decide +kernel
theorem dX10_write_79 : decode cX10_write 79 = .ok (.getfield 293, 3) := by decide +kernel
theorem dX10_write_82 : decode cX10_write 82 = .ok (.iload_n 1, 1) := by decide +kernel
theorem dX10_write_83 : decode cX10_write 83 = .ok (.aaload, 1) := by decide +kernel
theorem dX10_write_84 : decode cX10_write 84 = .ok (.iload_n 2, 1) := by decide +kernel
theorem dX10_write_85 : decode cX10_write 85 = .ok (.lload_n 3, 1) := by decide +kernel
theorem dX10_write_86 : decode cX10_write 86 = .ok (.aload_n 0, 1) := by decide +kernel
theorem dX10_write_87 : decode cX10_write 87 = .ok (.getfield 82, 3) := by decide +kernel
theorem dX10_write_90 : decode cX10_write 90 = .ok (.getfield 297, 3) := by decide +kernel
theorem dX10_write_93 : decode cX10_write 93 = .ok (.iload_n 1, 1) := by decide +kernel
theorem dX10_write_94 : decode cX10_write 94 = .ok (.iaload, 1) := by decide +kernel
theorem dX10_write_95 : decode cX10_write 95 = .ok (.invokestatic 300, 3) := by decide +kernel
theorem dX10_write_98 : decode cX10_write 98 = .ok (.lastore, 1) := by decide +kernel
theorem dX10_write_99 : decode cX10_write 99 = .ok (.lload 5, 2) := by decide +kernel
theorem dX10_write_101 : decode cX10_write 101 = .ok (.lreturn, 1) := by decide +kernel
theorem dX10_copy_0 : decode cX10_copy 0 = .ok (.iload_n 1, 1) := by decide +kernel
theorem dX10_copy_1 : decode cX10_copy 1 = .ok (.invokestatic 279, 3) := by decide +kernel
theorem dX10_copy_4 : decode cX10_copy 4 = .ok (.ifCond .eq 10, 3) := by decide +kernel
theorem dX10_copy_7 : decode cX10_copy 7 = .ok (.iload_n 3, 1) := by decide +kernel
theorem dX10_copy_8 : decode cX10_copy 8 = .ok (.invokestatic 279, 3) := by decide +kernel
theorem dX10_copy_11 : decode cX10_copy 11 = .ok (.ifCond .ne 10, 3) := by decide +kernel
theorem dX10_copy_14 : decode cX10_copy 14 = .ok (.aload_n 0, 1) := by decide +kernel
theorem dX10_copy_15 : decode cX10_copy 15 = .ok (.ldc 94, 2) := by decide +kernel
theorem dX10_copy_17 : decode cX10_copy 17 = .ok (.invokevirtual 95, 3) := by decide +kernel
theorem dX10_copy_20 : decode cX10_copy 20 = .ok (.ireturn, 1) := by decide +kernel
theorem dX10_copy_21 : decode cX10_copy 21 = .ok (.aload_n 0, 1) := by decide +kernel
theorem dX10_copy_22 : decode cX10_copy 22 = .ok (.getfield 82, 3) := by decide +kernel
theorem dX10_copy_25 : decode cX10_copy 25 = .ok (.iload_n 1, 1) := by decide +kernel
theorem dX10_copy_26 : decode cX10_copy 26 = .ok (.invokevirtual 289, 3) := by decide +kernel
theorem dX10_copy_29 : decode cX10_copy 29 = .ok (.ifCond .ne 14, 3) := by decide +kernel
theorem dX10_copy_32 : decode cX10_copy 32 = .ok (.aload_n 0, 1) := by decide +kernel
theorem dX10_copy_33 : decode cX10_copy 33 = .ok (.getfield 82, 3) := by decide +kernel
theorem dX10_copy_36 : decode cX10_copy 36 = .ok (.iload_n 3, 1) := by decide +kernel
theorem dX10_copy_37 : decode cX10_copy 37 = .ok (.invokevirtual 289, 3) := by decide +kernel
theorem dX10_copy_40 : decode cX10_copy 40 = .ok (.ifCond .eq 11, 3) := by decide +kernel
theorem dX10_copy_43 : decode cX10_copy 43 = .ok (.aload_n 0, 1) := by decide +kernel
theorem dX10_copy_44 : decode cX10_copy 44 = .ok (.ldc_w 292, 3) := by decide +kernel
theorem dX10_copy_47 : decode cX10_copy 47 = .ok (.invokevirtual 95, 3) := by decide +kernel
theorem dX10_copy_50 : decode cX10_copy 50 = .ok (.ireturn, 1) := by decide +kernel
theorem dX10_copy_51 : decode cX10_copy 51 = .ok (.aload_n 0, 1) := by decide +kernel
theorem dX10_copy_52 : decode cX10_copy 52 = .ok (.getfield 82, 3) := by decide +kernel
theorem dX10_copy_55 : decode cX10_copy 55 = .ok (.getfield 297, 3) := by decide +kernel
theorem dX10_copy_58 : decode cX10_copy 58 = .ok (.iload_n 1, 1) := by decide +kernel
theorem dX10_copy_59 : decode cX10_copy 59 = .ok (.iaload, 1) := by decide +kernel
theorem dX10_copy_60 : decode cX10_copy 60 = .ok (.aload_n 0, 1) := by decide +kernel
theorem dX10_copy_61 : decode cX10_copy 61 = .ok (.getfield 82, 3) := by decide +kernel
theorem dX10_copy_64 : decode cX10_copy 64 = .ok (.getfield 297, 3) := by decide +kernel
theorem dX10_copy_67 : decode cX10_copy 67 = .ok (.iload_n 3, 1) := by decide +kernel
theorem dX10_copy_68 : decode cX10_copy 68 = .ok (.iaload, 1) := by decide +kernel
theorem dX10_copy_69 : decode cX10_copy 69 = .ok (.if_icmp .eq 10, 3) := by decide +kernel
theorem dX10_copy_72 : decode cX10_copy 72 = .ok (.aload_n 0, 1) := by decide +kernel
theorem dX10_copy_73 : decode cX10_copy 73 = .ok (.ldc 173, 2) := by decide +kernel
theorem dX10_copy_75 : decode cX10_copy 75 = .ok (.invokevirtual 95, 3) := by decide +kernel
theorem dX10_copy_78 : decode cX10_copy 78 = .ok (.ireturn, 1) := by decide +kernel
theorem dX10_copy_79 : decode cX10_copy 79 = .ok (.aload_n 0, 1) := by decide +kernel
theorem dX10_copy_80 : decode cX10_copy 80 = .ok (.getfield 82, 3) := by decide +kernel
theorem dX10_copy_83 : decode cX10_copy 83 = .ok (.iload_n 1, 1) := by decide +kernel
theorem dX10_copy_84 : decode cX10_copy 84 = .ok (.iload_n 2, 1) := by decide +kernel
theorem dX10_copy_85 : decode cX10_copy 85 = .ok (.iload 5, 2) := by decide +kernel
theorem dX10_copy_87 : decode cX10_copy 87 = .ok (.invokevirtual 304, 3) := by decide +kernel
theorem dX10_copy_90 : decode cX10_copy 90 = .ok (.ifCond .eq 18, 3) := by decide +kernel
theorem dX10_copy_93 : decode cX10_copy 93 = .ok (.aload_n 0, 1) := by decide +kernel
theorem dX10_copy_94 : decode cX10_copy 94 = .ok (.getfield 82, 3) := by decide +kernel
theorem dX10_copy_97 : decode cX10_copy 97 = .ok (.iload_n 3, 1) := by decide +kernel
theorem dX10_copy_98 : decode cX10_copy 98 = .ok (.iload 4, 2) := by decide +kernel
theorem dX10_copy_100 : decode cX10_copy 100 = .ok (.iload 5, 2) := by decide +kernel
theorem dX10_copy_102 : decode cX10_copy 102 = .ok (.invokevirtual 304, 3) := by decide +kernel
theorem dX10_copy_105 : decode cX10_copy 105 = .ok (.ifCond .ne 10, 3) := by decide +kernel
theorem dX10_copy_108 : decode cX10_copy 108 = .ok (.aload_n 0, 1) := by decide +kernel
theorem dX10_copy_109 : decode cX10_copy 109 = .ok (.ldc 94, 2) := by decide +kernel
theorem dX10_copy_111 : decode cX10_copy 111 = .ok (.invokevirtual 95, 3) := by decide +kernel
theorem dX10_copy_114 : decode cX10_copy 114 = .ok (.ireturn, 1) := by decide +kernel
theorem dX10_copy_115 : decode cX10_copy 115 = .ok (.aload_n 0, 1) := by decide +kernel
theorem dX10_copy_116 : decode cX10_copy 116 = .ok (.getfield 82, 3) := by decide +kernel
theorem dX10_copy_119 : decode cX10_copy 119 = .ok (.getfield 293, 3) := by decide +kernel
theorem dX10_copy_122 : decode cX10_copy 122 = .ok (.iload_n 1, 1) := by decide +kernel
theorem dX10_copy_123 : decode cX10_copy 123 = .ok (.aaload, 1) := by decide +kernel
theorem dX10_copy_124 : decode cX10_copy 124 = .ok (.iload_n 2, 1) := by decide +kernel
theorem dX10_copy_125 : decode cX10_copy 125 = .ok (.aload_n 0, 1) := by decide +kernel
theorem dX10_copy_126 : decode cX10_copy 126 = .ok (.getfield 82, 3) := by decide +kernel
theorem dX10_copy_129 : decode cX10_copy 129 = .ok (.getfield 293, 3) := by decide +kernel
theorem dX10_copy_132 : decode cX10_copy 132 = .ok (.iload_n 3, 1) := by decide +kernel
theorem dX10_copy_133 : decode cX10_copy 133 = .ok (.aaload, 1) := by decide +kernel
theorem dX10_copy_134 : decode cX10_copy 134 = .ok (.iload 4, 2) := by decide +kernel
theorem dX10_copy_136 : decode cX10_copy 136 = .ok (.iload 5, 2) := by decide +kernel
theorem dX10_copy_138 : decode cX10_copy 138 = .ok (.invokestatic 307, 3) := by decide +kernel
theorem dX10_copy_141 : decode cX10_copy 141 = .ok (.iload 5, 2) := by decide +kernel
theorem dX10_copy_143 : decode cX10_copy 143 = .ok (.ireturn, 1) := by decide +kernel
theorem dX10_weather_0 : decode cX10_weather 0 = .ok (.iload_n 1, 1) := by decide +kernel
theorem dX10_weather_1 : decode cX10_weather 1 = .ok (.invokestatic 279, 3) := by decide +kernel
theorem dX10_weather_4 : decode cX10_weather 4 = .ok (.ifCond .ne 10, 3) := by decide +kernel
theorem dX10_weather_7 : decode cX10_weather 7 = .ok (.aload_n 0, 1) := by decide +kernel
theorem dX10_weather_8 : decode cX10_weather 8 = .ok (.ldc 94, 2) := by decide +kernel
theorem dX10_weather_10 : decode cX10_weather 10 = .ok (.invokevirtual 95, 3) := by decide +kernel
theorem dX10_weather_13 : decode cX10_weather 13 = .ok (.ireturn, 1) := by decide +kernel
theorem dX10_weather_14 : decode cX10_weather 14 = .ok (.aload_n 0, 1) := by decide +kernel
theorem dX10_weather_15 : decode cX10_weather 15 = .ok (.getfield 82, 3) := by decide +kernel
theorem dX10_weather_18 : decode cX10_weather 18 = .ok (.iload_n 1, 1) := by decide +kernel
theorem dX10_weather_19 : decode cX10_weather 19 = .ok (.invokevirtual 289, 3) := by decide +kernel
theorem dX10_weather_22 : decode cX10_weather 22 = .ok (.ifCond .eq 11, 3) := by decide +kernel
theorem dX10_weather_25 : decode cX10_weather 25 = .ok (.aload_n 0, 1) := by decide +kernel
theorem dX10_weather_26 : decode cX10_weather 26 = .ok (.ldc_w 292, 3) := by decide +kernel
theorem dX10_weather_29 : decode cX10_weather 29 = .ok (.invokevirtual 95, 3) := by decide +kernel
theorem dX10_weather_32 : decode cX10_weather 32 = .ok (.ireturn, 1) := by decide +kernel
theorem dX10_weather_33 : decode cX10_weather 33 = .ok (.iconst 0, 1) := by decide +kernel
theorem dX10_weather_34 : decode cX10_weather 34 = .ok (.istore_n 2, 1) := by decide +kernel
theorem dX10_weather_35 : decode cX10_weather 35 = .ok (.iconst 0, 1) := by decide +kernel
theorem dX10_weather_36 : decode cX10_weather 36 = .ok (.istore_n 3, 1) := by decide +kernel
theorem dX10_weather_37 : decode cX10_weather 37 = .ok (.iload_n 3, 1) := by decide +kernel
theorem dX10_weather_38 : decode cX10_weather 38 = .ok (.aload_n 0, 1) := by decide +kernel
theorem dX10_weather_39 : decode cX10_weather 39 = .ok (.getfield 82, 3) := by decide +kernel
theorem dX10_weather_42 : decode cX10_weather 42 = .ok (.getfield 287, 3) := by decide +kernel
theorem dX10_weather_45 : decode cX10_weather 45 = .ok (.iload_n 1, 1) := by decide +kernel
theorem dX10_weather_46 : decode cX10_weather 46 = .ok (.iaload, 1) := by decide +kernel
theorem dX10_weather_47 : decode cX10_weather 47 = .ok (.if_icmp .ge 88, 3) := by decide +kernel
theorem dX10_weather_50 : decode cX10_weather 50 = .ok (.aload_n 0, 1) := by decide +kernel
theorem dX10_weather_51 : decode cX10_weather 51 = .ok (.getfield 27, 3) := by decide +kernel
theorem dX10_weather_54 : decode cX10_weather 54 = .ok (.getfield 184, 3) := by decide +kernel
theorem dX10_weather_57 : decode cX10_weather 57 = .ok (.sipush 2000, 3) := by decide +kernel
theorem dX10_weather_60 : decode cX10_weather 60 = .ok (.if_icmp .ge 75, 3) := by decide +kernel
theorem dX10_weather_63 : decode cX10_weather 63 = .ok (.aload_n 0, 1) := by decide +kernel
theorem dX10_weather_64 : decode cX10_weather 64 = .ok (.getfield 82, 3) := by decide +kernel
theorem dX10_weather_67 : decode cX10_weather 67 = .ok (.getfield 293, 3) := by decide +kernel
theorem dX10_weather_70 : decode cX10_weather 70 = .ok (.iload_n 1, 1) := by decide +kernel
theorem dX10_weather_71 : decode cX10_weather 71 = .ok (.aaload, 1) := by decide +kernel
theorem dX10_weather_72 : decode cX10_weather 72 = .ok (.iload_n 3, 1) := by decide +kernel
theorem dX10_weather_73 : decode cX10_weather 73 = .ok (.laload, 1) := by decide +kernel
theorem dX10_weather_74 : decode cX10_weather 74 = .ok (.lstore 4, 2) := by decide +kernel
theorem dX10_weather_76 : decode cX10_weather 76 = .ok (.lload 4, 2) := by decide +kernel
theorem dX10_weather_78 : decode cX10_weather 78 = .ok (.ldc2_w 313, 3) := by decide +kernel
theorem dX10_weather_81 : decode cX10_weather 81 = .ok (.lcmp, 1) := by decide +kernel
theorem dX10_weather_82 : decode cX10_weather 82 = .ok (.ifCond .lt 47, 3) := by decide +kernel
theorem dX10_weather_85 : decode cX10_weather 85 = .ok (.lload 4, 2) := by decide +kernel
theorem dX10_weather_87 : decode cX10_weather 87 = .ok (.ldc2_w 315, 3) := by decide +kernel
theorem dX10_weather_90 : decode cX10_weather 90 = .ok (.lcmp, 1) := by decide +kernel
theorem dX10_weather_91 : decode cX10_weather 91 = .ok (.ifCond .gt 38, 3) := by decide +kernel
theorem dX10_weather_94 : decode cX10_weather 94 = .ok (.aload_n 0, 1) := by decide +kernel
theorem dX10_weather_95 : decode cX10_weather 95 = .ok (.getfield 27, 3) := by decide +kernel
theorem dX10_weather_98 : decode cX10_weather 98 = .ok (.lload 4, 2) := by decide +kernel
theorem dX10_weather_100 : decode cX10_weather 100 = .ok (.l2i, 1) := by decide +kernel
theorem dX10_weather_101 : decode cX10_weather 101 = .ok (.putfield 174, 3) := by decide +kernel
theorem dX10_weather_104 : decode cX10_weather 104 = .ok (.aload_n 0, 1) := by decide +kernel
theorem dX10_weather_105 : decode cX10_weather 105 = .ok (.getfield 66, 3) := by decide +kernel
theorem dX10_weather_108 : decode cX10_weather 108 = .ok (.aload_n 0, 1) := by decide +kernel
theorem dX10_weather_109 : decode cX10_weather 109 = .ok (.getfield 27, 3) := by decide +kernel
theorem dX10_weather_112 : decode cX10_weather 112 = .ok (.invokevirtual 187, 3) := by decide +kernel
theorem dX10_weather_115 : decode cX10_weather 115 = .ok (.aload_n 0, 1) := by decide +kernel
theorem dX10_weather_116 : decode cX10_weather 116 = .ok (.getfield 27, 3) := by decide +kernel
theorem dX10_weather_119 : decode cX10_weather 119 = .ok (.aload_n 0, 1) := by decide +kernel
theorem dX10_weather_120 : decode cX10_weather 120 = .ok (.getfield 66, 3) := by decide +kernel
theorem dX10_weather_123 : decode cX10_weather 123 = .ok (.invokevirtual 191, 3) := by decide +kernel
theorem dX10_weather_126 : decode cX10_weather 126 = .ok (.iinc 2 1, 3) := by decide +kernel
theorem dX10_weather_129 : decode cX10_weather 129 = .ok (.iinc 3 1, 3) := by decide +kernel
theorem dX10_weather_132 : decode cX10_weather 132 = .ok (.goto (-95), 3) := by decide +kernel
theorem dX10_weather_135 : decode cX10_weather 135 = .ok (.iload_n 2, 1) := by decide +kernel
theorem dX10_weather_136 : decode cX10_weather 136 = .ok (.ireturn, 1) := by decide +kernel
theorem dX10_read_0 : decode cX10_read 0 = .ok (.iload_n 1, 1) := by decide +kernel
theorem dX10_read_1 : decode cX10_read 1 = .ok (.invokestatic 279, 3) := by decide +kernel
theorem dX10_read_4 : decode cX10_read 4 = .ok (.ifCond .ne 10, 3) := by decide +kernel
theorem dX10_read_7 : decode cX10_read 7 = .ok (.aload_n 0, 1) := by decide +kernel
theorem dX10_read_8 : decode cX10_read 8 = .ok (.ldc 94, 2) := by decide +kernel
theorem dX10_read_10 : decode cX10_read 10 = .ok (.invokevirtual 95, 3) := by decide +kernel
theorem dX10_read_13 : decode cX10_read 13 = .ok (.ireturn, 1) := by decide +kernel
theorem dX10_read_14 : decode cX10_read 14 = .ok (.aload_n 0, 1) := by decide +kernel
theorem dX10_read_15 : decode cX10_read 15 = .ok (.getfield 82, 3) := by decide +kernel
theorem dX10_read_18 : decode cX10_read 18 = .ok (.iload_n 1, 1) := by decide +kernel
theorem dX10_read_19 : decode cX10_read 19 = .ok (.invokevirtual 289, 3) := by decide +kernel
theorem dX10_read_22 : decode cX10_read 22 = .ok (.ifCond .eq 11, 3) := by decide +kernel
theorem dX10_read_25 : decode cX10_read 25 = .ok (.aload_n 0, 1) := by decide +kernel
theorem dX10_read_26 : decode cX10_read 26 = .ok (.ldc_w 292, 3) := by decide +kernel
theorem dX10_read_29 : decode cX10_read 29 = .ok (.invokevirtual 95, 3) := by decide +kernel
theorem dX10_read_32 : decode cX10_read 32 = .ok (.ireturn, 1) := by decide +kernel
theorem dX10_read_33 : decode cX10_read 33 = .ok (.iconst 0, 1) := by decide +kernel
theorem dX10_read_34 : decode cX10_read 34 = .ok (.istore_n 2, 1) := by decide +kernel
theorem dX10_read_35 : decode cX10_read 35 = .ok (.iload_n 2, 1) := by decide +kernel
theorem dX10_read_36 : decode cX10_read 36 = .ok (.aload_n 0, 1) := by decide +kernel
theorem dX10_read_37 : decode cX10_read 37 = .ok (.getfield 82, 3) := by decide +kernel
theorem dX10_read_40 : decode cX10_read 40 = .ok (.getfield 287, 3) := by decide +kernel
theorem dX10_read_43 : decode cX10_read 43 = .ok (.iload_n 1, 1) := by decide +kernel
theorem dX10_read_44 : decode cX10_read 44 = .ok (.iaload, 1) := by decide +kernel
theorem dX10_read_45 : decode cX10_read 45 = .ok (.if_icmp .ge 52, 3) := by decide +kernel
theorem dX10_read_48 : decode cX10_read 48 = .ok (.aload_n 0, 1) := by decide +kernel
theorem dX10_read_49 : decode cX10_read 49 = .ok (.getfield 27, 3) := by decide +kernel
theorem dX10_read_52 : decode cX10_read 52 = .ok (.iload_n 2, 1) := by decide +kernel
theorem dX10_read_53 : decode cX10_read 53 = .ok (.invokevirtual 110, 3) := by decide +kernel
theorem dX10_read_56 : decode cX10_read 56 = .ok (.ifCond .eq 31, 3) := by decide +kernel
theorem dX10_read_59 : decode cX10_read 59 = .ok (.aload_n 0, 1) := by decide +kernel
theorem dX10_read_60 : decode cX10_read 60 = .ok (.getfield 82, 3) := by decide +kernel
theorem dX10_read_63 : decode cX10_read 63 = .ok (.getfield 293, 3) := by decide +kernel
theorem dX10_read_66 : decode cX10_read 66 = .ok (.iload_n 1, 1) := by decide +kernel
theorem dX10_read_67 : decode cX10_read 67 = .ok (.aaload, 1) := by decide +kernel
theorem dX10_read_68 : decode cX10_read 68 = .ok (.iload_n 2, 1) := by decide +kernel
theorem dX10_read_69 : decode cX10_read 69 = .ok (.laload, 1) := by decide +kernel
theorem dX10_read_70 : decode cX10_read 70 = .ok (.aload_n 0, 1) := by decide +kernel
theorem dX10_read_71 : decode cX10_read 71 = .ok (.getfield 27, 3) := by decide +kernel
theorem dX10_read_74 : decode cX10_read 74 = .ok (.getfield 114, 3) := by decide +kernel
theorem dX10_read_77 : decode cX10_read 77 = .ok (.iload_n 2, 1) := by decide +kernel
theorem dX10_read_78 : decode cX10_read 78 = .ok (.aaload, 1) := by decide +kernel
theorem dX10_read_79 : decode cX10_read 79 = .ok (.getfield 145, 3) := by decide +kernel
theorem dX10_read_82 : decode cX10_read 82 = .ok (.i2l, 1) := by decide +kernel
theorem dX10_read_83 : decode cX10_read 83 = .ok (.lcmp, 1) := by decide +kernel
theorem dX10_read_84 : decode cX10_read 84 = .ok (.ifCond .eq 7, 3) := by decide +kernel
theorem dX10_read_87 : decode cX10_read 87 = .ok (.iconst 1, 1) := by decide +kernel
theorem dX10_read_88 : decode cX10_read 88 = .ok (.iload_n 2, 1) := by decide +kernel
theorem dX10_read_89 : decode cX10_read 89 = .ok (.iadd, 1) := by decide +kernel
theorem dX10_read_90 : decode cX10_read 90 = .ok (.ireturn, 1) := by decide +kernel
theorem dX10_read_91 : decode cX10_read 91 = .ok (.iinc 2 1, 3) := by decide +kernel
theorem dX10_read_94 : decode cX10_read 94 = .ok (.goto (-59), 3) := by decide +kernel
theorem dX10_read_97 : decode cX10_read 97 = .ok (.iconst 0, 1) := by decide +kernel
theorem dX10_read_98 : decode cX10_read 98 = .ok (.ireturn, 1) := by decide +kernel
theorem dX10_image_0 : decode cX10_image 0 = .ok (.aload_n 0, 1) := by decide +kernel
theorem dX10_image_1 : decode cX10_image 1 = .ok (.getfield 16, 3) := by decide +kernel
theorem dX10_image_4 : decode cX10_image 4 = .ok (.aload_n 0, 1) := by decide +kernel
theorem dX10_image_5 : decode cX10_image 5 = .ok (.getfield 10, 3) := by decide +kernel
theorem dX10_image_8 : decode cX10_image 8 = .ok (.invokevirtual 317, 3) := by decide +kernel
theorem dX10_image_11 : decode cX10_image 11 = .ok (.aload_n 0, 1) := by decide +kernel
theorem dX10_image_12 : decode cX10_image 12 = .ok (.iconst 1, 1) := by decide +kernel
theorem dX10_image_13 : decode cX10_image 13 = .ok (.putfield 19, 3) := by decide +kernel
theorem dX10_image_16 : decode cX10_image 16 = .ok (.iconst 1, 1) := by decide +kernel
theorem dX10_image_17 : decode cX10_image 17 = .ok (.ireturn, 1) := by decide +kernel
theorem dX10_undo_0 : decode cX10_undo 0 = .ok (.aload_n 0, 1) := by decide +kernel
theorem dX10_undo_1 : decode cX10_undo 1 = .ok (.getfield 19, 3) := by decide +kernel
theorem dX10_undo_4 : decode cX10_undo 4 = .ok (.ifCond .ne 10, 3) := by decide +kernel
theorem dX10_undo_7 : decode cX10_undo 7 = .ok (.aload_n 0, 1) := by decide +kernel
theorem dX10_undo_8 : decode cX10_undo 8 = .ok (.ldc 224, 2) := by decide +kernel
theorem dX10_undo_10 : decode cX10_undo 10 = .ok (.invokevirtual 95, 3) := by decide +kernel
theorem dX10_undo_13 : decode cX10_undo 13 = .ok (.ireturn, 1) := by decide +kernel
theorem dX10_undo_14 : decode cX10_undo 14 = .ok (.aload_n 0, 1) := by decide +kernel
theorem dX10_undo_15 : decode cX10_undo 15 = .ok (.getfield 10, 3) := by decide +kernel
theorem dX10_undo_18 : decode cX10_undo 18 = .ok (.aload_n 0, 1) := by decide +kernel
theorem dX10_undo_19 : decode cX10_undo 19 = .ok (.getfield 16, 3) := by decide +kernel
theorem dX10_undo_22 : decode cX10_undo 22 = .ok (.invokevirtual 317, 3) := by decide +kernel
theorem dX10_undo_25 : decode cX10_undo 25 = .ok (.aload_n 0, 1) := by decide +kernel
theorem dX10_undo_26 : decode cX10_undo 26 = .ok (.getfield 27, 3) := by decide +kernel
theorem dX10_undo_29 : decode cX10_undo 29 = .ok (.getfield 184, 3) := by decide +kernel
theorem dX10_undo_32 : decode cX10_undo 32 = .ok (.ireturn, 1) := by decide +kernel
theorem dX10_tear_0 : decode cX10_tear 0 = .ok (.aload_n 0, 1) := by decide +kernel
theorem dX10_tear_1 : decode cX10_tear 1 = .ok (.getfield 19, 3) := by decide +kernel
theorem dX10_tear_4 : decode cX10_tear 4 = .ok (.invokestatic 138, 3) := by decide +kernel
theorem dX10_tear_7 : decode cX10_tear 7 = .ok (.istore_n 1, 1) := by decide +kernel
theorem dX10_tear_8 : decode cX10_tear 8 = .ok (.aload_n 0, 1) := by decide +kernel
theorem dX10_tear_9 : decode cX10_tear 9 = .ok (.iconst 0, 1) := by decide +kernel
theorem dX10_tear_10 : decode cX10_tear 10 = .ok (.putfield 19, 3) := by decide +kernel
theorem dX10_tear_13 : decode cX10_tear 13 = .ok (.iload_n 1, 1) := by decide +kernel
theorem dX10_tear_14 : decode cX10_tear 14 = .ok (.ireturn, 1) := by decide +kernel
theorem dX10_count_0 : decode cX10_count 0 = .ok (.iload_n 1, 1) := by decide +kernel
theorem dX10_count_1 : decode cX10_count 1 = .ok (.tableswitch 123 0 8 #[51, 59, 67, 75, 83, 91, 99, 107, 115], 51) := by decide +kernel
theorem dX10_count_52 : decode cX10_count 52 = .ok (.aload_n 0, 1) := by decide +kernel
theorem dX10_count_53 : decode cX10_count 53 = .ok (.getfield 27, 3) := by decide +kernel
theorem dX10_count_56 : decode cX10_count 56 = .ok (.getfield 184, 3) := by decide +kernel
theorem dX10_count_59 : decode cX10_count 59 = .ok (.ireturn, 1) := by decide +kernel
theorem dX10_count_60 : decode cX10_count 60 = .ok (.aload_n 0, 1) := by decide +kernel
theorem dX10_count_61 : decode cX10_count 61 = .ok (.getfield 27, 3) := by decide +kernel
theorem dX10_count_64 : decode cX10_count 64 = .ok (.getfield 99, 3) := by decide +kernel
theorem dX10_count_67 : decode cX10_count 67 = .ok (.ireturn, 1) := by decide +kernel
theorem dX10_count_68 : decode cX10_count 68 = .ok (.aload_n 0, 1) := by decide +kernel
theorem dX10_count_69 : decode cX10_count 69 = .ok (.getfield 27, 3) := by decide +kernel
theorem dX10_count_72 : decode cX10_count 72 = .ok (.invokevirtual 320, 3) := by decide +kernel
theorem dX10_count_75 : decode cX10_count 75 = .ok (.ireturn, 1) := by decide +kernel
theorem dX10_count_76 : decode cX10_count 76 = .ok (.aload_n 0, 1) := by decide +kernel
theorem dX10_count_77 : decode cX10_count 77 = .ok (.getfield 32, 3) := by decide +kernel
theorem dX10_count_80 : decode cX10_count 80 = .ok (.getfield 258, 3) := by decide +kernel
theorem dX10_count_83 : decode cX10_count 83 = .ok (.ireturn, 1) := by decide +kernel
theorem dX10_count_84 : decode cX10_count 84 = .ok (.aload_n 0, 1) := by decide +kernel
theorem dX10_count_85 : decode cX10_count 85 = .ok (.getfield 41, 3) := by decide +kernel
theorem dX10_count_88 : decode cX10_count 88 = .ok (.getfield 195, 3) := by decide +kernel
theorem dX10_count_91 : decode cX10_count 91 = .ok (.ireturn, 1) := by decide +kernel
theorem dX10_count_92 : decode cX10_count 92 = .ok (.aload_n 0, 1) := by decide +kernel
theorem dX10_count_93 : decode cX10_count 93 = .ok (.getfield 27, 3) := by decide +kernel
theorem dX10_count_96 : decode cX10_count 96 = .ok (.invokevirtual 228, 3) := by decide +kernel
theorem dX10_count_99 : decode cX10_count 99 = .ok (.ireturn, 1) := by decide +kernel
theorem dX10_count_100 : decode cX10_count 100 = .ok (.aload_n 0, 1) := by decide +kernel
theorem dX10_count_101 : decode cX10_count 101 = .ok (.getfield 27, 3) := by decide +kernel
theorem dX10_count_104 : decode cX10_count 104 = .ok (.invokevirtual 231, 3) := by decide +kernel
theorem dX10_count_107 : decode cX10_count 107 = .ok (.ireturn, 1) := by decide +kernel
theorem dX10_count_108 : decode cX10_count 108 = .ok (.aload_n 0, 1) := by decide +kernel
theorem dX10_count_109 : decode cX10_count 109 = .ok (.getfield 27, 3) := by decide +kernel
theorem dX10_count_112 : decode cX10_count 112 = .ok (.invokevirtual 323, 3) := by decide +kernel
theorem dX10_count_115 : decode cX10_count 115 = .ok (.ireturn, 1) := by decide +kernel
theorem dX10_count_116 : decode cX10_count 116 = .ok (.aload_n 0, 1) := by decide +kernel
theorem dX10_count_117 : decode cX10_count 117 = .ok (.getfield 27, 3) := by decide +kernel
theorem dX10_count_120 : decode cX10_count 120 = .ok (.invokevirtual 326, 3) := by decide +kernel
theorem dX10_count_123 : decode cX10_count 123 = .ok (.ireturn, 1) := by decide +kernel
theorem dX10_count_124 : decode cX10_count 124 = .ok (.aload_n 0, 1) := by decide +kernel
theorem dX10_count_125 : decode cX10_count 125 = .ok (.ldc 94, 2) := by decide +kernel
theorem dX10_count_127 : decode cX10_count 127 = .ok (.invokevirtual 95, 3) := by decide +kernel
theorem dX10_count_130 : decode cX10_count 130 = .ok (.ireturn, 1) := by decide +kernel
theorem dX10_status_0 : decode cX10_status 0 = .ok (.iload_n 1, 1) := by decide +kernel
theorem dX10_status_1 : decode cX10_status 1 = .ok (.iconst (-1), 1) := by decide +kernel
theorem dX10_status_2 : decode cX10_status 2 = .ok (.bipush 6, 2) := by decide +kernel
theorem dX10_status_4 : decode cX10_status 4 = .ok (.invokestatic 90, 3) := by decide +kernel
theorem dX10_status_7 : decode cX10_status 7 = .ok (.ifCond .ne 10, 3) := by decide +kernel
theorem dX10_status_10 : decode cX10_status 10 = .ok (.aload_n 0, 1) := by decide +kernel
theorem dX10_status_11 : decode cX10_status 11 = .ok (.ldc 94, 2) := by decide +kernel
theorem dX10_status_13 : decode cX10_status 13 = .ok (.invokevirtual 95, 3) := by decide +kernel
theorem dX10_status_16 : decode cX10_status 16 = .ok (.ireturn, 1) := by decide +kernel
theorem dX10_status_17 : decode cX10_status 17 = .ok (.iload_n 1, 1) := by decide +kernel
theorem dX10_status_18 : decode cX10_status 18 = .ok (.ifCond .lt 10, 3) := by decide +kernel
theorem dX10_status_21 : decode cX10_status 21 = .ok (.aload_n 0, 1) := by decide +kernel
theorem dX10_status_22 : decode cX10_status 22 = .ok (.getfield 86, 3) := by decide +kernel
theorem dX10_status_25 : decode cX10_status 25 = .ok (.iload_n 1, 1) := by decide +kernel
theorem dX10_status_26 : decode cX10_status 26 = .ok (.iaload, 1) := by decide +kernel
theorem dX10_status_27 : decode cX10_status 27 = .ok (.ireturn, 1) := by decide +kernel
theorem dX10_status_28 : decode cX10_status 28 = .ok (.iconst 0, 1) := by decide +kernel
theorem dX10_status_29 : decode cX10_status 29 = .ok (.istore_n 2, 1) := by decide +kernel
theorem dX10_status_30 : decode cX10_status 30 = .ok (.iconst 0, 1) := by decide +kernel
theorem dX10_status_31 : decode cX10_status 31 = .ok (.istore_n 3, 1) := by decide +kernel
theorem dX10_status_32 : decode cX10_status 32 = .ok (.iload_n 3, 1) := by decide +kernel
theorem dX10_status_33 : decode cX10_status 33 = .ok (.bipush 7, 2) := by decide +kernel
theorem dX10_status_35 : decode cX10_status 35 = .ok (.if_icmp .ge 18, 3) := by decide +kernel
theorem dX10_status_38 : decode cX10_status 38 = .ok (.iload_n 2, 1) := by decide +kernel
theorem dX10_status_39 : decode cX10_status 39 = .ok (.aload_n 0, 1) := by decide +kernel
theorem dX10_status_40 : decode cX10_status 40 = .ok (.getfield 86, 3) := by decide +kernel
theorem dX10_status_43 : decode cX10_status 43 = .ok (.iload_n 3, 1) := by decide +kernel
theorem dX10_status_44 : decode cX10_status 44 = .ok (.iaload, 1) := by decide +kernel
theorem dX10_status_45 : decode cX10_status 45 = .ok (.iadd, 1) := by decide +kernel
theorem dX10_status_46 : decode cX10_status 46 = .ok (.istore_n 2, 1) := by decide +kernel
theorem dX10_status_47 : decode cX10_status 47 = .ok (.iinc 3 1, 3) := by decide +kernel
theorem dX10_status_50 : decode cX10_status 50 = .ok (.goto (-18), 3) := by decide +kernel
theorem dX10_status_53 : decode cX10_status 53 = .ok (.iload_n 2, 1) := by decide +kernel
theorem dX10_status_54 : decode cX10_status 54 = .ok (.ireturn, 1) := by decide +kernel
theorem dX10_finding_0 : decode cX10_finding 0 = .ok (.ldc 94, 2) := by decide +kernel
theorem dX10_finding_2 : decode cX10_finding 2 = .ok (.iload_n 1, 1) := by decide +kernel
theorem dX10_finding_3 : decode cX10_finding 3 = .ok (.isub, 1) := by decide +kernel
theorem dX10_finding_4 : decode cX10_finding 4 = .ok (.istore_n 2, 1) := by decide +kernel
theorem dX10_finding_5 : decode cX10_finding 5 = .ok (.iload_n 2, 1) := by decide +kernel
theorem dX10_finding_6 : decode cX10_finding 6 = .ok (.iconst 0, 1) := by decide +kernel
theorem dX10_finding_7 : decode cX10_finding 7 = .ok (.bipush 6, 2) := by decide +kernel
theorem dX10_finding_9 : decode cX10_finding 9 = .ok (.invokestatic 90, 3) := by decide +kernel
theorem dX10_finding_12 : decode cX10_finding 12 = .ok (.ifCond .eq 13, 3) := by decide +kernel
theorem dX10_finding_15 : decode cX10_finding 15 = .ok (.aload_n 0, 1) := by decide +kernel
theorem dX10_finding_16 : decode cX10_finding 16 = .ok (.getfield 86, 3) := by decide +kernel
theorem dX10_finding_19 : decode cX10_finding 19 = .ok (.iload_n 2, 1) := by decide +kernel
theorem dX10_finding_20 : decode cX10_finding 20 = .ok (.dup2, 1) := by decide +kernel
theorem dX10_finding_21 : decode cX10_finding 21 = .ok (.iaload, 1) := by decide +kernel
theorem dX10_finding_22 : decode cX10_finding 22 = .ok (.iconst 1, 1) := by decide +kernel
theorem dX10_finding_23 : decode cX10_finding 23 = .ok (.iadd, 1) := by decide +kernel
theorem dX10_finding_24 : decode cX10_finding 24 = .ok (.iastore, 1) := by decide +kernel
theorem dX10_finding_25 : decode cX10_finding 25 = .ok (.iload_n 1, 1) := by decide +kernel
theorem dX10_finding_26 : decode cX10_finding 26 = .ok (.ireturn, 1) := by decide +kernel
theorem dX10_isRuled_0 : decode cX10_isRuled 0 = .ok (.aload_n 0, 1) := by decide +kernel
theorem dX10_isRuled_1 : decode cX10_isRuled 1 = .ok (.getfield 37, 3) := by decide +kernel
theorem dX10_isRuled_4 : decode cX10_isRuled 4 = .ok (.getfield 195, 3) := by decide +kernel
theorem dX10_isRuled_7 : decode cX10_isRuled 7 = .ok (.ifCond .le 7, 3) := by decide +kernel
theorem dX10_isRuled_10 : decode cX10_isRuled 10 = .ok (.iconst 1, 1) := by decide +kernel
theorem dX10_isRuled_11 : decode cX10_isRuled 11 = .ok (.goto 4, 3) := by decide +kernel
theorem dX10_isRuled_14 : decode cX10_isRuled 14 = .ok (.iconst 0, 1) := by decide +kernel
theorem dX10_isRuled_15 : decode cX10_isRuled 15 = .ok (.ireturn, 1) := by decide +kernel
theorem dX10_ruledShare_0 : decode cX10_ruledShare 0 = .ok (.iconst 0, 1) := by decide +kernel
theorem dX10_ruledShare_1 : decode cX10_ruledShare 1 = .ok (.ldc_w 329, 3) := by decide +kernel
theorem dX10_ruledShare_4 : decode cX10_ruledShare 4 = .ok (.aload_n 0, 1) := by decide +kernel
theorem dX10_ruledShare_5 : decode cX10_ruledShare 5 = .ok (.getfield 49, 3) := by decide +kernel
theorem dX10_ruledShare_8 : decode cX10_ruledShare 8 = .ok (.aload_n 0, 1) := by decide +kernel
theorem dX10_ruledShare_9 : decode cX10_ruledShare 9 = .ok (.getfield 27, 3) := by decide +kernel
theorem dX10_ruledShare_12 : decode cX10_ruledShare 12 = .ok (.iload_n 1, 1) := by decide +kernel
theorem dX10_ruledShare_13 : decode cX10_ruledShare 13 = .ok (.invokevirtual 330, 3) := by decide +kernel
theorem dX10_ruledShare_16 : decode cX10_ruledShare 16 = .ok (.invokestatic 334, 3) := by decide +kernel
theorem dX10_ruledShare_19 : decode cX10_ruledShare 19 = .ok (.invokestatic 339, 3) := by decide +kernel
theorem dX10_ruledShare_22 : decode cX10_ruledShare 22 = .ok (.ireturn, 1) := by decide +kernel
theorem dX10_plainShare_0 : decode cX10_plainShare 0 = .ok (.ldc_w 329, 3) := by decide +kernel
theorem dX10_plainShare_3 : decode cX10_plainShare 3 = .ok (.aload_n 0, 1) := by decide +kernel
theorem dX10_plainShare_4 : decode cX10_plainShare 4 = .ok (.getfield 27, 3) := by decide +kernel
theorem dX10_plainShare_7 : decode cX10_plainShare 7 = .ok (.getfield 114, 3) := by decide +kernel
theorem dX10_plainShare_10 : decode cX10_plainShare 10 = .ok (.iload_n 1, 1) := by decide +kernel
theorem dX10_plainShare_11 : decode cX10_plainShare 11 = .ok (.aaload, 1) := by decide +kernel
theorem dX10_plainShare_12 : decode cX10_plainShare 12 = .ok (.getfield 157, 3) := by decide +kernel
theorem dX10_plainShare_15 : decode cX10_plainShare 15 = .ok (.invokestatic 334, 3) := by decide +kernel
theorem dX10_plainShare_18 : decode cX10_plainShare 18 = .ok (.ireturn, 1) := by decide +kernel
theorem dX10_splitByShares_0 : decode cX10_splitByShares 0 = .ok (.aload_n 0, 1) := by decide +kernel
theorem dX10_splitByShares_1 : decode cX10_splitByShares 1 = .ok (.getfield 59, 3) := by decide +kernel
theorem dX10_splitByShares_4 : decode cX10_splitByShares 4 = .ok (.iload_n 1, 1) := by decide +kernel
theorem dX10_splitByShares_5 : decode cX10_splitByShares 5 = .ok (.invokevirtual 342, 3) := by decide +kernel
theorem dX10_splitByShares_8 : decode cX10_splitByShares 8 = .ok (.iconst 0, 1) := by decide +kernel
theorem dX10_splitByShares_9 : decode cX10_splitByShares 9 = .ok (.istore_n 3, 1) := by decide +kernel
theorem dX10_splitByShares_10 : decode cX10_splitByShares 10 = .ok (.iload_n 3, 1) := by decide +kernel
theorem dX10_splitByShares_11 : decode cX10_splitByShares 11 = .ok (.aload_n 0, 1) := by decide +kernel
theorem dX10_splitByShares_12 : decode cX10_splitByShares 12 = .ok (.getfield 27, 3) := by decide +kernel
theorem dX10_splitByShares_15 : decode cX10_splitByShares 15 = .ok (.getfield 99, 3) := by decide +kernel
theorem dX10_splitByShares_18 : decode cX10_splitByShares 18 = .ok (.if_icmp .ge 33, 3) := by decide +kernel
theorem dX10_splitByShares_21 : decode cX10_splitByShares 21 = .ok (.aload_n 0, 1) := by decide +kernel
theorem dX10_splitByShares_22 : decode cX10_splitByShares 22 = .ok (.getfield 59, 3) := by decide +kernel
theorem dX10_splitByShares_25 : decode cX10_splitByShares 25 = .ok (.iload_n 2, 1) := by decide +kernel
theorem dX10_splitByShares_26 : decode cX10_splitByShares 26 = .ok (.ifCond .eq 11, 3) := by decide +kernel
theorem dX10_splitByShares_29 : decode cX10_splitByShares 29 = .ok (.aload_n 0, 1) := by decide +kernel
theorem dX10_splitByShares_30 : decode cX10_splitByShares 30 = .ok (.iload_n 3, 1) := by decide +kernel
theorem dX10_splitByShares_31 : decode cX10_splitByShares 31 = .ok (.invokevirtual 211, 3) := by decide +kernel
theorem dX10_splitByShares_34 : decode cX10_splitByShares 34 = .ok (.goto 8, 3) := by decide +kernel
theorem dX10_splitByShares_37 : decode cX10_splitByShares 37 = .ok (.aload_n 0, 1) := by decide +kernel
theorem dX10_splitByShares_38 : decode cX10_splitByShares 38 = .ok (.iload_n 3, 1) := by decide +kernel
theorem dX10_splitByShares_39 : decode cX10_splitByShares 39 = .ok (.invokevirtual 214, 3) := by decide +kernel
theorem dX10_splitByShares_42 : decode cX10_splitByShares 42 = .ok (.invokevirtual 344, 3) := by decide +kernel
theorem dX10_splitByShares_45 : decode cX10_splitByShares 45 = .ok (.iinc 3 1, 3) := by decide +kernel
theorem dX10_splitByShares_48 : decode cX10_splitByShares 48 = .ok (.goto (-38), 3) := by decide +kernel
theorem dX10_splitByShares_51 : decode cX10_splitByShares 51 = .ok (.return_, 1) := by decide +kernel
theorem dX10_isSheet_0 : decode cX10_isSheet 0 = .ok (.iload_n 0, 1) := by decide +kernel
theorem dX10_isSheet_1 : decode cX10_isSheet 1 = .ok (.iconst 0, 1) := by decide +kernel
theorem dX10_isSheet_2 : decode cX10_isSheet 2 = .ok (.iconst 3, 1) := by decide +kernel
theorem dX10_isSheet_3 : decode cX10_isSheet 3 = .ok (.invokestatic 90, 3) := by decide +kernel
theorem dX10_isSheet_6 : decode cX10_isSheet 6 = .ok (.ireturn, 1) := by decide +kernel
theorem dX10_within_0 : decode cX10_within 0 = .ok (.iload_n 0, 1) := by decide +kernel
theorem dX10_within_1 : decode cX10_within 1 = .ok (.iload_n 1, 1) := by decide +kernel
theorem dX10_within_2 : decode cX10_within 2 = .ok (.if_icmp .lt 12, 3) := by decide +kernel
theorem dX10_within_5 : decode cX10_within 5 = .ok (.iload_n 0, 1) := by decide +kernel
theorem dX10_within_6 : decode cX10_within 6 = .ok (.iload_n 2, 1) := by decide +kernel
theorem dX10_within_7 : decode cX10_within 7 = .ok (.if_icmp .gt 7, 3) := by decide +kernel
theorem dX10_within_10 : decode cX10_within 10 = .ok (.iconst 1, 1) := by decide +kernel
theorem dX10_within_11 : decode cX10_within 11 = .ok (.goto 4, 3) := by decide +kernel
theorem dX10_within_14 : decode cX10_within 14 = .ok (.iconst 0, 1) := by decide +kernel
theorem dX10_within_15 : decode cX10_within 15 = .ok (.ireturn, 1) := by decide +kernel
theorem dX10_bit_0 : decode cX10_bit 0 = .ok (.iload_n 0, 1) := by decide +kernel
theorem dX10_bit_1 : decode cX10_bit 1 = .ok (.ifCond .eq 7, 3) := by decide +kernel
theorem dX10_bit_4 : decode cX10_bit 4 = .ok (.iconst 1, 1) := by decide +kernel
theorem dX10_bit_5 : decode cX10_bit 5 = .ok (.goto 4, 3) := by decide +kernel
theorem dX10_bit_8 : decode cX10_bit 8 = .ok (.iconst 0, 1) := by decide +kernel
theorem dX10_bit_9 : decode cX10_bit 9 = .ok (.ireturn, 1) := by decide +kernel
theorem dX10_areBounds_0 : decode cX10_areBounds 0 = .ok (.iload_n 0, 1) := by decide +kernel
theorem dX10_areBounds_1 : decode cX10_areBounds 1 = .ok (.iconst 0, 1) := by decide +kernel
theorem dX10_areBounds_2 : decode cX10_areBounds 2 = .ok (.ldc_w 346, 3) := by decide +kernel
theorem dX10_areBounds_5 : decode cX10_areBounds 5 = .ok (.invokestatic 90, 3) := by decide +kernel
theorem dX10_areBounds_8 : decode cX10_areBounds 8 = .ok (.ireturn, 1) := by decide +kernel
theorem dX10_feeling_0 : decode cX10_feeling 0 = .ok (.iload_n 0, 1) := by decide +kernel
theorem dX10_feeling_1 : decode cX10_feeling 1 = .ok (.iload_n 1, 1) := by decide +kernel
theorem dX10_feeling_2 : decode cX10_feeling 2 = .ok (.sipush 1000, 3) := by decide +kernel
theorem dX10_feeling_5 : decode cX10_feeling 5 = .ok (.idiv, 1) := by decide +kernel
theorem dX10_feeling_6 : decode cX10_feeling 6 = .ok (.if_icmp .ge 5, 3) := by decide +kernel
theorem dX10_feeling_9 : decode cX10_feeling 9 = .ok (.iconst 1, 1) := by decide +kernel
theorem dX10_feeling_10 : decode cX10_feeling 10 = .ok (.ireturn, 1) := by decide +kernel
theorem dX10_feeling_11 : decode cX10_feeling 11 = .ok (.iload_n 0, 1) := by decide +kernel
theorem dX10_feeling_12 : decode cX10_feeling 12 = .ok (.iload_n 1, 1) := by decide +kernel
theorem dX10_feeling_13 : decode cX10_feeling 13 = .ok (.sipush 1000, 3) := by decide +kernel
theorem dX10_feeling_16 : decode cX10_feeling 16 = .ok (.irem, 1) := by decide +kernel
theorem dX10_feeling_17 : decode cX10_feeling 17 = .ok (.if_icmp .le 7, 3) := by decide +kernel
theorem dX10_feeling_20 : decode cX10_feeling 20 = .ok (.iconst 2, 1) := by decide +kernel
theorem dX10_feeling_21 : decode cX10_feeling 21 = .ok (.goto 4, 3) := by decide +kernel
theorem dX10_feeling_24 : decode cX10_feeling 24 = .ok (.iconst 0, 1) := by decide +kernel
theorem dX10_feeling_25 : decode cX10_feeling 25 = .ok (.ireturn, 1) := by decide +kernel
theorem dX10_isUnder_0 : decode cX10_isUnder 0 = .ok (.iload_n 0, 1) := by decide +kernel
theorem dX10_isUnder_1 : decode cX10_isUnder 1 = .ok (.istore_n 2, 1) := by decide +kernel
theorem dX10_isUnder_2 : decode cX10_isUnder 2 = .ok (.iconst 0, 1) := by decide +kernel
theorem dX10_isUnder_3 : decode cX10_isUnder 3 = .ok (.istore_n 3, 1) := by decide +kernel
theorem dX10_isUnder_4 : decode cX10_isUnder 4 = .ok (.iload_n 3, 1) := by decide +kernel
theorem dX10_isUnder_5 : decode cX10_isUnder 5 = .ok (.bipush 6, 2) := by decide +kernel
theorem dX10_isUnder_7 : decode cX10_isUnder 7 = .ok (.if_icmp .ge 31, 3) := by decide +kernel
theorem dX10_isUnder_10 : decode cX10_isUnder 10 = .ok (.iload_n 2, 1) := by decide +kernel
theorem dX10_isUnder_11 : decode cX10_isUnder 11 = .ok (.iconst 0, 1) := by decide +kernel
theorem dX10_isUnder_12 : decode cX10_isUnder 12 = .ok (.iconst 5, 1) := by decide +kernel
theorem dX10_isUnder_13 : decode cX10_isUnder 13 = .ok (.invokestatic 90, 3) := by decide +kernel
theorem dX10_isUnder_16 : decode cX10_isUnder 16 = .ok (.ifCond .eq 22, 3) := by decide +kernel
theorem dX10_isUnder_19 : decode cX10_isUnder 19 = .ok (.iload_n 2, 1) := by decide +kernel
theorem dX10_isUnder_20 : decode cX10_isUnder 20 = .ok (.iload_n 1, 1) := by decide +kernel
theorem dX10_isUnder_21 : decode cX10_isUnder 21 = .ok (.if_icmp .ne 5, 3) := by decide +kernel
theorem dX10_isUnder_24 : decode cX10_isUnder 24 = .ok (.iconst 1, 1) := by decide +kernel
theorem dX10_isUnder_25 : decode cX10_isUnder 25 = .ok (.ireturn, 1) := by decide +kernel
theorem dX10_isUnder_26 : decode cX10_isUnder 26 = .ok (.getstatic 347, 3) := by decide +kernel
theorem dX10_isUnder_29 : decode cX10_isUnder 29 = .ok (.iload_n 2, 1) := by decide +kernel
theorem dX10_isUnder_30 : decode cX10_isUnder 30 = .ok (.iaload, 1) := by decide +kernel
theorem dX10_isUnder_31 : decode cX10_isUnder 31 = .ok (.istore_n 2, 1) := by decide +kernel
theorem dX10_isUnder_32 : decode cX10_isUnder 32 = .ok (.iinc 3 1, 3) := by decide +kernel
theorem dX10_isUnder_35 : decode cX10_isUnder 35 = .ok (.goto (-31), 3) := by decide +kernel
theorem dX10_isUnder_38 : decode cX10_isUnder 38 = .ok (.iconst 0, 1) := by decide +kernel
theorem dX10_isUnder_39 : decode cX10_isUnder 39 = .ok (.ireturn, 1) := by decide +kernel
theorem dX10_lowest_0 : decode cX10_lowest 0 = .ok (.iload_n 2, 1) := by decide +kernel
theorem dX10_lowest_1 : decode cX10_lowest 1 = .ok (.bipush 8, 2) := by decide +kernel
theorem dX10_lowest_3 : decode cX10_lowest 3 = .ok (.if_icmp .ne 8, 3) := by decide +kernel
theorem dX10_lowest_6 : decode cX10_lowest 6 = .ok (.lload_n 0, 1) := by decide +kernel
theorem dX10_lowest_7 : decode cX10_lowest 7 = .ok (.l2i, 1) := by decide +kernel
theorem dX10_lowest_8 : decode cX10_lowest 8 = .ok (.i2b, 1) := by decide +kernel
theorem dX10_lowest_9 : decode cX10_lowest 9 = .ok (.i2l, 1) := by decide +kernel
theorem dX10_lowest_10 : decode cX10_lowest 10 = .ok (.lreturn, 1) := by decide +kernel
theorem dX10_lowest_11 : decode cX10_lowest 11 = .ok (.iload_n 2, 1) := by decide +kernel
theorem dX10_lowest_12 : decode cX10_lowest 12 = .ok (.bipush 16, 2) := by decide +kernel
theorem dX10_lowest_14 : decode cX10_lowest 14 = .ok (.if_icmp .ne 10, 3) := by decide +kernel
theorem dX10_lowest_17 : decode cX10_lowest 17 = .ok (.lload_n 0, 1) := by decide +kernel
theorem dX10_lowest_18 : decode cX10_lowest 18 = .ok (.l2i, 1) := by decide +kernel
theorem dX10_lowest_19 : decode cX10_lowest 19 = .ok (.i2s, 1) := by decide +kernel
theorem dX10_lowest_20 : decode cX10_lowest 20 = .ok (.i2l, 1) := by decide +kernel
theorem dX10_lowest_21 : decode cX10_lowest 21 = .ok (.goto 4, 3) := by decide +kernel
theorem dX10_lowest_24 : decode cX10_lowest 24 = .ok (.lload_n 0, 1) := by decide +kernel
theorem dX10_lowest_25 : decode cX10_lowest 25 = .ok (.lreturn, 1) := by decide +kernel
theorem dX11_init_0 : decode cX11_init 0 = .ok (.aload_n 0, 1) := by decide +kernel
theorem dX11_init_1 : decode cX11_init 1 = .ok (.invokespecial 1, 3) := by decide +kernel
theorem dX11_init_4 : decode cX11_init 4 = .ok (.aload_n 0, 1) := by decide +kernel
theorem dX11_init_5 : decode cX11_init 5 = .ok (.sipush 291, 3) := by decide +kernel
theorem dX11_init_8 : decode cX11_init 8 = .ok (.newarray .int, 2) := by decide +kernel
theorem dX11_init_10 : decode cX11_init 10 = .ok (.putfield 9, 3) := by decide +kernel
theorem dX11_init_13 : decode cX11_init 13 = .ok (.aload_n 0, 1) := by decide +kernel
theorem dX11_init_14 : decode cX11_init 14 = .ok (.sipush 291, 3) := by decide +kernel
theorem dX11_init_17 : decode cX11_init 17 = .ok (.newarray .int, 2) := by decide +kernel
theorem dX11_init_19 : decode cX11_init 19 = .ok (.putfield 13, 3) := by decide +kernel
theorem dX11_init_22 : decode cX11_init 22 = .ok (.aload_n 0, 1) := by decide +kernel
theorem dX11_init_23 : decode cX11_init 23 = .ok (.bipush 7, 2) := by decide +kernel
theorem dX11_init_25 : decode cX11_init 25 = .ok (.newarray .int, 2) := by decide +kernel
theorem dX11_init_27 : decode cX11_init 27 = .ok (.putfield 16, 3) := by decide +kernel
theorem dX11_init_30 : decode cX11_init 30 = .ok (.aload_n 0, 1) := by decide +kernel
theorem dX11_init_31 : decode cX11_init 31 = .ok (.bipush 12, 2) := by decide +kernel
theorem dX11_init_33 : decode cX11_init 33 = .ok (.newarray .int, 2) := by decide +kernel
theorem dX11_init_35 : decode cX11_init 35 = .ok (.putfield 19, 3) := by decide +kernel
theorem dX11_init_38 : decode cX11_init 38 = .ok (.aload_n 0, 1) := by decide +kernel
theorem dX11_init_39 : decode cX11_init 39 = .ok (.bipush 12, 2) := by decide +kernel
theorem dX11_init_41 : decode cX11_init 41 = .ok (.newarray .int, 2) := by decide +kernel
theorem dX11_init_43 : decode cX11_init 43 = .ok (.putfield 22, 3) := by decide +kernel
theorem dX11_init_46 : decode cX11_init 46 = .ok (.aload_n 0, 1) := by decide +kernel
theorem dX11_init_47 : decode cX11_init 47 = .ok (.bipush 12, 2) := by decide +kernel
theorem dX11_init_49 : decode cX11_init 49 = .ok (.newarray .int, 2) := by decide +kernel
theorem dX11_init_51 : decode cX11_init 51 = .ok (.putfield 25, 3) := by decide +kernel
theorem dX11_init_54 : decode cX11_init 54 = .ok (.aload_n 0, 1) := by decide +kernel
theorem dX11_init_55 : decode cX11_init 55 = .ok (.bipush 12, 2) := by decide +kernel
theorem dX11_init_57 : decode cX11_init 57 = .ok (.newarray .int, 2) := by decide +kernel
theorem dX11_init_59 : decode cX11_init 59 = .ok (.putfield 28, 3) := by decide +kernel
theorem dX11_init_62 : decode cX11_init 62 = .ok (.aload_n 0, 1) := by decide +kernel
theorem dX11_init_63 : decode cX11_init 63 = .ok (.bipush 12, 2) := by decide +kernel
theorem dX11_init_65 : decode cX11_init 65 = .ok (.newarray .int, 2) := by decide +kernel
theorem dX11_init_67 : decode cX11_init 67 = .ok (.putfield 31, 3) := by decide +kernel
theorem dX11_init_70 : decode cX11_init 70 = .ok (.aload_n 0, 1) := by decide +kernel
theorem dX11_init_71 : decode cX11_init 71 = .ok (.bipush 12, 2) := by decide +kernel
theorem dX11_init_73 : decode cX11_init 73 = .ok (.newarray .int, 2) := by decide +kernel
theorem dX11_init_75 : decode cX11_init 75 = .ok (.putfield 34, 3) := by decide +kernel
theorem dX11_init_78 : decode cX11_init 78 = .ok (.aload_n 0, 1) := by decide +kernel
theorem dX11_init_79 : decode cX11_init 79 = .ok (.bipush 12, 2) := by decide +kernel
theorem dX11_init_81 : decode cX11_init 81 = .ok (.newarray .int, 2) := by decide +kernel
theorem dX11_init_83 : decode cX11_init 83 = .ok (.putfield 37, 3) := by decide +kernel
theorem dX11_init_86 : decode cX11_init 86 = .ok (.aload_n 0, 1) := by decide +kernel
theorem dX11_init_87 : decode cX11_init 87 = .ok (.bipush 12, 2) := by decide +kernel
theorem dX11_init_89 : decode cX11_init 89 = .ok (.newarray .int, 2) := by decide +kernel
theorem dX11_init_91 : decode cX11_init 91 = .ok (.putfield 40, 3) := by decide +kernel
theorem dX11_init_94 : decode cX11_init 94 = .ok (.aload_n 0, 1) := by decide +kernel
theorem dX11_init_95 : decode cX11_init 95 = .ok (.bipush 12, 2) := by decide +kernel
theorem dX11_init_97 : decode cX11_init 97 = .ok (.newarray .int, 2) := by decide +kernel
theorem dX11_init_99 : decode cX11_init 99 = .ok (.putfield 43, 3) := by decide +kernel
theorem dX11_init_102 : decode cX11_init 102 = .ok (.aload_n 0, 1) := by decide +kernel
theorem dX11_init_103 : decode cX11_init 103 = .ok (.bipush 12, 2) := by decide +kernel
theorem dX11_init_105 : decode cX11_init 105 = .ok (.newarray .int, 2) := by decide +kernel
theorem dX11_init_107 : decode cX11_init 107 = .ok (.putfield 46, 3) := by decide +kernel
theorem dX11_init_110 : decode cX11_init 110 = .ok (.aload_n 0, 1) := by decide +kernel
theorem dX11_init_111 : decode cX11_init 111 = .ok (.bipush 12, 2) := by decide +kernel
theorem dX11_init_113 : decode cX11_init 113 = .ok (.newarray .int, 2) := by decide +kernel
theorem dX11_init_115 : decode cX11_init 115 = .ok (.putfield 49, 3) := by decide +kernel
theorem dX11_init_118 : decode cX11_init 118 = .ok (.aload_n 0, 1) := by decide +kernel
theorem dX11_init_119 : decode cX11_init 119 = .ok (.bipush 12, 2) := by decide +kernel
theorem dX11_init_121 : decode cX11_init 121 = .ok (.newarray .int, 2) := by decide +kernel
theorem dX11_init_123 : decode cX11_init 123 = .ok (.putfield 52, 3) := by decide +kernel
theorem dX11_init_126 : decode cX11_init 126 = .ok (.aload_n 0, 1) := by decide +kernel
theorem dX11_init_127 : decode cX11_init 127 = .ok (.bipush 80, 2) := by decide +kernel
theorem dX11_init_129 : decode cX11_init 129 = .ok (.newarray .int, 2) := by decide +kernel
theorem dX11_init_131 : decode cX11_init 131 = .ok (.putfield 55, 3) := by decide +kernel
theorem dX11_init_134 : decode cX11_init 134 = .ok (.aload_n 0, 1) := by decide +kernel
theorem dX11_init_135 : decode cX11_init 135 = .ok (.bipush 80, 2) := by decide +kernel
theorem dX11_init_137 : decode cX11_init 137 = .ok (.newarray .int, 2) := by decide +kernel
theorem dX11_init_139 : decode cX11_init 139 = .ok (.putfield 58, 3) := by decide +kernel
theorem dX11_init_142 : decode cX11_init 142 = .ok (.aload_n 0, 1) := by decide +kernel
theorem dX11_init_143 : decode cX11_init 143 = .ok (.bipush 80, 2) := by decide +kernel
theorem dX11_init_145 : decode cX11_init 145 = .ok (.newarray .int, 2) := by decide +kernel
theorem dX11_init_147 : decode cX11_init 147 = .ok (.putfield 61, 3) := by decide +kernel
theorem dX11_init_150 : decode cX11_init 150 = .ok (.aload_n 0, 1) := by decide +kernel
theorem dX11_init_151 : decode cX11_init 151 = .ok (.bipush 80, 2) := by decide +kernel
theorem dX11_init_153 : decode cX11_init 153 = .ok (.newarray .int, 2) := by decide +kernel
theorem dX11_init_155 : decode cX11_init 155 = .ok (.putfield 64, 3) := by decide +kernel
theorem dX11_init_158 : decode cX11_init 158 = .ok (.aload_n 0, 1) := by decide +kernel
theorem dX11_init_159 : decode cX11_init 159 = .ok (.bipush 12, 2) := by decide +kernel
theorem dX11_init_161 : decode cX11_init 161 = .ok (.newarray .int, 2) := by decide +kernel
theorem dX11_init_163 : decode cX11_init 163 = .ok (.putfield 67, 3) := by decide +kernel
theorem dX11_init_166 : decode cX11_init 166 = .ok (.aload_n 0, 1) := by decide +kernel
theorem dX11_init_167 : decode cX11_init 167 = .ok (.bipush 12, 2) := by decide +kernel
theorem dX11_init_169 : decode cX11_init 169 = .ok (.newarray .int, 2) := by decide +kernel
theorem dX11_init_171 : decode cX11_init 171 = .ok (.putfield 70, 3) := by decide +kernel
theorem dX11_init_174 : decode cX11_init 174 = .ok (.aload_n 0, 1) := by decide +kernel
theorem dX11_init_175 : decode cX11_init 175 = .ok (.bipush 12, 2) := by decide +kernel
theorem dX11_init_177 : decode cX11_init 177 = .ok (.newarray .int, 2) := by decide +kernel
theorem dX11_init_179 : decode cX11_init 179 = .ok (.putfield 73, 3) := by decide +kernel
theorem dX11_init_182 : decode cX11_init 182 = .ok (.aload_n 0, 1) := by decide +kernel
theorem dX11_init_183 : decode cX11_init 183 = .ok (.bipush 24, 2) := by decide +kernel
theorem dX11_init_185 : decode cX11_init 185 = .ok (.newarray .int, 2) := by decide +kernel
theorem dX11_init_187 : decode cX11_init 187 = .ok (.putfield 76, 3) := by decide +kernel
theorem dX11_init_190 : decode cX11_init 190 = .ok (.aload_n 0, 1) := by decide +kernel
theorem dX11_init_191 : decode cX11_init 191 = .ok (.iconst 4, 1) := by decide +kernel
theorem dX11_init_192 : decode cX11_init 192 = .ok (.newarray .int, 2) := by decide +kernel
theorem dX11_init_194 : decode cX11_init 194 = .ok (.putfield 79, 3) := by decide +kernel
theorem dX11_init_197 : decode cX11_init 197 = .ok (.aload_n 0, 1) := by decide +kernel
theorem dX11_init_198 : decode cX11_init 198 = .ok (.iconst 4, 1) := by decide +kernel
theorem dX11_init_199 : decode cX11_init 199 = .ok (.newarray .int, 2) := by decide +kernel
theorem dX11_init_201 : decode cX11_init 201 = .ok (.putfield 82, 3) := by decide +kernel
theorem dX11_init_204 : decode cX11_init 204 = .ok (.aload_n 0, 1) := by decide +kernel
theorem dX11_init_205 : decode cX11_init 205 = .ok (.sipush 160, 3) := by decide +kernel
theorem dX11_init_208 : decode cX11_init 208 = .ok (.newarray .long, 2) := by decide +kernel
theorem dX11_init_210 : decode cX11_init 210 = .ok (.putfield 85, 3) := by decide +kernel
theorem dX11_init_213 : decode cX11_init 213 = .ok (.aload_n 0, 1) := by decide +kernel
theorem dX11_init_214 : decode cX11_init 214 = .ok (.bipush 40, 2) := by decide +kernel
theorem dX11_init_216 : decode cX11_init 216 = .ok (.newarray .long, 2) := by decide +kernel
theorem dX11_init_218 : decode cX11_init 218 = .ok (.putfield 89, 3) := by decide +kernel
theorem dX11_init_221 : decode cX11_init 221 = .ok (.aload_n 0, 1) := by decide +kernel
theorem dX11_init_222 : decode cX11_init 222 = .ok (.getfield 9, 3) := by decide +kernel
theorem dX11_init_225 : decode cX11_init 225 = .ok (.iconst 1, 1) := by decide +kernel
theorem dX11_init_226 : decode cX11_init 226 = .ok (.bipush 50, 2) := by decide +kernel
theorem dX11_init_228 : decode cX11_init 228 = .ok (.iastore, 1) := by decide +kernel
theorem dX11_init_229 : decode cX11_init 229 = .ok (.aload_n 0, 1) := by decide +kernel
theorem dX11_init_230 : decode cX11_init 230 = .ok (.getfield 9, 3) := by decide +kernel
theorem dX11_init_233 : decode cX11_init 233 = .ok (.iconst 2, 1) := by decide +kernel
theorem dX11_init_234 : decode cX11_init 234 = .ok (.bipush 100, 2) := by decide +kernel
theorem dX11_init_236 : decode cX11_init 236 = .ok (.iastore, 1) := by decide +kernel
theorem dX11_init_237 : decode cX11_init 237 = .ok (.aload_n 0, 1) := by decide +kernel
theorem dX11_init_238 : decode cX11_init 238 = .ok (.getfield 9, 3) := by decide +kernel
theorem dX11_init_241 : decode cX11_init 241 = .ok (.iconst 3, 1) := by decide +kernel
theorem dX11_init_242 : decode cX11_init 242 = .ok (.sipush 600, 3) := by decide +kernel
theorem dX11_init_245 : decode cX11_init 245 = .ok (.iastore, 1) := by decide +kernel
theorem dX11_init_246 : decode cX11_init 246 = .ok (.return_, 1) := by decide +kernel
theorem dX11_finds_0 : decode cX11_finds 0 = .ok (.aload_n 0, 1) := by decide +kernel
theorem dX11_finds_1 : decode cX11_finds 1 = .ok (.getfield 16, 3) := by decide +kernel
theorem dX11_finds_4 : decode cX11_finds 4 = .ok (.ldc 92, 2) := by decide +kernel
theorem dX11_finds_6 : decode cX11_finds 6 = .ok (.iload_n 1, 1) := by decide +kernel
theorem dX11_finds_7 : decode cX11_finds 7 = .ok (.isub, 1) := by decide +kernel
theorem dX11_finds_8 : decode cX11_finds 8 = .ok (.dup2, 1) := by decide +kernel
theorem dX11_finds_9 : decode cX11_finds 9 = .ok (.iaload, 1) := by decide +kernel
theorem dX11_finds_10 : decode cX11_finds 10 = .ok (.iconst 1, 1) := by decide +kernel
theorem dX11_finds_11 : decode cX11_finds 11 = .ok (.iadd, 1) := by decide +kernel
theorem dX11_finds_12 : decode cX11_finds 12 = .ok (.iastore, 1) := by decide +kernel
theorem dX11_finds_13 : decode cX11_finds 13 = .ok (.aload_n 0, 1) := by decide +kernel
theorem dX11_finds_14 : decode cX11_finds 14 = .ok (.dup, 1) := by decide +kernel
theorem dX11_finds_15 : decode cX11_finds 15 = .ok (.getfield 93, 3) := by decide +kernel
theorem dX11_finds_18 : decode cX11_finds 18 = .ok (.iconst 1, 1) := by decide +kernel
theorem dX11_finds_19 : decode cX11_finds 19 = .ok (.iadd, 1) := by decide +kernel
theorem dX11_finds_20 : decode cX11_finds 20 = .ok (.putfield 93, 3) := by decide +kernel
theorem dX11_finds_23 : decode cX11_finds 23 = .ok (.iload_n 1, 1) := by decide +kernel
theorem dX11_finds_24 : decode cX11_finds 24 = .ok (.ireturn, 1) := by decide +kernel
theorem dX11_in_0 : decode cX11_in 0 = .ok (.iload_n 0, 1) := by decide +kernel
theorem dX11_in_1 : decode cX11_in 1 = .ok (.iload_n 1, 1) := by decide +kernel
theorem dX11_in_2 : decode cX11_in 2 = .ok (.if_icmp .lt 12, 3) := by decide +kernel
theorem dX11_in_5 : decode cX11_in 5 = .ok (.iload_n 0, 1) := by decide +kernel
theorem dX11_in_6 : decode cX11_in 6 = .ok (.iload_n 2, 1) := by decide +kernel
theorem dX11_in_7 : decode cX11_in 7 = .ok (.if_icmp .gt 7, 3) := by decide +kernel
theorem dX11_in_10 : decode cX11_in 10 = .ok (.iconst 1, 1) := by decide +kernel
theorem dX11_in_11 : decode cX11_in 11 = .ok (.goto 4, 3) := by decide +kernel
theorem dX11_in_14 : decode cX11_in 14 = .ok (.iconst 0, 1) := by decide +kernel
theorem dX11_in_15 : decode cX11_in 15 = .ok (.ireturn, 1) := by decide +kernel
theorem dX11_within_0 : decode cX11_within 0 = .ok (.iload_n 0, 1) := by decide +kernel
theorem dX11_within_1 : decode cX11_within 1 = .ok (.iload_n 1, 1) := by decide +kernel
theorem dX11_within_2 : decode cX11_within 2 = .ok (.if_icmp .ge 7, 3) := by decide +kernel
theorem dX11_within_5 : decode cX11_within 5 = .ok (.iload_n 1, 1) := by decide +kernel
theorem dX11_within_6 : decode cX11_within 6 = .ok (.goto 13, 3) := by decide +kernel
theorem dX11_within_9 : decode cX11_within 9 = .ok (.iload_n 0, 1) := by decide +kernel
theorem dX11_within_10 : decode cX11_within 10 = .ok (.iload_n 2, 1) := by decide +kernel
theorem dX11_within_11 : decode cX11_within 11 = .ok (.if_icmp .le 7, 3) := by decide +kernel
theorem dX11_within_14 : decode cX11_within 14 = .ok (.iload_n 2, 1) := by decide +kernel
theorem dX11_within_15 : decode cX11_within 15 = .ok (.goto 4, 3) := by decide +kernel
theorem dX11_within_18 : decode cX11_within 18 = .ok (.iload_n 0, 1) := by decide +kernel
theorem dX11_within_19 : decode cX11_within 19 = .ok (.ireturn, 1) := by decide +kernel
theorem dX11_isFlat_0 : decode cX11_isFlat 0 = .ok (.iload_n 1, 1) := by decide +kernel
theorem dX11_isFlat_1 : decode cX11_isFlat 1 = .ok (.iconst 0, 1) := by decide +kernel
theorem dX11_isFlat_2 : decode cX11_isFlat 2 = .ok (.aload_n 0, 1) := by decide +kernel
theorem dX11_isFlat_3 : decode cX11_isFlat 3 = .ok (.getfield 9, 3) := by decide +kernel
theorem dX11_isFlat_6 : decode cX11_isFlat 6 = .ok (.iconst 4, 1) := by decide +kernel
theorem dX11_isFlat_7 : decode cX11_isFlat 7 = .ok (.iaload, 1) := by decide +kernel
theorem dX11_isFlat_8 : decode cX11_isFlat 8 = .ok (.iconst 1, 1) := by decide +kernel
theorem dX11_isFlat_9 : decode cX11_isFlat 9 = .ok (.isub, 1) := by decide +kernel
theorem dX11_isFlat_10 : decode cX11_isFlat 10 = .ok (.invokestatic 97, 3) := by decide +kernel
theorem dX11_isFlat_13 : decode cX11_isFlat 13 = .ok (.ireturn, 1) := by decide +kernel
theorem dX11_get_0 : decode cX11_get 0 = .ok (.aload_n 0, 1) := by decide +kernel
theorem dX11_get_1 : decode cX11_get 1 = .ok (.getfield 9, 3) := by decide +kernel
theorem dX11_get_4 : decode cX11_get 4 = .ok (.bipush 7, 2) := by decide +kernel
theorem dX11_get_6 : decode cX11_get 6 = .ok (.bipush 11, 2) := by decide +kernel
theorem dX11_get_8 : decode cX11_get 8 = .ok (.iload_n 1, 1) := by decide +kernel
theorem dX11_get_9 : decode cX11_get 9 = .ok (.imul, 1) := by decide +kernel
theorem dX11_get_10 : decode cX11_get 10 = .ok (.iadd, 1) := by decide +kernel
theorem dX11_get_11 : decode cX11_get 11 = .ok (.iload_n 2, 1) := by decide +kernel
theorem dX11_get_12 : decode cX11_get 12 = .ok (.iadd, 1) := by decide +kernel
theorem dX11_get_13 : decode cX11_get 13 = .ok (.iaload, 1) := by decide +kernel
theorem dX11_get_14 : decode cX11_get 14 = .ok (.ireturn, 1) := by decide +kernel
theorem dX11_becomes_0 : decode cX11_becomes 0 = .ok (.aload_n 0, 1) := by decide +kernel
theorem dX11_becomes_1 : decode cX11_becomes 1 = .ok (.iload_n 1, 1) := by decide +kernel
theorem dX11_becomes_2 : decode cX11_becomes 2 = .ok (.iload_n 2, 1) := by decide +kernel
theorem dX11_becomes_3 : decode cX11_becomes 3 = .ok (.invokevirtual 101, 3) := by decide +kernel
theorem dX11_becomes_6 : decode cX11_becomes 6 = .ok (.istore 4, 2) := by decide +kernel
theorem dX11_becomes_8 : decode cX11_becomes 8 = .ok (.aload_n 0, 1) := by decide +kernel
theorem dX11_becomes_9 : decode cX11_becomes 9 = .ok (.getfield 9, 3) := by decide +kernel
theorem dX11_becomes_12 : decode cX11_becomes 12 = .ok (.bipush 7, 2) := by decide +kernel
theorem dX11_becomes_14 : decode cX11_becomes 14 = .ok (.bipush 11, 2) := by decide +kernel
theorem dX11_becomes_16 : decode cX11_becomes 16 = .ok (.iload_n 1, 1) := by decide +kernel
theorem dX11_becomes_17 : decode cX11_becomes 17 = .ok (.imul, 1) := by decide +kernel
theorem dX11_becomes_18 : decode cX11_becomes 18 = .ok (.iadd, 1) := by decide +kernel
theorem dX11_becomes_19 : decode cX11_becomes 19 = .ok (.iload_n 2, 1) := by decide +kernel
theorem dX11_becomes_20 : decode cX11_becomes 20 = .ok (.iadd, 1) := by decide +kernel
theorem dX11_becomes_21 : decode cX11_becomes 21 = .ok (.iload_n 3, 1) := by decide +kernel
theorem dX11_becomes_22 : decode cX11_becomes 22 = .ok (.iastore, 1) := by decide +kernel
theorem dX11_becomes_23 : decode cX11_becomes 23 = .ok (.aload_n 0, 1) := by decide +kernel
theorem dX11_becomes_24 : decode cX11_becomes 24 = .ok (.iconst 0, 1) := by decide +kernel
theorem dX11_becomes_25 : decode cX11_becomes 25 = .ok (.putfield 105, 3) := by decide +kernel
theorem dX11_becomes_28 : decode cX11_becomes 28 = .ok (.iload 4, 2) := by decide +kernel
theorem dX11_becomes_30 : decode cX11_becomes 30 = .ok (.ireturn, 1) := by decide +kernel
theorem dX11_flat_0 : decode cX11_flat 0 = .ok (.iload_n 1, 1) := by decide +kernel
theorem dX11_flat_1 : decode cX11_flat 1 = .ok (.iconst 0, 1) := by decide +kernel
theorem dX11_flat_2 : decode cX11_flat 2 = .ok (.iconst 5, 1) := by decide +kernel
theorem dX11_flat_3 : decode cX11_flat 3 = .ok (.invokestatic 97, 3) := by decide +kernel
theorem dX11_flat_6 : decode cX11_flat 6 = .ok (.ifCond .eq 22, 3) := by decide +kernel
theorem dX11_flat_9 : decode cX11_flat 9 = .ok (.iload_n 2, 1) := by decide +kernel
theorem dX11_flat_10 : decode cX11_flat 10 = .ok (.iconst 0, 1) := by decide +kernel
theorem dX11_flat_11 : decode cX11_flat 11 = .ok (.iconst 3, 1) := by decide +kernel
theorem dX11_flat_12 : decode cX11_flat 12 = .ok (.invokestatic 97, 3) := by decide +kernel
theorem dX11_flat_15 : decode cX11_flat 15 = .ok (.ifCond .eq 13, 3) := by decide +kernel
theorem dX11_flat_18 : decode cX11_flat 18 = .ok (.iload_n 3, 1) := by decide +kernel
theorem dX11_flat_19 : decode cX11_flat 19 = .ok (.iconst 1, 1) := by decide +kernel
theorem dX11_flat_20 : decode cX11_flat 20 = .ok (.bipush 99, 2) := by decide +kernel
theorem dX11_flat_22 : decode cX11_flat 22 = .ok (.invokestatic 97, 3) := by decide +kernel
theorem dX11_flat_25 : decode cX11_flat 25 = .ok (.ifCond .ne 10, 3) := by decide +kernel
theorem dX11_flat_28 : decode cX11_flat 28 = .ok (.aload_n 0, 1) := by decide +kernel
theorem dX11_flat_29 : decode cX11_flat 29 = .ok (.ldc 92, 2) := by decide +kernel
theorem dX11_flat_31 : decode cX11_flat 31 = .ok (.invokevirtual 109, 3) := by decide +kernel
theorem dX11_flat_34 : decode cX11_flat 34 = .ok (.ireturn, 1) := by decide +kernel
theorem dX11_flat_35 : decode cX11_flat 35 = .ok (.aload_n 0, 1) := by decide +kernel
theorem dX11_flat_36 : decode cX11_flat 36 = .ok (.getfield 9, 3) := by decide +kernel
theorem dX11_flat_39 : decode cX11_flat 39 = .ok (.iconst 4, 1) := by decide +kernel
theorem dX11_flat_40 : decode cX11_flat 40 = .ok (.iaload, 1) := by decide +kernel
theorem dX11_flat_41 : decode cX11_flat 41 = .ok (.bipush 12, 2) := by decide +kernel
theorem dX11_flat_43 : decode cX11_flat 43 = .ok (.if_icmp .ne 10, 3) := by decide +kernel
theorem dX11_flat_46 : decode cX11_flat 46 = .ok (.aload_n 0, 1) := by decide +kernel
theorem dX11_flat_47 : decode cX11_flat 47 = .ok (.ldc 113, 2) := by decide +kernel
theorem dX11_flat_49 : decode cX11_flat 49 = .ok (.invokevirtual 109, 3) := by decide +kernel
theorem dX11_flat_52 : decode cX11_flat 52 = .ok (.ireturn, 1) := by decide +kernel
theorem dX11_flat_53 : decode cX11_flat 53 = .ok (.aload_n 0, 1) := by decide +kernel
theorem dX11_flat_54 : decode cX11_flat 54 = .ok (.getfield 9, 3) := by decide +kernel
theorem dX11_flat_57 : decode cX11_flat 57 = .ok (.iconst 4, 1) := by decide +kernel
theorem dX11_flat_58 : decode cX11_flat 58 = .ok (.iaload, 1) := by decide +kernel
theorem dX11_flat_59 : decode cX11_flat 59 = .ok (.istore 4, 2) := by decide +kernel
theorem dX11_flat_61 : decode cX11_flat 61 = .ok (.iconst 0, 1) := by decide +kernel
theorem dX11_flat_62 : decode cX11_flat 62 = .ok (.istore 5, 2) := by decide +kernel
theorem dX11_flat_64 : decode cX11_flat 64 = .ok (.iload 5, 2) := by decide +kernel
theorem dX11_flat_66 : decode cX11_flat 66 = .ok (.bipush 11, 2) := by decide +kernel
theorem dX11_flat_68 : decode cX11_flat 68 = .ok (.if_icmp .ge 26, 3) := by decide +kernel
theorem dX11_flat_71 : decode cX11_flat 71 = .ok (.aload_n 0, 1) := by decide +kernel
theorem dX11_flat_72 : decode cX11_flat 72 = .ok (.getfield 9, 3) := by decide +kernel
theorem dX11_flat_75 : decode cX11_flat 75 = .ok (.bipush 7, 2) := by decide +kernel
theorem dX11_flat_77 : decode cX11_flat 77 = .ok (.bipush 11, 2) := by decide +kernel
theorem dX11_flat_79 : decode cX11_flat 79 = .ok (.iload 4, 2) := by decide +kernel
theorem dX11_flat_81 : decode cX11_flat 81 = .ok (.imul, 1) := by decide +kernel
theorem dX11_flat_82 : decode cX11_flat 82 = .ok (.iadd, 1) := by decide +kernel
theorem dX11_flat_83 : decode cX11_flat 83 = .ok (.iload 5, 2) := by decide +kernel
theorem dX11_flat_85 : decode cX11_flat 85 = .ok (.iadd, 1) := by decide +kernel
theorem dX11_flat_86 : decode cX11_flat 86 = .ok (.iconst 0, 1) := by decide +kernel
theorem dX11_flat_87 : decode cX11_flat 87 = .ok (.iastore, 1) := by decide +kernel
theorem dX11_flat_88 : decode cX11_flat 88 = .ok (.iinc 5 1, 3) := by decide +kernel
theorem dX11_flat_91 : decode cX11_flat 91 = .ok (.goto (-27), 3) := by decide +kernel
theorem dX11_flat_94 : decode cX11_flat 94 = .ok (.aload_n 0, 1) := by decide +kernel
theorem dX11_flat_95 : decode cX11_flat 95 = .ok (.getfield 9, 3) := by decide +kernel
theorem dX11_flat_98 : decode cX11_flat 98 = .ok (.bipush 7, 2) := by decide +kernel
theorem dX11_flat_100 : decode cX11_flat 100 = .ok (.bipush 11, 2) := by decide +kernel
theorem dX11_flat_102 : decode cX11_flat 102 = .ok (.iload 4, 2) := by decide +kernel
theorem dX11_flat_104 : decode cX11_flat 104 = .ok (.imul, 1) := by decide +kernel
theorem dX11_flat_105 : decode cX11_flat 105 = .ok (.iadd, 1) := by decide +kernel
theorem dX11_flat_106 : decode cX11_flat 106 = .ok (.iload_n 1, 1) := by decide +kernel
theorem dX11_flat_107 : decode cX11_flat 107 = .ok (.iastore, 1) := by decide +kernel
theorem dX11_flat_108 : decode cX11_flat 108 = .ok (.aload_n 0, 1) := by decide +kernel
theorem dX11_flat_109 : decode cX11_flat 109 = .ok (.getfield 9, 3) := by decide +kernel
theorem dX11_flat_112 : decode cX11_flat 112 = .ok (.bipush 7, 2) := by decide +kernel
theorem dX11_flat_114 : decode cX11_flat 114 = .ok (.bipush 11, 2) := by decide +kernel
theorem dX11_flat_116 : decode cX11_flat 116 = .ok (.iload 4, 2) := by decide +kernel
theorem dX11_flat_118 : decode cX11_flat 118 = .ok (.imul, 1) := by decide +kernel
theorem dX11_flat_119 : decode cX11_flat 119 = .ok (.iadd, 1) := by decide +kernel
theorem dX11_flat_120 : decode cX11_flat 120 = .ok (.iconst 1, 1) := by decide +kernel
theorem dX11_flat_121 : decode cX11_flat 121 = .ok (.iadd, 1) := by decide +kernel
theorem dX11_flat_122 : decode cX11_flat 122 = .ok (.iload_n 2, 1) := by decide +kernel
theorem dX11_flat_123 : decode cX11_flat 123 = .ok (.iastore, 1) := by decide +kernel
theorem dX11_flat_124 : decode cX11_flat 124 = .ok (.aload_n 0, 1) := by decide +kernel
theorem dX11_flat_125 : decode cX11_flat 125 = .ok (.getfield 9, 3) := by decide +kernel
theorem dX11_flat_128 : decode cX11_flat 128 = .ok (.bipush 7, 2) := by decide +kernel
theorem dX11_flat_130 : decode cX11_flat 130 = .ok (.bipush 11, 2) := by decide +kernel
theorem dX11_flat_132 : decode cX11_flat 132 = .ok (.iload 4, 2) := by decide +kernel
theorem dX11_flat_134 : decode cX11_flat 134 = .ok (.imul, 1) := by decide +kernel
theorem dX11_flat_135 : decode cX11_flat 135 = .ok (.iadd, 1) := by decide +kernel
theorem dX11_flat_136 : decode cX11_flat 136 = .ok (.iconst 2, 1) := by decide +kernel
theorem dX11_flat_137 : decode cX11_flat 137 = .ok (.iadd, 1) := by decide +kernel
theorem dX11_flat_138 : decode cX11_flat 138 = .ok (.iload_n 3, 1) := by decide +kernel
theorem dX11_flat_139 : decode cX11_flat 139 = .ok (.iastore, 1) := by decide +kernel
theorem dX11_flat_140 : decode cX11_flat 140 = .ok (.aload_n 0, 1) := by decide +kernel
theorem dX11_flat_141 : decode cX11_flat 141 = .ok (.getfield 9, 3) := by decide +kernel
theorem dX11_flat_144 : decode cX11_flat 144 = .ok (.bipush 7, 2) := by decide +kernel
theorem dX11_flat_146 : decode cX11_flat 146 = .ok (.bipush 11, 2) := by decide +kernel
theorem dX11_flat_148 : decode cX11_flat 148 = .ok (.iload 4, 2) := by decide +kernel
theorem dX11_flat_150 : decode cX11_flat 150 = .ok (.imul, 1) := by decide +kernel
theorem dX11_flat_151 : decode cX11_flat 151 = .ok (.iadd, 1) := by decide +kernel
theorem dX11_flat_152 : decode cX11_flat 152 = .ok (.iconst 3, 1) := by decide +kernel
theorem dX11_flat_153 : decode cX11_flat 153 = .ok (.iadd, 1) := by decide +kernel
theorem dX11_flat_154 : decode cX11_flat 154 = .ok (.iconst 4, 1) := by decide +kernel
theorem dX11_flat_155 : decode cX11_flat 155 = .ok (.iastore, 1) := by decide +kernel
theorem dX11_flat_156 : decode cX11_flat 156 = .ok (.aload_n 0, 1) := by decide +kernel
theorem dX11_flat_157 : decode cX11_flat 157 = .ok (.getfield 9, 3) := by decide +kernel
theorem dX11_flat_160 : decode cX11_flat 160 = .ok (.bipush 7, 2) := by decide +kernel
theorem dX11_flat_162 : decode cX11_flat 162 = .ok (.bipush 11, 2) := by decide +kernel
theorem dX11_flat_164 : decode cX11_flat 164 = .ok (.iload 4, 2) := by decide +kernel
theorem dX11_flat_166 : decode cX11_flat 166 = .ok (.imul, 1) := by decide +kernel
theorem dX11_flat_167 : decode cX11_flat 167 = .ok (.iadd, 1) := by decide +kernel
theorem dX11_flat_168 : decode cX11_flat 168 = .ok (.bipush 6, 2) := by decide +kernel
theorem dX11_flat_170 : decode cX11_flat 170 = .ok (.iadd, 1) := by decide +kernel
theorem dX11_flat_171 : decode cX11_flat 171 = .ok (.sipush 200, 3) := by decide +kernel
theorem dX11_flat_174 : decode cX11_flat 174 = .ok (.iastore, 1) := by decide +kernel
theorem dX11_flat_175 : decode cX11_flat 175 = .ok (.aload_n 0, 1) := by decide +kernel
theorem dX11_flat_176 : decode cX11_flat 176 = .ok (.getfield 9, 3) := by decide +kernel
theorem dX11_flat_179 : decode cX11_flat 179 = .ok (.bipush 7, 2) := by decide +kernel
theorem dX11_flat_181 : decode cX11_flat 181 = .ok (.bipush 11, 2) := by decide +kernel
theorem dX11_flat_183 : decode cX11_flat 183 = .ok (.iload 4, 2) := by decide +kernel
theorem dX11_flat_185 : decode cX11_flat 185 = .ok (.imul, 1) := by decide +kernel
theorem dX11_flat_186 : decode cX11_flat 186 = .ok (.iadd, 1) := by decide +kernel
theorem dX11_flat_187 : decode cX11_flat 187 = .ok (.bipush 10, 2) := by decide +kernel
theorem dX11_flat_189 : decode cX11_flat 189 = .ok (.iadd, 1) := by decide +kernel
theorem dX11_flat_190 : decode cX11_flat 190 = .ok (.bipush 100, 2) := by decide +kernel
theorem dX11_flat_192 : decode cX11_flat 192 = .ok (.iastore, 1) := by decide +kernel
theorem dX11_flat_193 : decode cX11_flat 193 = .ok (.aload_n 0, 1) := by decide +kernel
theorem dX11_flat_194 : decode cX11_flat 194 = .ok (.getfield 9, 3) := by decide +kernel
theorem dX11_flat_197 : decode cX11_flat 197 = .ok (.iconst 4, 1) := by decide +kernel
theorem dX11_flat_198 : decode cX11_flat 198 = .ok (.dup2, 1) := by decide +kernel
theorem dX11_flat_199 : decode cX11_flat 199 = .ok (.iaload, 1) := by decide +kernel
theorem dX11_flat_200 : decode cX11_flat 200 = .ok (.iconst 1, 1) := by decide +kernel
theorem dX11_flat_201 : decode cX11_flat 201 = .ok (.iadd, 1) := by decide +kernel
theorem dX11_flat_202 : decode cX11_flat 202 = .ok (.iastore, 1) := by decide +kernel
theorem dX11_flat_203 : decode cX11_flat 203 = .ok (.aload_n 0, 1) := by decide +kernel
theorem dX11_flat_204 : decode cX11_flat 204 = .ok (.iconst 0, 1) := by decide +kernel
theorem dX11_flat_205 : decode cX11_flat 205 = .ok (.putfield 105, 3) := by decide +kernel
theorem dX11_flat_208 : decode cX11_flat 208 = .ok (.iload 4, 2) := by decide +kernel
theorem dX11_flat_210 : decode cX11_flat 210 = .ok (.ireturn, 1) := by decide +kernel
theorem dX11_placeOf_0 : decode cX11_placeOf 0 = .ok (.iconst 0, 1) := by decide +kernel
theorem dX11_placeOf_1 : decode cX11_placeOf 1 = .ok (.istore_n 2, 1) := by decide +kernel
theorem dX11_placeOf_2 : decode cX11_placeOf 2 = .ok (.iconst 0, 1) := by decide +kernel
theorem dX11_placeOf_3 : decode cX11_placeOf 3 = .ok (.istore_n 3, 1) := by decide +kernel
theorem dX11_placeOf_4 : decode cX11_placeOf 4 = .ok (.iload_n 3, 1) := by decide +kernel
theorem dX11_placeOf_5 : decode cX11_placeOf 5 = .ok (.iload_n 1, 1) := by decide +kernel
theorem dX11_placeOf_6 : decode cX11_placeOf 6 = .ok (.if_icmp .ge 32, 3) := by decide +kernel
theorem dX11_placeOf_9 : decode cX11_placeOf 9 = .ok (.iload_n 2, 1) := by decide +kernel
theorem dX11_placeOf_10 : decode cX11_placeOf 10 = .ok (.aload_n 0, 1) := by decide +kernel
theorem dX11_placeOf_11 : decode cX11_placeOf 11 = .ok (.iload_n 3, 1) := by decide +kernel
theorem dX11_placeOf_12 : decode cX11_placeOf 12 = .ok (.iconst 1, 1) := by decide +kernel
theorem dX11_placeOf_13 : decode cX11_placeOf 13 = .ok (.invokevirtual 101, 3) := by decide +kernel
theorem dX11_placeOf_16 : decode cX11_placeOf 16 = .ok (.aload_n 0, 1) := by decide +kernel
theorem dX11_placeOf_17 : decode cX11_placeOf 17 = .ok (.iload_n 1, 1) := by decide +kernel
theorem dX11_placeOf_18 : decode cX11_placeOf 18 = .ok (.iconst 1, 1) := by decide +kernel
theorem dX11_placeOf_19 : decode cX11_placeOf 19 = .ok (.invokevirtual 101, 3) := by decide +kernel
theorem dX11_placeOf_22 : decode cX11_placeOf 22 = .ok (.if_icmp .ne 7, 3) := by decide +kernel
theorem dX11_placeOf_25 : decode cX11_placeOf 25 = .ok (.iconst 1, 1) := by decide +kernel
theorem dX11_placeOf_26 : decode cX11_placeOf 26 = .ok (.goto 4, 3) := by decide +kernel
theorem dX11_placeOf_29 : decode cX11_placeOf 29 = .ok (.iconst 0, 1) := by decide +kernel
theorem dX11_placeOf_30 : decode cX11_placeOf 30 = .ok (.iadd, 1) := by decide +kernel
theorem dX11_placeOf_31 : decode cX11_placeOf 31 = .ok (.istore_n 2, 1) := by decide +kernel
theorem dX11_placeOf_32 : decode cX11_placeOf 32 = .ok (.iinc 3 1, 3) := by decide +kernel
theorem dX11_placeOf_35 : decode cX11_placeOf 35 = .ok (.goto (-31), 3) := by decide +kernel
theorem dX11_placeOf_38 : decode cX11_placeOf 38 = .ok (.iload_n 2, 1) := by decide +kernel
theorem dX11_placeOf_39 : decode cX11_placeOf 39 = .ok (.ireturn, 1) := by decide +kernel
theorem dX11_flatAt_0 : decode cX11_flatAt 0 = .ok (.iconst 0, 1) := by decide +kernel
theorem dX11_flatAt_1 : decode cX11_flatAt 1 = .ok (.istore_n 3, 1) := by decide +kernel
theorem dX11_flatAt_2 : decode cX11_flatAt 2 = .ok (.iconst 0, 1) := by decide +kernel
theorem dX11_flatAt_3 : decode cX11_flatAt 3 = .ok (.istore 4, 2) := by decide +kernel
theorem dX11_flatAt_5 : decode cX11_flatAt 5 = .ok (.iload 4, 2) := by decide +kernel
theorem dX11_flatAt_7 : decode cX11_flatAt 7 = .ok (.aload_n 0, 1) := by decide +kernel
theorem dX11_flatAt_8 : decode cX11_flatAt 8 = .ok (.getfield 9, 3) := by decide +kernel
theorem dX11_flatAt_11 : decode cX11_flatAt 11 = .ok (.iconst 4, 1) := by decide +kernel
theorem dX11_flatAt_12 : decode cX11_flatAt 12 = .ok (.iaload, 1) := by decide +kernel
theorem dX11_flatAt_13 : decode cX11_flatAt 13 = .ok (.if_icmp .ge 31, 3) := by decide +kernel
theorem dX11_flatAt_16 : decode cX11_flatAt 16 = .ok (.aload_n 0, 1) := by decide +kernel
theorem dX11_flatAt_17 : decode cX11_flatAt 17 = .ok (.iload 4, 2) := by decide +kernel
theorem dX11_flatAt_19 : decode cX11_flatAt 19 = .ok (.iconst 1, 1) := by decide +kernel
theorem dX11_flatAt_20 : decode cX11_flatAt 20 = .ok (.invokevirtual 101, 3) := by decide +kernel
theorem dX11_flatAt_23 : decode cX11_flatAt 23 = .ok (.iload_n 1, 1) := by decide +kernel
theorem dX11_flatAt_24 : decode cX11_flatAt 24 = .ok (.if_icmp .ne 14, 3) := by decide +kernel
theorem dX11_flatAt_27 : decode cX11_flatAt 27 = .ok (.iload_n 3, 1) := by decide +kernel
theorem dX11_flatAt_28 : decode cX11_flatAt 28 = .ok (.iload_n 2, 1) := by decide +kernel
theorem dX11_flatAt_29 : decode cX11_flatAt 29 = .ok (.if_icmp .ne 6, 3) := by decide +kernel
theorem dX11_flatAt_32 : decode cX11_flatAt 32 = .ok (.iload 4, 2) := by decide +kernel
theorem dX11_flatAt_34 : decode cX11_flatAt 34 = .ok (.ireturn, 1) := by decide +kernel
theorem dX11_flatAt_35 : decode cX11_flatAt 35 = .ok (.iinc 3 1, 3) := by decide +kernel
theorem dX11_flatAt_38 : decode cX11_flatAt 38 = .ok (.iinc 4 1, 3) := by decide +kernel
theorem dX11_flatAt_41 : decode cX11_flatAt 41 = .ok (.goto (-36), 3) := by decide +kernel
theorem dX11_flatAt_44 : decode cX11_flatAt 44 = .ok (.iconst (-1), 1) := by decide +kernel
theorem dX11_flatAt_45 : decode cX11_flatAt 45 = .ok (.ireturn, 1) := by decide +kernel
theorem dX11_leaksBy_0 : decode cX11_leaksBy 0 = .ok (.iload_n 2, 1) := by decide +kernel
theorem dX11_leaksBy_1 : decode cX11_leaksBy 1 = .ok (.istore_n 3, 1) := by decide +kernel
theorem dX11_leaksBy_2 : decode cX11_leaksBy 2 = .ok (.aload_n 0, 1) := by decide +kernel
theorem dX11_leaksBy_3 : decode cX11_leaksBy 3 = .ok (.iload_n 1, 1) := by decide +kernel
theorem dX11_leaksBy_4 : decode cX11_leaksBy 4 = .ok (.iconst 0, 1) := by decide +kernel
theorem dX11_leaksBy_5 : decode cX11_leaksBy 5 = .ok (.invokevirtual 101, 3) := by decide +kernel
theorem dX11_leaksBy_8 : decode cX11_leaksBy 8 = .ok (.tableswitch 64 1 4 #[32, 41, 64, 52], 32) := by decide +kernel
theorem dX11_leaksBy_40 : decode cX11_leaksBy 40 = .ok (.iload_n 2, 1) := by decide +kernel
theorem dX11_leaksBy_41 : decode cX11_leaksBy 41 = .ok (.iload_n 2, 1) := by decide +kernel
theorem dX11_leaksBy_42 : decode cX11_leaksBy 42 = .ok (.iconst 2, 1) := by decide +kernel
theorem dX11_leaksBy_43 : decode cX11_leaksBy 43 = .ok (.idiv, 1) := by decide +kernel
theorem dX11_leaksBy_44 : decode cX11_leaksBy 44 = .ok (.iadd, 1) := by decide +kernel
theorem dX11_leaksBy_45 : decode cX11_leaksBy 45 = .ok (.istore_n 3, 1) := by decide +kernel
theorem dX11_leaksBy_46 : decode cX11_leaksBy 46 = .ok (.goto 26, 3) := by decide +kernel
theorem dX11_leaksBy_49 : decode cX11_leaksBy 49 = .ok (.iload_n 2, 1) := by decide +kernel
theorem dX11_leaksBy_50 : decode cX11_leaksBy 50 = .ok (.iload_n 2, 1) := by decide +kernel
theorem dX11_leaksBy_51 : decode cX11_leaksBy 51 = .ok (.iconst 3, 1) := by decide +kernel
theorem dX11_leaksBy_52 : decode cX11_leaksBy 52 = .ok (.idiv, 1) := by decide +kernel
theorem dX11_leaksBy_53 : decode cX11_leaksBy 53 = .ok (.isub, 1) := by decide +kernel
theorem dX11_leaksBy_54 : decode cX11_leaksBy 54 = .ok (.iconst 1, 1) := by decide +kernel
theorem dX11_leaksBy_55 : decode cX11_leaksBy 55 = .ok (.iadd, 1) := by decide +kernel
theorem dX11_leaksBy_56 : decode cX11_leaksBy 56 = .ok (.istore_n 3, 1) := by decide +kernel
theorem dX11_leaksBy_57 : decode cX11_leaksBy 57 = .ok (.goto 15, 3) := by decide +kernel
theorem dX11_leaksBy_60 : decode cX11_leaksBy 60 = .ok (.iload_n 2, 1) := by decide +kernel
theorem dX11_leaksBy_61 : decode cX11_leaksBy 61 = .ok (.iload_n 2, 1) := by decide +kernel
theorem dX11_leaksBy_62 : decode cX11_leaksBy 62 = .ok (.iconst 2, 1) := by decide +kernel
theorem dX11_leaksBy_63 : decode cX11_leaksBy 63 = .ok (.idiv, 1) := by decide +kernel
theorem dX11_leaksBy_64 : decode cX11_leaksBy 64 = .ok (.iadd, 1) := by decide +kernel
theorem dX11_leaksBy_65 : decode cX11_leaksBy 65 = .ok (.bipush 20, 2) := by decide +kernel
theorem dX11_leaksBy_67 : decode cX11_leaksBy 67 = .ok (.iadd, 1) := by decide +kernel
theorem dX11_leaksBy_68 : decode cX11_leaksBy 68 = .ok (.istore_n 3, 1) := by decide +kernel
theorem dX11_leaksBy_69 : decode cX11_leaksBy 69 = .ok (.goto 3, 3) := by decide +kernel
theorem dX11_leaksBy_72 : decode cX11_leaksBy 72 = .ok (.iload_n 3, 1) := by decide +kernel
theorem dX11_leaksBy_73 : decode cX11_leaksBy 73 = .ok (.bipush 100, 2) := by decide +kernel
theorem dX11_leaksBy_75 : decode cX11_leaksBy 75 = .ok (.aload_n 0, 1) := by decide +kernel
theorem dX11_leaksBy_76 : decode cX11_leaksBy 76 = .ok (.iload_n 1, 1) := by decide +kernel
theorem dX11_leaksBy_77 : decode cX11_leaksBy 77 = .ok (.iconst 5, 1) := by decide +kernel
theorem dX11_leaksBy_78 : decode cX11_leaksBy 78 = .ok (.invokevirtual 101, 3) := by decide +kernel
theorem dX11_leaksBy_81 : decode cX11_leaksBy 81 = .ok (.imul, 1) := by decide +kernel
theorem dX11_leaksBy_82 : decode cX11_leaksBy 82 = .ok (.iadd, 1) := by decide +kernel
theorem dX11_leaksBy_83 : decode cX11_leaksBy 83 = .ok (.ireturn, 1) := by decide +kernel
theorem dX11_takesBy_0 : decode cX11_takesBy 0 = .ok (.aload_n 0, 1) := by decide +kernel
theorem dX11_takesBy_1 : decode cX11_takesBy 1 = .ok (.iload_n 1, 1) := by decide +kernel
theorem dX11_takesBy_2 : decode cX11_takesBy 2 = .ok (.iconst 0, 1) := by decide +kernel
theorem dX11_takesBy_3 : decode cX11_takesBy 3 = .ok (.invokevirtual 101, 3) := by decide +kernel
theorem dX11_takesBy_6 : decode cX11_takesBy 6 = .ok (.istore_n 3, 1) := by decide +kernel
theorem dX11_takesBy_7 : decode cX11_takesBy 7 = .ok (.iload_n 3, 1) := by decide +kernel
theorem dX11_takesBy_8 : decode cX11_takesBy 8 = .ok (.iconst 3, 1) := by decide +kernel
theorem dX11_takesBy_9 : decode cX11_takesBy 9 = .ok (.if_icmp .eq 10, 3) := by decide +kernel
theorem dX11_takesBy_12 : decode cX11_takesBy 12 = .ok (.iload_n 3, 1) := by decide +kernel
theorem dX11_takesBy_13 : decode cX11_takesBy 13 = .ok (.iconst 5, 1) := by decide +kernel
theorem dX11_takesBy_14 : decode cX11_takesBy 14 = .ok (.if_icmp .eq 5, 3) := by decide +kernel
theorem dX11_takesBy_17 : decode cX11_takesBy 17 = .ok (.iload_n 2, 1) := by decide +kernel
theorem dX11_takesBy_18 : decode cX11_takesBy 18 = .ok (.ireturn, 1) := by decide +kernel
theorem dX11_takesBy_19 : decode cX11_takesBy 19 = .ok (.iload_n 2, 1) := by decide +kernel
theorem dX11_takesBy_20 : decode cX11_takesBy 20 = .ok (.iconst 2, 1) := by decide +kernel
theorem dX11_takesBy_21 : decode cX11_takesBy 21 = .ok (.if_icmp .ge 7, 3) := by decide +kernel
theorem dX11_takesBy_24 : decode cX11_takesBy 24 = .ok (.iload_n 2, 1) := by decide +kernel
theorem dX11_takesBy_25 : decode cX11_takesBy 25 = .ok (.goto 4, 3) := by decide +kernel
theorem dX11_takesBy_28 : decode cX11_takesBy 28 = .ok (.iconst 2, 1) := by decide +kernel
theorem dX11_takesBy_29 : decode cX11_takesBy 29 = .ok (.istore 4, 2) := by decide +kernel
theorem dX11_takesBy_31 : decode cX11_takesBy 31 = .ok (.iload_n 3, 1) := by decide +kernel
theorem dX11_takesBy_32 : decode cX11_takesBy 32 = .ok (.iconst 5, 1) := by decide +kernel
theorem dX11_takesBy_33 : decode cX11_takesBy 33 = .ok (.if_icmp .ne 10, 3) := by decide +kernel
theorem dX11_takesBy_36 : decode cX11_takesBy 36 = .ok (.iload 4, 2) := by decide +kernel
theorem dX11_takesBy_38 : decode cX11_takesBy 38 = .ok (.iconst 1, 1) := by decide +kernel
theorem dX11_takesBy_39 : decode cX11_takesBy 39 = .ok (.iadd, 1) := by decide +kernel
theorem dX11_takesBy_40 : decode cX11_takesBy 40 = .ok (.goto 5, 3) := by decide +kernel
theorem dX11_takesBy_43 : decode cX11_takesBy 43 = .ok (.iload 4, 2) := by decide +kernel
theorem dX11_takesBy_45 : decode cX11_takesBy 45 = .ok (.ireturn, 1) := by decide +kernel
theorem dX11_setsAside_0 : decode cX11_setsAside 0 = .ok (.iconst 0, 1) := by decide +kernel
theorem dX11_setsAside_1 : decode cX11_setsAside 1 = .ok (.istore_n 1, 1) := by decide +kernel
theorem dX11_setsAside_2 : decode cX11_setsAside 2 = .ok (.iload_n 1, 1) := by decide +kernel
theorem dX11_setsAside_3 : decode cX11_setsAside 3 = .ok (.aload_n 0, 1) := by decide +kernel
theorem dX11_setsAside_4 : decode cX11_setsAside 4 = .ok (.getfield 9, 3) := by decide +kernel
theorem dX11_setsAside_7 : decode cX11_setsAside 7 = .ok (.iconst 4, 1) := by decide +kernel
theorem dX11_setsAside_8 : decode cX11_setsAside 8 = .ok (.iaload, 1) := by decide +kernel
theorem dX11_setsAside_9 : decode cX11_setsAside 9 = .ok (.if_icmp .ge 169, 3) := by decide +kernel
theorem dX11_setsAside_12 : decode cX11_setsAside 12 = .ok (.aload_n 0, 1) := by decide +kernel
theorem dX11_setsAside_13 : decode cX11_setsAside 13 = .ok (.iload_n 1, 1) := by decide +kernel
theorem dX11_setsAside_14 : decode cX11_setsAside 14 = .ok (.invokevirtual 114, 3) := by decide +kernel
theorem dX11_setsAside_17 : decode cX11_setsAside 17 = .ok (.istore_n 2, 1) := by decide +kernel
theorem dX11_setsAside_18 : decode cX11_setsAside 18 = .ok (.aload_n 0, 1) := by decide +kernel
theorem dX11_setsAside_19 : decode cX11_setsAside 19 = .ok (.iload_n 1, 1) := by decide +kernel
theorem dX11_setsAside_20 : decode cX11_setsAside 20 = .ok (.iconst 1, 1) := by decide +kernel
theorem dX11_setsAside_21 : decode cX11_setsAside 21 = .ok (.invokevirtual 101, 3) := by decide +kernel
theorem dX11_setsAside_24 : decode cX11_setsAside 24 = .ok (.istore_n 3, 1) := by decide +kernel
theorem dX11_setsAside_25 : decode cX11_setsAside 25 = .ok (.aload_n 0, 1) := by decide +kernel
theorem dX11_setsAside_26 : decode cX11_setsAside 26 = .ok (.getfield 19, 3) := by decide +kernel
theorem dX11_setsAside_29 : decode cX11_setsAside 29 = .ok (.iload_n 1, 1) := by decide +kernel
theorem dX11_setsAside_30 : decode cX11_setsAside 30 = .ok (.aload_n 0, 1) := by decide +kernel
theorem dX11_setsAside_31 : decode cX11_setsAside 31 = .ok (.iload_n 3, 1) := by decide +kernel
theorem dX11_setsAside_32 : decode cX11_setsAside 32 = .ok (.iload_n 2, 1) := by decide +kernel
theorem dX11_setsAside_33 : decode cX11_setsAside 33 = .ok (.iconst 1, 1) := by decide +kernel
theorem dX11_setsAside_34 : decode cX11_setsAside 34 = .ok (.iadd, 1) := by decide +kernel
theorem dX11_setsAside_35 : decode cX11_setsAside 35 = .ok (.invokevirtual 117, 3) := by decide +kernel
theorem dX11_setsAside_38 : decode cX11_setsAside 38 = .ok (.iastore, 1) := by decide +kernel
theorem dX11_setsAside_39 : decode cX11_setsAside 39 = .ok (.aload_n 0, 1) := by decide +kernel
theorem dX11_setsAside_40 : decode cX11_setsAside 40 = .ok (.getfield 22, 3) := by decide +kernel
theorem dX11_setsAside_43 : decode cX11_setsAside 43 = .ok (.iload_n 1, 1) := by decide +kernel
theorem dX11_setsAside_44 : decode cX11_setsAside 44 = .ok (.iload_n 2, 1) := by decide +kernel
theorem dX11_setsAside_45 : decode cX11_setsAside 45 = .ok (.ifCond .ne 7, 3) := by decide +kernel
theorem dX11_setsAside_48 : decode cX11_setsAside 48 = .ok (.iconst (-1), 1) := by decide +kernel
theorem dX11_setsAside_49 : decode cX11_setsAside 49 = .ok (.goto 11, 3) := by decide +kernel
theorem dX11_setsAside_52 : decode cX11_setsAside 52 = .ok (.aload_n 0, 1) := by decide +kernel
theorem dX11_setsAside_53 : decode cX11_setsAside 53 = .ok (.iload_n 3, 1) := by decide +kernel
theorem dX11_setsAside_54 : decode cX11_setsAside 54 = .ok (.iload_n 2, 1) := by decide +kernel
theorem dX11_setsAside_55 : decode cX11_setsAside 55 = .ok (.iconst 1, 1) := by decide +kernel
theorem dX11_setsAside_56 : decode cX11_setsAside 56 = .ok (.isub, 1) := by decide +kernel
theorem dX11_setsAside_57 : decode cX11_setsAside 57 = .ok (.invokevirtual 117, 3) := by decide +kernel
theorem dX11_setsAside_60 : decode cX11_setsAside 60 = .ok (.iastore, 1) := by decide +kernel
theorem dX11_setsAside_61 : decode cX11_setsAside 61 = .ok (.aload_n 0, 1) := by decide +kernel
theorem dX11_setsAside_62 : decode cX11_setsAside 62 = .ok (.getfield 25, 3) := by decide +kernel
theorem dX11_setsAside_65 : decode cX11_setsAside 65 = .ok (.iload_n 1, 1) := by decide +kernel
theorem dX11_setsAside_66 : decode cX11_setsAside 66 = .ok (.aload_n 0, 1) := by decide +kernel
theorem dX11_setsAside_67 : decode cX11_setsAside 67 = .ok (.iload_n 3, 1) := by decide +kernel
theorem dX11_setsAside_68 : decode cX11_setsAside 68 = .ok (.iconst 1, 1) := by decide +kernel
theorem dX11_setsAside_69 : decode cX11_setsAside 69 = .ok (.isub, 1) := by decide +kernel
theorem dX11_setsAside_70 : decode cX11_setsAside 70 = .ok (.iload_n 2, 1) := by decide +kernel
theorem dX11_setsAside_71 : decode cX11_setsAside 71 = .ok (.invokevirtual 117, 3) := by decide +kernel
theorem dX11_setsAside_74 : decode cX11_setsAside 74 = .ok (.iastore, 1) := by decide +kernel
theorem dX11_setsAside_75 : decode cX11_setsAside 75 = .ok (.aload_n 0, 1) := by decide +kernel
theorem dX11_setsAside_76 : decode cX11_setsAside 76 = .ok (.getfield 28, 3) := by decide +kernel
theorem dX11_setsAside_79 : decode cX11_setsAside 79 = .ok (.iload_n 1, 1) := by decide +kernel
theorem dX11_setsAside_80 : decode cX11_setsAside 80 = .ok (.aload_n 0, 1) := by decide +kernel
theorem dX11_setsAside_81 : decode cX11_setsAside 81 = .ok (.iload_n 3, 1) := by decide +kernel
theorem dX11_setsAside_82 : decode cX11_setsAside 82 = .ok (.iconst 1, 1) := by decide +kernel
theorem dX11_setsAside_83 : decode cX11_setsAside 83 = .ok (.iadd, 1) := by decide +kernel
theorem dX11_setsAside_84 : decode cX11_setsAside 84 = .ok (.iload_n 2, 1) := by decide +kernel
theorem dX11_setsAside_85 : decode cX11_setsAside 85 = .ok (.invokevirtual 117, 3) := by decide +kernel
theorem dX11_setsAside_88 : decode cX11_setsAside 88 = .ok (.iastore, 1) := by decide +kernel
theorem dX11_setsAside_89 : decode cX11_setsAside 89 = .ok (.aload_n 0, 1) := by decide +kernel
theorem dX11_setsAside_90 : decode cX11_setsAside 90 = .ok (.getfield 31, 3) := by decide +kernel
theorem dX11_setsAside_93 : decode cX11_setsAside 93 = .ok (.iload_n 1, 1) := by decide +kernel
theorem dX11_setsAside_94 : decode cX11_setsAside 94 = .ok (.iconst 0, 1) := by decide +kernel
theorem dX11_setsAside_95 : decode cX11_setsAside 95 = .ok (.iastore, 1) := by decide +kernel
theorem dX11_setsAside_96 : decode cX11_setsAside 96 = .ok (.iload_n 1, 1) := by decide +kernel
theorem dX11_setsAside_97 : decode cX11_setsAside 97 = .ok (.iconst 1, 1) := by decide +kernel
theorem dX11_setsAside_98 : decode cX11_setsAside 98 = .ok (.iadd, 1) := by decide +kernel
theorem dX11_setsAside_99 : decode cX11_setsAside 99 = .ok (.istore 4, 2) := by decide +kernel
theorem dX11_setsAside_101 : decode cX11_setsAside 101 = .ok (.iload 4, 2) := by decide +kernel
theorem dX11_setsAside_103 : decode cX11_setsAside 103 = .ok (.aload_n 0, 1) := by decide +kernel
theorem dX11_setsAside_104 : decode cX11_setsAside 104 = .ok (.getfield 9, 3) := by decide +kernel
theorem dX11_setsAside_107 : decode cX11_setsAside 107 = .ok (.iconst 4, 1) := by decide +kernel
theorem dX11_setsAside_108 : decode cX11_setsAside 108 = .ok (.iaload, 1) := by decide +kernel
theorem dX11_setsAside_109 : decode cX11_setsAside 109 = .ok (.if_icmp .ge 34, 3) := by decide +kernel
theorem dX11_setsAside_112 : decode cX11_setsAside 112 = .ok (.aload_n 0, 1) := by decide +kernel
theorem dX11_setsAside_113 : decode cX11_setsAside 113 = .ok (.getfield 31, 3) := by decide +kernel
theorem dX11_setsAside_116 : decode cX11_setsAside 116 = .ok (.iload_n 1, 1) := by decide +kernel
theorem dX11_setsAside_117 : decode cX11_setsAside 117 = .ok (.dup2, 1) := by decide +kernel
theorem dX11_setsAside_118 : decode cX11_setsAside 118 = .ok (.iaload, 1) := by decide +kernel
theorem dX11_setsAside_119 : decode cX11_setsAside 119 = .ok (.aload_n 0, 1) := by decide +kernel
theorem dX11_setsAside_120 : decode cX11_setsAside 120 = .ok (.iload 4, 2) := by decide +kernel
theorem dX11_setsAside_122 : decode cX11_setsAside 122 = .ok (.iconst 1, 1) := by decide +kernel
theorem dX11_setsAside_123 : decode cX11_setsAside 123 = .ok (.invokevirtual 101, 3) := by decide +kernel
theorem dX11_setsAside_126 : decode cX11_setsAside 126 = .ok (.iload_n 3, 1) := by decide +kernel
theorem dX11_setsAside_127 : decode cX11_setsAside 127 = .ok (.if_icmp .ne 7, 3) := by decide +kernel
theorem dX11_setsAside_130 : decode cX11_setsAside 130 = .ok (.iconst 1, 1) := by decide +kernel
theorem dX11_setsAside_131 : decode cX11_setsAside 131 = .ok (.goto 4, 3) := by decide +kernel
theorem dX11_setsAside_134 : decode cX11_setsAside 134 = .ok (.iconst 0, 1) := by decide +kernel
theorem dX11_setsAside_135 : decode cX11_setsAside 135 = .ok (.iadd, 1) := by decide +kernel
theorem dX11_setsAside_136 : decode cX11_setsAside 136 = .ok (.iastore, 1) := by decide +kernel
theorem dX11_setsAside_137 : decode cX11_setsAside 137 = .ok (.iinc 4 1, 3) := by decide +kernel
theorem dX11_setsAside_140 : decode cX11_setsAside 140 = .ok (.goto (-39), 3) := by decide +kernel
theorem dX11_setsAside_143 : decode cX11_setsAside 143 = .ok (.aload_n 0, 1) := by decide +kernel
theorem dX11_setsAside_144 : decode cX11_setsAside 144 = .ok (.getfield 34, 3) := by decide +kernel
theorem dX11_setsAside_147 : decode cX11_setsAside 147 = .ok (.iload_n 1, 1) := by decide +kernel
theorem dX11_setsAside_148 : decode cX11_setsAside 148 = .ok (.aload_n 0, 1) := by decide +kernel
theorem dX11_setsAside_149 : decode cX11_setsAside 149 = .ok (.iload_n 1, 1) := by decide +kernel
theorem dX11_setsAside_150 : decode cX11_setsAside 150 = .ok (.iconst 3, 1) := by decide +kernel
theorem dX11_setsAside_151 : decode cX11_setsAside 151 = .ok (.invokevirtual 101, 3) := by decide +kernel
theorem dX11_setsAside_154 : decode cX11_setsAside 154 = .ok (.iastore, 1) := by decide +kernel
theorem dX11_setsAside_155 : decode cX11_setsAside 155 = .ok (.aload_n 0, 1) := by decide +kernel
theorem dX11_setsAside_156 : decode cX11_setsAside 156 = .ok (.getfield 40, 3) := by decide +kernel
theorem dX11_setsAside_159 : decode cX11_setsAside 159 = .ok (.iload_n 1, 1) := by decide +kernel
theorem dX11_setsAside_160 : decode cX11_setsAside 160 = .ok (.aload_n 0, 1) := by decide +kernel
theorem dX11_setsAside_161 : decode cX11_setsAside 161 = .ok (.iload_n 1, 1) := by decide +kernel
theorem dX11_setsAside_162 : decode cX11_setsAside 162 = .ok (.aload_n 0, 1) := by decide +kernel
theorem dX11_setsAside_163 : decode cX11_setsAside 163 = .ok (.iload_n 1, 1) := by decide +kernel
theorem dX11_setsAside_164 : decode cX11_setsAside 164 = .ok (.iconst 2, 1) := by decide +kernel
theorem dX11_setsAside_165 : decode cX11_setsAside 165 = .ok (.invokevirtual 101, 3) := by decide +kernel
theorem dX11_setsAside_168 : decode cX11_setsAside 168 = .ok (.invokevirtual 120, 3) := by decide +kernel
theorem dX11_setsAside_171 : decode cX11_setsAside 171 = .ok (.iastore, 1) := by decide +kernel
theorem dX11_setsAside_172 : decode cX11_setsAside 172 = .ok (.iinc 1 1, 3) := by decide +kernel
theorem dX11_setsAside_175 : decode cX11_setsAside 175 = .ok (.goto (-173), 3) := by decide +kernel
theorem dX11_setsAside_178 : decode cX11_setsAside 178 = .ok (.aload_n 0, 1) := by decide +kernel
theorem dX11_setsAside_179 : decode cX11_setsAside 179 = .ok (.invokevirtual 123, 3) := by decide +kernel
theorem dX11_setsAside_182 : decode cX11_setsAside 182 = .ok (.aload_n 0, 1) := by decide +kernel
theorem dX11_setsAside_183 : decode cX11_setsAside 183 = .ok (.invokevirtual 126, 3) := by decide +kernel
theorem dX11_setsAside_186 : decode cX11_setsAside 186 = .ok (.return_, 1) := by decide +kernel
theorem dX11_startsWarm_0 : decode cX11_startsWarm 0 = .ok (.iconst 0, 1) := by decide +kernel
theorem dX11_startsWarm_1 : decode cX11_startsWarm 1 = .ok (.istore_n 1, 1) := by decide +kernel
theorem dX11_startsWarm_2 : decode cX11_startsWarm 2 = .ok (.iload_n 1, 1) := by decide +kernel
theorem dX11_startsWarm_3 : decode cX11_startsWarm 3 = .ok (.aload_n 0, 1) := by decide +kernel
theorem dX11_startsWarm_4 : decode cX11_startsWarm 4 = .ok (.getfield 9, 3) := by decide +kernel
theorem dX11_startsWarm_7 : decode cX11_startsWarm 7 = .ok (.iconst 4, 1) := by decide +kernel
theorem dX11_startsWarm_8 : decode cX11_startsWarm 8 = .ok (.iaload, 1) := by decide +kernel
theorem dX11_startsWarm_9 : decode cX11_startsWarm 9 = .ok (.if_icmp .ge 22, 3) := by decide +kernel
theorem dX11_startsWarm_12 : decode cX11_startsWarm 12 = .ok (.aload_n 0, 1) := by decide +kernel
theorem dX11_startsWarm_13 : decode cX11_startsWarm 13 = .ok (.getfield 43, 3) := by decide +kernel
theorem dX11_startsWarm_16 : decode cX11_startsWarm 16 = .ok (.iload_n 1, 1) := by decide +kernel
theorem dX11_startsWarm_17 : decode cX11_startsWarm 17 = .ok (.aload_n 0, 1) := by decide +kernel
theorem dX11_startsWarm_18 : decode cX11_startsWarm 18 = .ok (.iload_n 1, 1) := by decide +kernel
theorem dX11_startsWarm_19 : decode cX11_startsWarm 19 = .ok (.bipush 6, 2) := by decide +kernel
theorem dX11_startsWarm_21 : decode cX11_startsWarm 21 = .ok (.invokevirtual 101, 3) := by decide +kernel
theorem dX11_startsWarm_24 : decode cX11_startsWarm 24 = .ok (.iastore, 1) := by decide +kernel
theorem dX11_startsWarm_25 : decode cX11_startsWarm 25 = .ok (.iinc 1 1, 3) := by decide +kernel
theorem dX11_startsWarm_28 : decode cX11_startsWarm 28 = .ok (.goto (-26), 3) := by decide +kernel
theorem dX11_startsWarm_31 : decode cX11_startsWarm 31 = .ok (.return_, 1) := by decide +kernel
theorem dX11_weight_0 : decode cX11_weight 0 = .ok (.bipush 10, 2) := by decide +kernel
theorem dX11_weight_2 : decode cX11_weight 2 = .ok (.aload_n 0, 1) := by decide +kernel
theorem dX11_weight_3 : decode cX11_weight 3 = .ok (.iload_n 1, 1) := by decide +kernel
theorem dX11_weight_4 : decode cX11_weight 4 = .ok (.aload_n 0, 1) := by decide +kernel
theorem dX11_weight_5 : decode cX11_weight 5 = .ok (.getfield 34, 3) := by decide +kernel
theorem dX11_weight_8 : decode cX11_weight 8 = .ok (.iload_n 1, 1) := by decide +kernel
theorem dX11_weight_9 : decode cX11_weight 9 = .ok (.iaload, 1) := by decide +kernel
theorem dX11_weight_10 : decode cX11_weight 10 = .ok (.invokevirtual 129, 3) := by decide +kernel
theorem dX11_weight_13 : decode cX11_weight 13 = .ok (.imul, 1) := by decide +kernel
theorem dX11_weight_14 : decode cX11_weight 14 = .ok (.iconst 2, 1) := by decide +kernel
theorem dX11_weight_15 : decode cX11_weight 15 = .ok (.aload_n 0, 1) := by decide +kernel
theorem dX11_weight_16 : decode cX11_weight 16 = .ok (.getfield 31, 3) := by decide +kernel
theorem dX11_weight_19 : decode cX11_weight 19 = .ok (.iload_n 1, 1) := by decide +kernel
theorem dX11_weight_20 : decode cX11_weight 20 = .ok (.iaload, 1) := by decide +kernel
theorem dX11_weight_21 : decode cX11_weight 21 = .ok (.imul, 1) := by decide +kernel
theorem dX11_weight_22 : decode cX11_weight 22 = .ok (.isub, 1) := by decide +kernel
theorem dX11_weight_23 : decode cX11_weight 23 = .ok (.istore_n 2, 1) := by decide +kernel
theorem dX11_weight_24 : decode cX11_weight 24 = .ok (.iload_n 2, 1) := by decide +kernel
theorem dX11_weight_25 : decode cX11_weight 25 = .ok (.ifCond .ge 7, 3) := by decide +kernel
theorem dX11_weight_28 : decode cX11_weight 28 = .ok (.iconst 0, 1) := by decide +kernel
theorem dX11_weight_29 : decode cX11_weight 29 = .ok (.goto 4, 3) := by decide +kernel
theorem dX11_weight_32 : decode cX11_weight 32 = .ok (.iload_n 2, 1) := by decide +kernel
theorem dX11_weight_33 : decode cX11_weight 33 = .ok (.ireturn, 1) := by decide +kernel
theorem dX11_findFlows_0 : decode cX11_findFlows 0 = .ok (.iconst 0, 1) := by decide +kernel
theorem dX11_findFlows_1 : decode cX11_findFlows 1 = .ok (.istore_n 1, 1) := by decide +kernel
theorem dX11_findFlows_2 : decode cX11_findFlows 2 = .ok (.iconst 0, 1) := by decide +kernel
theorem dX11_findFlows_3 : decode cX11_findFlows 3 = .ok (.istore_n 2, 1) := by decide +kernel
theorem dX11_findFlows_4 : decode cX11_findFlows 4 = .ok (.iload_n 2, 1) := by decide +kernel
theorem dX11_findFlows_5 : decode cX11_findFlows 5 = .ok (.aload_n 0, 1) := by decide +kernel
theorem dX11_findFlows_6 : decode cX11_findFlows 6 = .ok (.getfield 9, 3) := by decide +kernel
theorem dX11_findFlows_9 : decode cX11_findFlows 9 = .ok (.iconst 4, 1) := by decide +kernel
theorem dX11_findFlows_10 : decode cX11_findFlows 10 = .ok (.iaload, 1) := by decide +kernel
theorem dX11_findFlows_11 : decode cX11_findFlows 11 = .ok (.if_icmp .ge 29, 3) := by decide +kernel
theorem dX11_findFlows_14 : decode cX11_findFlows 14 = .ok (.aload_n 0, 1) := by decide +kernel
theorem dX11_findFlows_15 : decode cX11_findFlows 15 = .ok (.getfield 37, 3) := by decide +kernel
theorem dX11_findFlows_18 : decode cX11_findFlows 18 = .ok (.iload_n 2, 1) := by decide +kernel
theorem dX11_findFlows_19 : decode cX11_findFlows 19 = .ok (.aload_n 0, 1) := by decide +kernel
theorem dX11_findFlows_20 : decode cX11_findFlows 20 = .ok (.iload_n 2, 1) := by decide +kernel
theorem dX11_findFlows_21 : decode cX11_findFlows 21 = .ok (.invokevirtual 132, 3) := by decide +kernel
theorem dX11_findFlows_24 : decode cX11_findFlows 24 = .ok (.iastore, 1) := by decide +kernel
theorem dX11_findFlows_25 : decode cX11_findFlows 25 = .ok (.iload_n 1, 1) := by decide +kernel
theorem dX11_findFlows_26 : decode cX11_findFlows 26 = .ok (.aload_n 0, 1) := by decide +kernel
theorem dX11_findFlows_27 : decode cX11_findFlows 27 = .ok (.getfield 37, 3) := by decide +kernel
theorem dX11_findFlows_30 : decode cX11_findFlows 30 = .ok (.iload_n 2, 1) := by decide +kernel
theorem dX11_findFlows_31 : decode cX11_findFlows 31 = .ok (.iaload, 1) := by decide +kernel
theorem dX11_findFlows_32 : decode cX11_findFlows 32 = .ok (.iadd, 1) := by decide +kernel
theorem dX11_findFlows_33 : decode cX11_findFlows 33 = .ok (.istore_n 1, 1) := by decide +kernel
theorem dX11_findFlows_34 : decode cX11_findFlows 34 = .ok (.iinc 2 1, 3) := by decide +kernel
theorem dX11_findFlows_37 : decode cX11_findFlows 37 = .ok (.goto (-33), 3) := by decide +kernel
theorem dX11_findFlows_40 : decode cX11_findFlows 40 = .ok (.iconst 0, 1) := by decide +kernel
theorem dX11_findFlows_41 : decode cX11_findFlows 41 = .ok (.istore_n 2, 1) := by decide +kernel
theorem dX11_findFlows_42 : decode cX11_findFlows 42 = .ok (.iload_n 2, 1) := by decide +kernel
theorem dX11_findFlows_43 : decode cX11_findFlows 43 = .ok (.aload_n 0, 1) := by decide +kernel
theorem dX11_findFlows_44 : decode cX11_findFlows 44 = .ok (.getfield 9, 3) := by decide +kernel
theorem dX11_findFlows_47 : decode cX11_findFlows 47 = .ok (.iconst 4, 1) := by decide +kernel
theorem dX11_findFlows_48 : decode cX11_findFlows 48 = .ok (.iaload, 1) := by decide +kernel
theorem dX11_findFlows_49 : decode cX11_findFlows 49 = .ok (.if_icmp .ge 38, 3) := by decide +kernel
theorem dX11_findFlows_52 : decode cX11_findFlows 52 = .ok (.aload_n 0, 1) := by decide +kernel
theorem dX11_findFlows_53 : decode cX11_findFlows 53 = .ok (.getfield 37, 3) := by decide +kernel
theorem dX11_findFlows_56 : decode cX11_findFlows 56 = .ok (.iload_n 2, 1) := by decide +kernel
theorem dX11_findFlows_57 : decode cX11_findFlows 57 = .ok (.iload_n 1, 1) := by decide +kernel
theorem dX11_findFlows_58 : decode cX11_findFlows 58 = .ok (.ifCond .ne 7, 3) := by decide +kernel
theorem dX11_findFlows_61 : decode cX11_findFlows 61 = .ok (.iconst 0, 1) := by decide +kernel
theorem dX11_findFlows_62 : decode cX11_findFlows 62 = .ok (.goto 18, 3) := by decide +kernel
theorem dX11_findFlows_65 : decode cX11_findFlows 65 = .ok (.aload_n 0, 1) := by decide +kernel
theorem dX11_findFlows_66 : decode cX11_findFlows 66 = .ok (.getfield 9, 3) := by decide +kernel
theorem dX11_findFlows_69 : decode cX11_findFlows 69 = .ok (.iconst 2, 1) := by decide +kernel
theorem dX11_findFlows_70 : decode cX11_findFlows 70 = .ok (.iaload, 1) := by decide +kernel
theorem dX11_findFlows_71 : decode cX11_findFlows 71 = .ok (.aload_n 0, 1) := by decide +kernel
theorem dX11_findFlows_72 : decode cX11_findFlows 72 = .ok (.getfield 37, 3) := by decide +kernel
theorem dX11_findFlows_75 : decode cX11_findFlows 75 = .ok (.iload_n 2, 1) := by decide +kernel
theorem dX11_findFlows_76 : decode cX11_findFlows 76 = .ok (.iaload, 1) := by decide +kernel
theorem dX11_findFlows_77 : decode cX11_findFlows 77 = .ok (.imul, 1) := by decide +kernel
theorem dX11_findFlows_78 : decode cX11_findFlows 78 = .ok (.iload_n 1, 1) := by decide +kernel
theorem dX11_findFlows_79 : decode cX11_findFlows 79 = .ok (.idiv, 1) := by decide +kernel
theorem dX11_findFlows_80 : decode cX11_findFlows 80 = .ok (.iastore, 1) := by decide +kernel
theorem dX11_findFlows_81 : decode cX11_findFlows 81 = .ok (.iinc 2 1, 3) := by decide +kernel
theorem dX11_findFlows_84 : decode cX11_findFlows 84 = .ok (.goto (-42), 3) := by decide +kernel
theorem dX11_findFlows_87 : decode cX11_findFlows 87 = .ok (.return_, 1) := by decide +kernel
theorem dX11_from_0 : decode cX11_from 0 = .ok (.iload_n 2, 1) := by decide +kernel
theorem dX11_from_1 : decode cX11_from 1 = .ok (.ifCond .ge 7, 3) := by decide +kernel
theorem dX11_from_4 : decode cX11_from 4 = .ok (.iconst 0, 1) := by decide +kernel
theorem dX11_from_5 : decode cX11_from 5 = .ok (.goto 19, 3) := by decide +kernel
theorem dX11_from_8 : decode cX11_from 8 = .ok (.aload_n 0, 1) := by decide +kernel
theorem dX11_from_9 : decode cX11_from 9 = .ok (.getfield 43, 3) := by decide +kernel
theorem dX11_from_12 : decode cX11_from 12 = .ok (.iload_n 2, 1) := by decide +kernel
theorem dX11_from_13 : decode cX11_from 13 = .ok (.iaload, 1) := by decide +kernel
theorem dX11_from_14 : decode cX11_from 14 = .ok (.aload_n 0, 1) := by decide +kernel
theorem dX11_from_15 : decode cX11_from 15 = .ok (.getfield 43, 3) := by decide +kernel
theorem dX11_from_18 : decode cX11_from 18 = .ok (.iload_n 1, 1) := by decide +kernel
theorem dX11_from_19 : decode cX11_from 19 = .ok (.iaload, 1) := by decide +kernel
theorem dX11_from_20 : decode cX11_from 20 = .ok (.isub, 1) := by decide +kernel
theorem dX11_from_21 : decode cX11_from 21 = .ok (.bipush 20, 2) := by decide +kernel
theorem dX11_from_23 : decode cX11_from 23 = .ok (.idiv, 1) := by decide +kernel
theorem dX11_from_24 : decode cX11_from 24 = .ok (.ireturn, 1) := by decide +kernel
theorem dX11_goes_0 : decode cX11_goes 0 = .ok (.iconst 0, 1) := by decide +kernel
theorem dX11_goes_1 : decode cX11_goes 1 = .ok (.istore_n 2, 1) := by decide +kernel
theorem dX11_goes_2 : decode cX11_goes 2 = .ok (.iconst 0, 1) := by decide +kernel
theorem dX11_goes_3 : decode cX11_goes 3 = .ok (.istore_n 3, 1) := by decide +kernel
theorem dX11_goes_4 : decode cX11_goes 4 = .ok (.iload_n 3, 1) := by decide +kernel
theorem dX11_goes_5 : decode cX11_goes 5 = .ok (.aload_n 0, 1) := by decide +kernel
theorem dX11_goes_6 : decode cX11_goes 6 = .ok (.getfield 9, 3) := by decide +kernel
theorem dX11_goes_9 : decode cX11_goes 9 = .ok (.iconst 4, 1) := by decide +kernel
theorem dX11_goes_10 : decode cX11_goes 10 = .ok (.iaload, 1) := by decide +kernel
theorem dX11_goes_11 : decode cX11_goes 11 = .ok (.if_icmp .ge 160, 3) := by decide +kernel
theorem dX11_goes_14 : decode cX11_goes 14 = .ok (.iload_n 1, 1) := by decide +kernel
theorem dX11_goes_15 : decode cX11_goes 15 = .ok (.aload_n 0, 1) := by decide +kernel
theorem dX11_goes_16 : decode cX11_goes 16 = .ok (.getfield 43, 3) := by decide +kernel
theorem dX11_goes_19 : decode cX11_goes 19 = .ok (.iload_n 3, 1) := by decide +kernel
theorem dX11_goes_20 : decode cX11_goes 20 = .ok (.iaload, 1) := by decide +kernel
theorem dX11_goes_21 : decode cX11_goes 21 = .ok (.isub, 1) := by decide +kernel
theorem dX11_goes_22 : decode cX11_goes 22 = .ok (.istore 4, 2) := by decide +kernel
theorem dX11_goes_24 : decode cX11_goes 24 = .ok (.aload_n 0, 1) := by decide +kernel
theorem dX11_goes_25 : decode cX11_goes 25 = .ok (.getfield 49, 3) := by decide +kernel
theorem dX11_goes_28 : decode cX11_goes 28 = .ok (.iload_n 3, 1) := by decide +kernel
theorem dX11_goes_29 : decode cX11_goes 29 = .ok (.iload 4, 2) := by decide +kernel
theorem dX11_goes_31 : decode cX11_goes 31 = .ok (.ifCond .gt 7, 3) := by decide +kernel
theorem dX11_goes_34 : decode cX11_goes 34 = .ok (.iconst 0, 1) := by decide +kernel
theorem dX11_goes_35 : decode cX11_goes 35 = .ok (.goto 16, 3) := by decide +kernel
theorem dX11_goes_38 : decode cX11_goes 38 = .ok (.aload_n 0, 1) := by decide +kernel
theorem dX11_goes_39 : decode cX11_goes 39 = .ok (.getfield 37, 3) := by decide +kernel
theorem dX11_goes_42 : decode cX11_goes 42 = .ok (.iload_n 3, 1) := by decide +kernel
theorem dX11_goes_43 : decode cX11_goes 43 = .ok (.iaload, 1) := by decide +kernel
theorem dX11_goes_44 : decode cX11_goes 44 = .ok (.iload 4, 2) := by decide +kernel
theorem dX11_goes_46 : decode cX11_goes 46 = .ok (.imul, 1) := by decide +kernel
theorem dX11_goes_47 : decode cX11_goes 47 = .ok (.sipush 1000, 3) := by decide +kernel
theorem dX11_goes_50 : decode cX11_goes 50 = .ok (.idiv, 1) := by decide +kernel
theorem dX11_goes_51 : decode cX11_goes 51 = .ok (.iastore, 1) := by decide +kernel
theorem dX11_goes_52 : decode cX11_goes 52 = .ok (.aload_n 0, 1) := by decide +kernel
theorem dX11_goes_53 : decode cX11_goes 53 = .ok (.getfield 52, 3) := by decide +kernel
theorem dX11_goes_56 : decode cX11_goes 56 = .ok (.iload_n 3, 1) := by decide +kernel
theorem dX11_goes_57 : decode cX11_goes 57 = .ok (.aload_n 0, 1) := by decide +kernel
theorem dX11_goes_58 : decode cX11_goes 58 = .ok (.iload_n 3, 1) := by decide +kernel
theorem dX11_goes_59 : decode cX11_goes 59 = .ok (.aload_n 0, 1) := by decide +kernel
theorem dX11_goes_60 : decode cX11_goes 60 = .ok (.getfield 19, 3) := by decide +kernel
theorem dX11_goes_63 : decode cX11_goes 63 = .ok (.iload_n 3, 1) := by decide +kernel
theorem dX11_goes_64 : decode cX11_goes 64 = .ok (.iaload, 1) := by decide +kernel
theorem dX11_goes_65 : decode cX11_goes 65 = .ok (.invokevirtual 135, 3) := by decide +kernel
theorem dX11_goes_68 : decode cX11_goes 68 = .ok (.aload_n 0, 1) := by decide +kernel
theorem dX11_goes_69 : decode cX11_goes 69 = .ok (.iload_n 3, 1) := by decide +kernel
theorem dX11_goes_70 : decode cX11_goes 70 = .ok (.aload_n 0, 1) := by decide +kernel
theorem dX11_goes_71 : decode cX11_goes 71 = .ok (.getfield 22, 3) := by decide +kernel
theorem dX11_goes_74 : decode cX11_goes 74 = .ok (.iload_n 3, 1) := by decide +kernel
theorem dX11_goes_75 : decode cX11_goes 75 = .ok (.iaload, 1) := by decide +kernel
theorem dX11_goes_76 : decode cX11_goes 76 = .ok (.invokevirtual 135, 3) := by decide +kernel
theorem dX11_goes_79 : decode cX11_goes 79 = .ok (.iadd, 1) := by decide +kernel
theorem dX11_goes_80 : decode cX11_goes 80 = .ok (.aload_n 0, 1) := by decide +kernel
theorem dX11_goes_81 : decode cX11_goes 81 = .ok (.iload_n 3, 1) := by decide +kernel
theorem dX11_goes_82 : decode cX11_goes 82 = .ok (.aload_n 0, 1) := by decide +kernel
theorem dX11_goes_83 : decode cX11_goes 83 = .ok (.getfield 25, 3) := by decide +kernel
theorem dX11_goes_86 : decode cX11_goes 86 = .ok (.iload_n 3, 1) := by decide +kernel
theorem dX11_goes_87 : decode cX11_goes 87 = .ok (.iaload, 1) := by decide +kernel
