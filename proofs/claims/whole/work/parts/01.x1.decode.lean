theorem dX5_check_16 : decode cX5_check 16 = .ok (.aload_n 0, 1) := by decide +kernel
theorem dX5_check_17 : decode cX5_check 17 = .ok (.getfield 19, 3) := by decide +kernel
theorem dX5_check_20 : decode cX5_check 20 = .ok (.aload_n 0, 1) := by decide +kernel
theorem dX5_check_21 : decode cX5_check 21 = .ok (.getfield 15, 3) := by decide +kernel
theorem dX5_check_24 : decode cX5_check 24 = .ok (.getfield 30, 3) := by decide +kernel
theorem dX5_check_27 : decode cX5_check 27 = .ok (.if_icmp .ge 7, 3) := by decide +kernel
theorem dX5_check_30 : decode cX5_check 30 = .ok (.aload_n 0, 1) := by decide +kernel
theorem dX5_check_31 : decode cX5_check 31 = .ok (.invokevirtual 35, 3) := by decide +kernel
theorem dX5_check_34 : decode cX5_check 34 = .ok (.aload_n 0, 1) := by decide +kernel
theorem dX5_check_35 : decode cX5_check 35 = .ok (.getfield 23, 3) := by decide +kernel
theorem dX5_check_38 : decode cX5_check 38 = .ok (.ireturn, 1) := by decide +kernel
theorem dX5_value_0 : decode cX5_value 0 = .ok (.aload_n 1, 1) := by decide +kernel
theorem dX5_value_1 : decode cX5_value 1 = .ok (.getfield 38, 3) := by decide +kernel
theorem dX5_value_4 : decode cX5_value 4 = .ok (.iload_n 2, 1) := by decide +kernel
theorem dX5_value_5 : decode cX5_value 5 = .ok (.aaload, 1) := by decide +kernel
theorem dX5_value_6 : decode cX5_value 6 = .ok (.astore_n 3, 1) := by decide +kernel
theorem dX5_value_7 : decode cX5_value 7 = .ok (.aload_n 0, 1) := by decide +kernel
theorem dX5_value_8 : decode cX5_value 8 = .ok (.getfield 9, 3) := by decide +kernel
theorem dX5_value_11 : decode cX5_value 11 = .ok (.iconst 0, 1) := by decide +kernel
theorem dX5_value_12 : decode cX5_value 12 = .ok (.aload_n 3, 1) := by decide +kernel
theorem dX5_value_13 : decode cX5_value 13 = .ok (.getfield 44, 3) := by decide +kernel
theorem dX5_value_16 : decode cX5_value 16 = .ok (.iastore, 1) := by decide +kernel
theorem dX5_value_17 : decode cX5_value 17 = .ok (.aload_n 0, 1) := by decide +kernel
theorem dX5_value_18 : decode cX5_value 18 = .ok (.getfield 9, 3) := by decide +kernel
theorem dX5_value_21 : decode cX5_value 21 = .ok (.iconst 1, 1) := by decide +kernel
theorem dX5_value_22 : decode cX5_value 22 = .ok (.aload_n 3, 1) := by decide +kernel
theorem dX5_value_23 : decode cX5_value 23 = .ok (.getfield 49, 3) := by decide +kernel
theorem dX5_value_26 : decode cX5_value 26 = .ok (.iastore, 1) := by decide +kernel
theorem dX5_value_27 : decode cX5_value 27 = .ok (.aload_n 0, 1) := by decide +kernel
theorem dX5_value_28 : decode cX5_value 28 = .ok (.getfield 9, 3) := by decide +kernel
theorem dX5_value_31 : decode cX5_value 31 = .ok (.iconst 2, 1) := by decide +kernel
theorem dX5_value_32 : decode cX5_value 32 = .ok (.aload_n 3, 1) := by decide +kernel
theorem dX5_value_33 : decode cX5_value 33 = .ok (.getfield 52, 3) := by decide +kernel
theorem dX5_value_36 : decode cX5_value 36 = .ok (.iastore, 1) := by decide +kernel
theorem dX5_value_37 : decode cX5_value 37 = .ok (.aload_n 0, 1) := by decide +kernel
theorem dX5_value_38 : decode cX5_value 38 = .ok (.getfield 9, 3) := by decide +kernel
theorem dX5_value_41 : decode cX5_value 41 = .ok (.iconst 3, 1) := by decide +kernel
theorem dX5_value_42 : decode cX5_value 42 = .ok (.aload_n 3, 1) := by decide +kernel
theorem dX5_value_43 : decode cX5_value 43 = .ok (.getfield 55, 3) := by decide +kernel
theorem dX5_value_46 : decode cX5_value 46 = .ok (.iastore, 1) := by decide +kernel
theorem dX5_value_47 : decode cX5_value 47 = .ok (.aload_n 0, 1) := by decide +kernel
theorem dX5_value_48 : decode cX5_value 48 = .ok (.getfield 9, 3) := by decide +kernel
theorem dX5_value_51 : decode cX5_value 51 = .ok (.iconst 4, 1) := by decide +kernel
theorem dX5_value_52 : decode cX5_value 52 = .ok (.aload_n 3, 1) := by decide +kernel
theorem dX5_value_53 : decode cX5_value 53 = .ok (.getfield 58, 3) := by decide +kernel
theorem dX5_value_56 : decode cX5_value 56 = .ok (.iastore, 1) := by decide +kernel
theorem dX5_value_57 : decode cX5_value 57 = .ok (.aload_n 0, 1) := by decide +kernel
theorem dX5_value_58 : decode cX5_value 58 = .ok (.getfield 9, 3) := by decide +kernel
theorem dX5_value_61 : decode cX5_value 61 = .ok (.iconst 5, 1) := by decide +kernel
theorem dX5_value_62 : decode cX5_value 62 = .ok (.iload_n 2, 1) := by decide +kernel
theorem dX5_value_63 : decode cX5_value 63 = .ok (.iastore, 1) := by decide +kernel
theorem dX5_value_64 : decode cX5_value 64 = .ok (.aload_n 0, 1) := by decide +kernel
theorem dX5_value_65 : decode cX5_value 65 = .ok (.getfield 9, 3) := by decide +kernel
theorem dX5_value_68 : decode cX5_value 68 = .ok (.bipush 6, 2) := by decide +kernel
theorem dX5_value_70 : decode cX5_value 70 = .ok (.aload_n 3, 1) := by decide +kernel
theorem dX5_value_71 : decode cX5_value 71 = .ok (.getfield 61, 3) := by decide +kernel
theorem dX5_value_74 : decode cX5_value 74 = .ok (.iastore, 1) := by decide +kernel
theorem dX5_value_75 : decode cX5_value 75 = .ok (.aload_n 0, 1) := by decide +kernel
theorem dX5_value_76 : decode cX5_value 76 = .ok (.getfield 9, 3) := by decide +kernel
theorem dX5_value_79 : decode cX5_value 79 = .ok (.bipush 7, 2) := by decide +kernel
theorem dX5_value_81 : decode cX5_value 81 = .ok (.aload_n 3, 1) := by decide +kernel
theorem dX5_value_82 : decode cX5_value 82 = .ok (.getfield 64, 3) := by decide +kernel
theorem dX5_value_85 : decode cX5_value 85 = .ok (.iastore, 1) := by decide +kernel
theorem dX5_value_86 : decode cX5_value 86 = .ok (.aload_n 0, 1) := by decide +kernel
theorem dX5_value_87 : decode cX5_value 87 = .ok (.iconst 0, 1) := by decide +kernel
theorem dX5_value_88 : decode cX5_value 88 = .ok (.putfield 19, 3) := by decide +kernel
theorem dX5_value_91 : decode cX5_value 91 = .ok (.aload_n 0, 1) := by decide +kernel
theorem dX5_value_92 : decode cX5_value 92 = .ok (.iconst (-1), 1) := by decide +kernel
theorem dX5_value_93 : decode cX5_value 93 = .ok (.putfield 23, 3) := by decide +kernel
theorem dX5_value_96 : decode cX5_value 96 = .ok (.aload_n 0, 1) := by decide +kernel
theorem dX5_value_97 : decode cX5_value 97 = .ok (.iconst 0, 1) := by decide +kernel
theorem dX5_value_98 : decode cX5_value 98 = .ok (.invokevirtual 26, 3) := by decide +kernel
theorem dX5_value_101 : decode cX5_value 101 = .ok (.ireturn, 1) := by decide +kernel
theorem dX5_next_0 : decode cX5_next 0 = .ok (.aload_n 0, 1) := by decide +kernel
theorem dX5_next_1 : decode cX5_next 1 = .ok (.getfield 23, 3) := by decide +kernel
theorem dX5_next_4 : decode cX5_next 4 = .ok (.ifCond .ge 32, 3) := by decide +kernel
theorem dX5_next_7 : decode cX5_next 7 = .ok (.aload_n 0, 1) := by decide +kernel
theorem dX5_next_8 : decode cX5_next 8 = .ok (.getfield 19, 3) := by decide +kernel
theorem dX5_next_11 : decode cX5_next 11 = .ok (.aload_n 0, 1) := by decide +kernel
theorem dX5_next_12 : decode cX5_next 12 = .ok (.getfield 15, 3) := by decide +kernel
theorem dX5_next_15 : decode cX5_next 15 = .ok (.getfield 30, 3) := by decide +kernel
theorem dX5_next_18 : decode cX5_next 18 = .ok (.if_icmp .ge 18, 3) := by decide +kernel
theorem dX5_next_21 : decode cX5_next 21 = .ok (.aload_n 0, 1) := by decide +kernel
theorem dX5_next_22 : decode cX5_next 22 = .ok (.getfield 15, 3) := by decide +kernel
theorem dX5_next_25 : decode cX5_next 25 = .ok (.getfield 67, 3) := by decide +kernel
theorem dX5_next_28 : decode cX5_next 28 = .ok (.aload_n 0, 1) := by decide +kernel
theorem dX5_next_29 : decode cX5_next 29 = .ok (.getfield 19, 3) := by decide +kernel
theorem dX5_next_32 : decode cX5_next 32 = .ok (.iaload, 1) := by decide +kernel
theorem dX5_next_33 : decode cX5_next 33 = .ok (.goto 4, 3) := by decide +kernel
theorem dX5_next_36 : decode cX5_next 36 = .ok (.iconst (-1), 1) := by decide +kernel
theorem dX5_next_37 : decode cX5_next 37 = .ok (.ireturn, 1) := by decide +kernel
theorem dX5_fail_0 : decode cX5_fail 0 = .ok (.aload_n 0, 1) := by decide +kernel
theorem dX5_fail_1 : decode cX5_fail 1 = .ok (.getfield 23, 3) := by decide +kernel
theorem dX5_fail_4 : decode cX5_fail 4 = .ok (.ifCond .ge 11, 3) := by decide +kernel
theorem dX5_fail_7 : decode cX5_fail 7 = .ok (.aload_n 0, 1) := by decide +kernel
theorem dX5_fail_8 : decode cX5_fail 8 = .ok (.aload_n 0, 1) := by decide +kernel
theorem dX5_fail_9 : decode cX5_fail 9 = .ok (.getfield 19, 3) := by decide +kernel
theorem dX5_fail_12 : decode cX5_fail 12 = .ok (.putfield 23, 3) := by decide +kernel
theorem dX5_fail_15 : decode cX5_fail 15 = .ok (.return_, 1) := by decide +kernel
theorem dX5_expect_0 : decode cX5_expect 0 = .ok (.aload_n 0, 1) := by decide +kernel
theorem dX5_expect_1 : decode cX5_expect 1 = .ok (.invokevirtual 70, 3) := by decide +kernel
theorem dX5_expect_4 : decode cX5_expect 4 = .ok (.iload_n 1, 1) := by decide +kernel
theorem dX5_expect_5 : decode cX5_expect 5 = .ok (.if_icmp .ne 16, 3) := by decide +kernel
theorem dX5_expect_8 : decode cX5_expect 8 = .ok (.aload_n 0, 1) := by decide +kernel
theorem dX5_expect_9 : decode cX5_expect 9 = .ok (.dup, 1) := by decide +kernel
theorem dX5_expect_10 : decode cX5_expect 10 = .ok (.getfield 19, 3) := by decide +kernel
theorem dX5_expect_13 : decode cX5_expect 13 = .ok (.iconst 1, 1) := by decide +kernel
theorem dX5_expect_14 : decode cX5_expect 14 = .ok (.iadd, 1) := by decide +kernel
theorem dX5_expect_15 : decode cX5_expect 15 = .ok (.putfield 19, 3) := by decide +kernel
theorem dX5_expect_18 : decode cX5_expect 18 = .ok (.goto 7, 3) := by decide +kernel
theorem dX5_expect_21 : decode cX5_expect 21 = .ok (.aload_n 0, 1) := by decide +kernel
theorem dX5_expect_22 : decode cX5_expect 22 = .ok (.invokevirtual 35, 3) := by decide +kernel
theorem dX5_expect_25 : decode cX5_expect 25 = .ok (.return_, 1) := by decide +kernel
theorem dX5_readSum_0 : decode cX5_readSum 0 = .ok (.aload_n 0, 1) := by decide +kernel
theorem dX5_readSum_1 : decode cX5_readSum 1 = .ok (.iload_n 1, 1) := by decide +kernel
theorem dX5_readSum_2 : decode cX5_readSum 2 = .ok (.invokevirtual 74, 3) := by decide +kernel
theorem dX5_readSum_5 : decode cX5_readSum 5 = .ok (.istore_n 2, 1) := by decide +kernel
theorem dX5_readSum_6 : decode cX5_readSum 6 = .ok (.iconst 0, 1) := by decide +kernel
theorem dX5_readSum_7 : decode cX5_readSum 7 = .ok (.istore_n 3, 1) := by decide +kernel
theorem dX5_readSum_8 : decode cX5_readSum 8 = .ok (.iload_n 3, 1) := by decide +kernel
theorem dX5_readSum_9 : decode cX5_readSum 9 = .ok (.bipush 80, 2) := by decide +kernel
theorem dX5_readSum_11 : decode cX5_readSum 11 = .ok (.if_icmp .ge 68, 3) := by decide +kernel
theorem dX5_readSum_14 : decode cX5_readSum 14 = .ok (.aload_n 0, 1) := by decide +kernel
theorem dX5_readSum_15 : decode cX5_readSum 15 = .ok (.invokevirtual 70, 3) := by decide +kernel
theorem dX5_readSum_18 : decode cX5_readSum 18 = .ok (.istore 4, 2) := by decide +kernel
theorem dX5_readSum_20 : decode cX5_readSum 20 = .ok (.iload 4, 2) := by decide +kernel
theorem dX5_readSum_22 : decode cX5_readSum 22 = .ok (.bipush 43, 2) := by decide +kernel
theorem dX5_readSum_24 : decode cX5_readSum 24 = .ok (.if_icmp .eq 13, 3) := by decide +kernel
theorem dX5_readSum_27 : decode cX5_readSum 27 = .ok (.iload 4, 2) := by decide +kernel
theorem dX5_readSum_29 : decode cX5_readSum 29 = .ok (.bipush 45, 2) := by decide +kernel
theorem dX5_readSum_31 : decode cX5_readSum 31 = .ok (.if_icmp .eq 6, 3) := by decide +kernel
theorem dX5_readSum_34 : decode cX5_readSum 34 = .ok (.goto 45, 3) := by decide +kernel
theorem dX5_readSum_37 : decode cX5_readSum 37 = .ok (.aload_n 0, 1) := by decide +kernel
theorem dX5_readSum_38 : decode cX5_readSum 38 = .ok (.dup, 1) := by decide +kernel
theorem dX5_readSum_39 : decode cX5_readSum 39 = .ok (.getfield 19, 3) := by decide +kernel
theorem dX5_readSum_42 : decode cX5_readSum 42 = .ok (.iconst 1, 1) := by decide +kernel
theorem dX5_readSum_43 : decode cX5_readSum 43 = .ok (.iadd, 1) := by decide +kernel
theorem dX5_readSum_44 : decode cX5_readSum 44 = .ok (.putfield 19, 3) := by decide +kernel
theorem dX5_readSum_47 : decode cX5_readSum 47 = .ok (.aload_n 0, 1) := by decide +kernel
theorem dX5_readSum_48 : decode cX5_readSum 48 = .ok (.iload_n 1, 1) := by decide +kernel
theorem dX5_readSum_49 : decode cX5_readSum 49 = .ok (.invokevirtual 74, 3) := by decide +kernel
theorem dX5_readSum_52 : decode cX5_readSum 52 = .ok (.istore 5, 2) := by decide +kernel
theorem dX5_readSum_54 : decode cX5_readSum 54 = .ok (.iload 4, 2) := by decide +kernel
theorem dX5_readSum_56 : decode cX5_readSum 56 = .ok (.bipush 43, 2) := by decide +kernel
theorem dX5_readSum_58 : decode cX5_readSum 58 = .ok (.if_icmp .ne 10, 3) := by decide +kernel
theorem dX5_readSum_61 : decode cX5_readSum 61 = .ok (.iload_n 2, 1) := by decide +kernel
theorem dX5_readSum_62 : decode cX5_readSum 62 = .ok (.iload 5, 2) := by decide +kernel
theorem dX5_readSum_64 : decode cX5_readSum 64 = .ok (.iadd, 1) := by decide +kernel
theorem dX5_readSum_65 : decode cX5_readSum 65 = .ok (.goto 7, 3) := by decide +kernel
theorem dX5_readSum_68 : decode cX5_readSum 68 = .ok (.iload_n 2, 1) := by decide +kernel
theorem dX5_readSum_69 : decode cX5_readSum 69 = .ok (.iload 5, 2) := by decide +kernel
theorem dX5_readSum_71 : decode cX5_readSum 71 = .ok (.isub, 1) := by decide +kernel
theorem dX5_readSum_72 : decode cX5_readSum 72 = .ok (.istore_n 2, 1) := by decide +kernel
theorem dX5_readSum_73 : decode cX5_readSum 73 = .ok (.iinc 3 1, 3) := by decide +kernel
theorem dX5_readSum_76 : decode cX5_readSum 76 = .ok (.goto (-68), 3) := by decide +kernel
theorem dX5_readSum_79 : decode cX5_readSum 79 = .ok (.iload_n 2, 1) := by decide +kernel
theorem dX5_readSum_80 : decode cX5_readSum 80 = .ok (.ireturn, 1) := by decide +kernel
theorem dX5_readProduct_0 : decode cX5_readProduct 0 = .ok (.aload_n 0, 1) := by decide +kernel
theorem dX5_readProduct_1 : decode cX5_readProduct 1 = .ok (.iload_n 1, 1) := by decide +kernel
theorem dX5_readProduct_2 : decode cX5_readProduct 2 = .ok (.invokevirtual 77, 3) := by decide +kernel
theorem dX5_readProduct_5 : decode cX5_readProduct 5 = .ok (.istore_n 2, 1) := by decide +kernel
theorem dX5_readProduct_6 : decode cX5_readProduct 6 = .ok (.iconst 0, 1) := by decide +kernel
theorem dX5_readProduct_7 : decode cX5_readProduct 7 = .ok (.istore_n 3, 1) := by decide +kernel
theorem dX5_readProduct_8 : decode cX5_readProduct 8 = .ok (.iload_n 3, 1) := by decide +kernel
theorem dX5_readProduct_9 : decode cX5_readProduct 9 = .ok (.bipush 80, 2) := by decide +kernel
theorem dX5_readProduct_11 : decode cX5_readProduct 11 = .ok (.if_icmp .ge 70, 3) := by decide +kernel
theorem dX5_readProduct_14 : decode cX5_readProduct 14 = .ok (.aload_n 0, 1) := by decide +kernel
theorem dX5_readProduct_15 : decode cX5_readProduct 15 = .ok (.invokevirtual 70, 3) := by decide +kernel
theorem dX5_readProduct_18 : decode cX5_readProduct 18 = .ok (.istore 4, 2) := by decide +kernel
theorem dX5_readProduct_20 : decode cX5_readProduct 20 = .ok (.iload 4, 2) := by decide +kernel
theorem dX5_readProduct_22 : decode cX5_readProduct 22 = .ok (.bipush 42, 2) := by decide +kernel
theorem dX5_readProduct_24 : decode cX5_readProduct 24 = .ok (.if_icmp .eq 13, 3) := by decide +kernel
theorem dX5_readProduct_27 : decode cX5_readProduct 27 = .ok (.iload 4, 2) := by decide +kernel
theorem dX5_readProduct_29 : decode cX5_readProduct 29 = .ok (.bipush 47, 2) := by decide +kernel
theorem dX5_readProduct_31 : decode cX5_readProduct 31 = .ok (.if_icmp .eq 6, 3) := by decide +kernel
theorem dX5_readProduct_34 : decode cX5_readProduct 34 = .ok (.goto 47, 3) := by decide +kernel
theorem dX5_readProduct_37 : decode cX5_readProduct 37 = .ok (.aload_n 0, 1) := by decide +kernel
theorem dX5_readProduct_38 : decode cX5_readProduct 38 = .ok (.dup, 1) := by decide +kernel
theorem dX5_readProduct_39 : decode cX5_readProduct 39 = .ok (.getfield 19, 3) := by decide +kernel
theorem dX5_readProduct_42 : decode cX5_readProduct 42 = .ok (.iconst 1, 1) := by decide +kernel
theorem dX5_readProduct_43 : decode cX5_readProduct 43 = .ok (.iadd, 1) := by decide +kernel
theorem dX5_readProduct_44 : decode cX5_readProduct 44 = .ok (.putfield 19, 3) := by decide +kernel
theorem dX5_readProduct_47 : decode cX5_readProduct 47 = .ok (.aload_n 0, 1) := by decide +kernel
theorem dX5_readProduct_48 : decode cX5_readProduct 48 = .ok (.iload_n 1, 1) := by decide +kernel
theorem dX5_readProduct_49 : decode cX5_readProduct 49 = .ok (.invokevirtual 77, 3) := by decide +kernel
theorem dX5_readProduct_52 : decode cX5_readProduct 52 = .ok (.istore 5, 2) := by decide +kernel
theorem dX5_readProduct_54 : decode cX5_readProduct 54 = .ok (.iload 4, 2) := by decide +kernel
theorem dX5_readProduct_56 : decode cX5_readProduct 56 = .ok (.bipush 42, 2) := by decide +kernel
theorem dX5_readProduct_58 : decode cX5_readProduct 58 = .ok (.if_icmp .ne 10, 3) := by decide +kernel
theorem dX5_readProduct_61 : decode cX5_readProduct 61 = .ok (.iload_n 2, 1) := by decide +kernel
theorem dX5_readProduct_62 : decode cX5_readProduct 62 = .ok (.iload 5, 2) := by decide +kernel
theorem dX5_readProduct_64 : decode cX5_readProduct 64 = .ok (.imul, 1) := by decide +kernel
theorem dX5_readProduct_65 : decode cX5_readProduct 65 = .ok (.goto 9, 3) := by decide +kernel
theorem dX5_readProduct_68 : decode cX5_readProduct 68 = .ok (.iload_n 2, 1) := by decide +kernel
theorem dX5_readProduct_69 : decode cX5_readProduct 69 = .ok (.iload 5, 2) := by decide +kernel
theorem dX5_readProduct_71 : decode cX5_readProduct 71 = .ok (.invokestatic 80, 3) := by decide +kernel
theorem dX5_readProduct_74 : decode cX5_readProduct 74 = .ok (.istore_n 2, 1) := by decide +kernel
theorem dX5_readProduct_75 : decode cX5_readProduct 75 = .ok (.iinc 3 1, 3) := by decide +kernel
theorem dX5_readProduct_78 : decode cX5_readProduct 78 = .ok (.goto (-70), 3) := by decide +kernel
theorem dX5_readProduct_81 : decode cX5_readProduct 81 = .ok (.iload_n 2, 1) := by decide +kernel
theorem dX5_readProduct_82 : decode cX5_readProduct 82 = .ok (.ireturn, 1) := by decide +kernel
theorem dX5_quotient_0 : decode cX5_quotient 0 = .ok (.iload_n 1, 1) := by decide +kernel
theorem dX5_quotient_1 : decode cX5_quotient 1 = .ok (.ifCond .ne 7, 3) := by decide +kernel
theorem dX5_quotient_4 : decode cX5_quotient 4 = .ok (.iconst 0, 1) := by decide +kernel
theorem dX5_quotient_5 : decode cX5_quotient 5 = .ok (.goto 6, 3) := by decide +kernel
theorem dX5_quotient_8 : decode cX5_quotient 8 = .ok (.iload_n 0, 1) := by decide +kernel
theorem dX5_quotient_9 : decode cX5_quotient 9 = .ok (.iload_n 1, 1) := by decide +kernel
theorem dX5_quotient_10 : decode cX5_quotient 10 = .ok (.idiv, 1) := by decide +kernel
theorem dX5_quotient_11 : decode cX5_quotient 11 = .ok (.ireturn, 1) := by decide +kernel
theorem dX5_readFactor_0 : decode cX5_readFactor 0 = .ok (.aload_n 0, 1) := by decide +kernel
theorem dX5_readFactor_1 : decode cX5_readFactor 1 = .ok (.invokevirtual 70, 3) := by decide +kernel
theorem dX5_readFactor_4 : decode cX5_readFactor 4 = .ok (.istore_n 2, 1) := by decide +kernel
theorem dX5_readFactor_5 : decode cX5_readFactor 5 = .ok (.iload_n 2, 1) := by decide +kernel
theorem dX5_readFactor_6 : decode cX5_readFactor 6 = .ok (.invokestatic 84, 3) := by decide +kernel
theorem dX5_readFactor_9 : decode cX5_readFactor 9 = .ok (.ifCond .eq 8, 3) := by decide +kernel
theorem dX5_readFactor_12 : decode cX5_readFactor 12 = .ok (.aload_n 0, 1) := by decide +kernel
theorem dX5_readFactor_13 : decode cX5_readFactor 13 = .ok (.invokevirtual 88, 3) := by decide +kernel
theorem dX5_readFactor_16 : decode cX5_readFactor 16 = .ok (.ireturn, 1) := by decide +kernel
theorem dX5_readFactor_17 : decode cX5_readFactor 17 = .ok (.iload_n 2, 1) := by decide +kernel
theorem dX5_readFactor_18 : decode cX5_readFactor 18 = .ok (.bipush 40, 2) := by decide +kernel
theorem dX5_readFactor_20 : decode cX5_readFactor 20 = .ok (.if_icmp .ne 16, 3) := by decide +kernel
theorem dX5_readFactor_23 : decode cX5_readFactor 23 = .ok (.iload_n 1, 1) := by decide +kernel
theorem dX5_readFactor_24 : decode cX5_readFactor 24 = .ok (.iconst 4, 1) := by decide +kernel
theorem dX5_readFactor_25 : decode cX5_readFactor 25 = .ok (.if_icmp .ge 11, 3) := by decide +kernel
theorem dX5_readFactor_28 : decode cX5_readFactor 28 = .ok (.aload_n 0, 1) := by decide +kernel
theorem dX5_readFactor_29 : decode cX5_readFactor 29 = .ok (.iload_n 1, 1) := by decide +kernel
theorem dX5_readFactor_30 : decode cX5_readFactor 30 = .ok (.iconst 1, 1) := by decide +kernel
theorem dX5_readFactor_31 : decode cX5_readFactor 31 = .ok (.iadd, 1) := by decide +kernel
theorem dX5_readFactor_32 : decode cX5_readFactor 32 = .ok (.invokevirtual 91, 3) := by decide +kernel
theorem dX5_readFactor_35 : decode cX5_readFactor 35 = .ok (.ireturn, 1) := by decide +kernel
theorem dX5_readFactor_36 : decode cX5_readFactor 36 = .ok (.iload_n 2, 1) := by decide +kernel
theorem dX5_readFactor_37 : decode cX5_readFactor 37 = .ok (.bipush 91, 2) := by decide +kernel
theorem dX5_readFactor_39 : decode cX5_readFactor 39 = .ok (.if_icmp .ne 16, 3) := by decide +kernel
theorem dX5_readFactor_42 : decode cX5_readFactor 42 = .ok (.iload_n 1, 1) := by decide +kernel
theorem dX5_readFactor_43 : decode cX5_readFactor 43 = .ok (.iconst 4, 1) := by decide +kernel
theorem dX5_readFactor_44 : decode cX5_readFactor 44 = .ok (.if_icmp .ge 11, 3) := by decide +kernel
theorem dX5_readFactor_47 : decode cX5_readFactor 47 = .ok (.aload_n 0, 1) := by decide +kernel
theorem dX5_readFactor_48 : decode cX5_readFactor 48 = .ok (.iload_n 1, 1) := by decide +kernel
theorem dX5_readFactor_49 : decode cX5_readFactor 49 = .ok (.iconst 1, 1) := by decide +kernel
theorem dX5_readFactor_50 : decode cX5_readFactor 50 = .ok (.iadd, 1) := by decide +kernel
theorem dX5_readFactor_51 : decode cX5_readFactor 51 = .ok (.invokevirtual 94, 3) := by decide +kernel
theorem dX5_readFactor_54 : decode cX5_readFactor 54 = .ok (.ireturn, 1) := by decide +kernel
theorem dX5_readFactor_55 : decode cX5_readFactor 55 = .ok (.iload_n 2, 1) := by decide +kernel
theorem dX5_readFactor_56 : decode cX5_readFactor 56 = .ok (.ifCond .ge 7, 3) := by decide +kernel
theorem dX5_readFactor_59 : decode cX5_readFactor 59 = .ok (.iconst (-1), 1) := by decide +kernel
theorem dX5_readFactor_60 : decode cX5_readFactor 60 = .ok (.goto 10, 3) := by decide +kernel
theorem dX5_readFactor_63 : decode cX5_readFactor 63 = .ok (.ldc 97, 2) := by decide +kernel
theorem dX5_readFactor_65 : decode cX5_readFactor 65 = .ok (.iload_n 2, 1) := by decide +kernel
theorem dX5_readFactor_66 : decode cX5_readFactor 66 = .ok (.i2c, 1) := by decide +kernel
theorem dX5_readFactor_67 : decode cX5_readFactor 67 = .ok (.invokevirtual 99, 3) := by decide +kernel
theorem dX5_readFactor_70 : decode cX5_readFactor 70 = .ok (.istore_n 3, 1) := by decide +kernel
theorem dX5_readFactor_71 : decode cX5_readFactor 71 = .ok (.iload_n 3, 1) := by decide +kernel
theorem dX5_readFactor_72 : decode cX5_readFactor 72 = .ok (.iconst 0, 1) := by decide +kernel
theorem dX5_readFactor_73 : decode cX5_readFactor 73 = .ok (.aload_n 0, 1) := by decide +kernel
theorem dX5_readFactor_74 : decode cX5_readFactor 74 = .ok (.getfield 9, 3) := by decide +kernel
theorem dX5_readFactor_77 : decode cX5_readFactor 77 = .ok (.arraylength, 1) := by decide +kernel
theorem dX5_readFactor_78 : decode cX5_readFactor 78 = .ok (.iconst 1, 1) := by decide +kernel
theorem dX5_readFactor_79 : decode cX5_readFactor 79 = .ok (.isub, 1) := by decide +kernel
theorem dX5_readFactor_80 : decode cX5_readFactor 80 = .ok (.invokestatic 104, 3) := by decide +kernel
theorem dX5_readFactor_83 : decode cX5_readFactor 83 = .ok (.ifCond .ne 9, 3) := by decide +kernel
theorem dX5_readFactor_86 : decode cX5_readFactor 86 = .ok (.aload_n 0, 1) := by decide +kernel
theorem dX5_readFactor_87 : decode cX5_readFactor 87 = .ok (.invokevirtual 35, 3) := by decide +kernel
theorem dX5_readFactor_90 : decode cX5_readFactor 90 = .ok (.iconst 0, 1) := by decide +kernel
theorem dX5_readFactor_91 : decode cX5_readFactor 91 = .ok (.ireturn, 1) := by decide +kernel
theorem dX5_readFactor_92 : decode cX5_readFactor 92 = .ok (.aload_n 0, 1) := by decide +kernel
theorem dX5_readFactor_93 : decode cX5_readFactor 93 = .ok (.dup, 1) := by decide +kernel
theorem dX5_readFactor_94 : decode cX5_readFactor 94 = .ok (.getfield 19, 3) := by decide +kernel
theorem dX5_readFactor_97 : decode cX5_readFactor 97 = .ok (.iconst 1, 1) := by decide +kernel
theorem dX5_readFactor_98 : decode cX5_readFactor 98 = .ok (.iadd, 1) := by decide +kernel
theorem dX5_readFactor_99 : decode cX5_readFactor 99 = .ok (.putfield 19, 3) := by decide +kernel
theorem dX5_readFactor_102 : decode cX5_readFactor 102 = .ok (.aload_n 0, 1) := by decide +kernel
theorem dX5_readFactor_103 : decode cX5_readFactor 103 = .ok (.getfield 9, 3) := by decide +kernel
theorem dX5_readFactor_106 : decode cX5_readFactor 106 = .ok (.iload_n 3, 1) := by decide +kernel
theorem dX5_readFactor_107 : decode cX5_readFactor 107 = .ok (.iaload, 1) := by decide +kernel
theorem dX5_readFactor_108 : decode cX5_readFactor 108 = .ok (.ireturn, 1) := by decide +kernel
theorem dX5_readNumber_0 : decode cX5_readNumber 0 = .ok (.iconst 0, 1) := by decide +kernel
theorem dX5_readNumber_1 : decode cX5_readNumber 1 = .ok (.istore_n 1, 1) := by decide +kernel
theorem dX5_readNumber_2 : decode cX5_readNumber 2 = .ok (.iconst 0, 1) := by decide +kernel
theorem dX5_readNumber_3 : decode cX5_readNumber 3 = .ok (.istore_n 2, 1) := by decide +kernel
theorem dX5_readNumber_4 : decode cX5_readNumber 4 = .ok (.iload_n 2, 1) := by decide +kernel
theorem dX5_readNumber_5 : decode cX5_readNumber 5 = .ok (.iconst 4, 1) := by decide +kernel
theorem dX5_readNumber_6 : decode cX5_readNumber 6 = .ok (.if_icmp .ge 42, 3) := by decide +kernel
theorem dX5_readNumber_9 : decode cX5_readNumber 9 = .ok (.aload_n 0, 1) := by decide +kernel
theorem dX5_readNumber_10 : decode cX5_readNumber 10 = .ok (.invokevirtual 70, 3) := by decide +kernel
theorem dX5_readNumber_13 : decode cX5_readNumber 13 = .ok (.invokestatic 84, 3) := by decide +kernel
theorem dX5_readNumber_16 : decode cX5_readNumber 16 = .ok (.ifCond .eq 32, 3) := by decide +kernel
theorem dX5_readNumber_19 : decode cX5_readNumber 19 = .ok (.bipush 10, 2) := by decide +kernel
theorem dX5_readNumber_21 : decode cX5_readNumber 21 = .ok (.iload_n 1, 1) := by decide +kernel
theorem dX5_readNumber_22 : decode cX5_readNumber 22 = .ok (.imul, 1) := by decide +kernel
theorem dX5_readNumber_23 : decode cX5_readNumber 23 = .ok (.aload_n 0, 1) := by decide +kernel
theorem dX5_readNumber_24 : decode cX5_readNumber 24 = .ok (.invokevirtual 70, 3) := by decide +kernel
theorem dX5_readNumber_27 : decode cX5_readNumber 27 = .ok (.iadd, 1) := by decide +kernel
theorem dX5_readNumber_28 : decode cX5_readNumber 28 = .ok (.bipush 48, 2) := by decide +kernel
theorem dX5_readNumber_30 : decode cX5_readNumber 30 = .ok (.isub, 1) := by decide +kernel
theorem dX5_readNumber_31 : decode cX5_readNumber 31 = .ok (.istore_n 1, 1) := by decide +kernel
theorem dX5_readNumber_32 : decode cX5_readNumber 32 = .ok (.aload_n 0, 1) := by decide +kernel
theorem dX5_readNumber_33 : decode cX5_readNumber 33 = .ok (.dup, 1) := by decide +kernel
theorem dX5_readNumber_34 : decode cX5_readNumber 34 = .ok (.getfield 19, 3) := by decide +kernel
theorem dX5_readNumber_37 : decode cX5_readNumber 37 = .ok (.iconst 1, 1) := by decide +kernel
theorem dX5_readNumber_38 : decode cX5_readNumber 38 = .ok (.iadd, 1) := by decide +kernel
theorem dX5_readNumber_39 : decode cX5_readNumber 39 = .ok (.putfield 19, 3) := by decide +kernel
theorem dX5_readNumber_42 : decode cX5_readNumber 42 = .ok (.iinc 2 1, 3) := by decide +kernel
theorem dX5_readNumber_45 : decode cX5_readNumber 45 = .ok (.goto (-41), 3) := by decide +kernel
theorem dX5_readNumber_48 : decode cX5_readNumber 48 = .ok (.iload_n 1, 1) := by decide +kernel
theorem dX5_readNumber_49 : decode cX5_readNumber 49 = .ok (.ireturn, 1) := by decide +kernel
theorem dX5_isDigit_0 : decode cX5_isDigit 0 = .ok (.iload_n 0, 1) := by decide +kernel
theorem dX5_isDigit_1 : decode cX5_isDigit 1 = .ok (.bipush 48, 2) := by decide +kernel
theorem dX5_isDigit_3 : decode cX5_isDigit 3 = .ok (.if_icmp .lt 13, 3) := by decide +kernel
theorem dX5_isDigit_6 : decode cX5_isDigit 6 = .ok (.iload_n 0, 1) := by decide +kernel
theorem dX5_isDigit_7 : decode cX5_isDigit 7 = .ok (.bipush 57, 2) := by decide +kernel
theorem dX5_isDigit_9 : decode cX5_isDigit 9 = .ok (.if_icmp .gt 7, 3) := by decide +kernel
theorem dX5_isDigit_12 : decode cX5_isDigit 12 = .ok (.iconst 1, 1) := by decide +kernel
theorem dX5_isDigit_13 : decode cX5_isDigit 13 = .ok (.goto 4, 3) := by decide +kernel
theorem dX5_isDigit_16 : decode cX5_isDigit 16 = .ok (.iconst 0, 1) := by decide +kernel
theorem dX5_isDigit_17 : decode cX5_isDigit 17 = .ok (.ireturn, 1) := by decide +kernel
theorem dX5_readBracket_0 : decode cX5_readBracket 0 = .ok (.aload_n 0, 1) := by decide +kernel
theorem dX5_readBracket_1 : decode cX5_readBracket 1 = .ok (.dup, 1) := by decide +kernel
theorem dX5_readBracket_2 : decode cX5_readBracket 2 = .ok (.getfield 19, 3) := by decide +kernel
theorem dX5_readBracket_5 : decode cX5_readBracket 5 = .ok (.iconst 1, 1) := by decide +kernel
theorem dX5_readBracket_6 : decode cX5_readBracket 6 = .ok (.iadd, 1) := by decide +kernel
theorem dX5_readBracket_7 : decode cX5_readBracket 7 = .ok (.putfield 19, 3) := by decide +kernel
theorem dX5_readBracket_10 : decode cX5_readBracket 10 = .ok (.aload_n 0, 1) := by decide +kernel
theorem dX5_readBracket_11 : decode cX5_readBracket 11 = .ok (.iload_n 1, 1) := by decide +kernel
theorem dX5_readBracket_12 : decode cX5_readBracket 12 = .ok (.invokevirtual 26, 3) := by decide +kernel
theorem dX5_readBracket_15 : decode cX5_readBracket 15 = .ok (.istore_n 2, 1) := by decide +kernel
theorem dX5_readBracket_16 : decode cX5_readBracket 16 = .ok (.aload_n 0, 1) := by decide +kernel
theorem dX5_readBracket_17 : decode cX5_readBracket 17 = .ok (.bipush 41, 2) := by decide +kernel
theorem dX5_readBracket_19 : decode cX5_readBracket 19 = .ok (.invokevirtual 108, 3) := by decide +kernel
theorem dX5_readBracket_22 : decode cX5_readBracket 22 = .ok (.iload_n 2, 1) := by decide +kernel
theorem dX5_readBracket_23 : decode cX5_readBracket 23 = .ok (.ireturn, 1) := by decide +kernel
theorem dX5_readChoice_0 : decode cX5_readChoice 0 = .ok (.aload_n 0, 1) := by decide +kernel
theorem dX5_readChoice_1 : decode cX5_readChoice 1 = .ok (.dup, 1) := by decide +kernel
theorem dX5_readChoice_2 : decode cX5_readChoice 2 = .ok (.getfield 19, 3) := by decide +kernel
theorem dX5_readChoice_5 : decode cX5_readChoice 5 = .ok (.iconst 1, 1) := by decide +kernel
theorem dX5_readChoice_6 : decode cX5_readChoice 6 = .ok (.iadd, 1) := by decide +kernel
theorem dX5_readChoice_7 : decode cX5_readChoice 7 = .ok (.putfield 19, 3) := by decide +kernel
theorem dX5_readChoice_10 : decode cX5_readChoice 10 = .ok (.aload_n 0, 1) := by decide +kernel
theorem dX5_readChoice_11 : decode cX5_readChoice 11 = .ok (.iload_n 1, 1) := by decide +kernel
theorem dX5_readChoice_12 : decode cX5_readChoice 12 = .ok (.invokevirtual 26, 3) := by decide +kernel
theorem dX5_readChoice_15 : decode cX5_readChoice 15 = .ok (.istore_n 2, 1) := by decide +kernel
theorem dX5_readChoice_16 : decode cX5_readChoice 16 = .ok (.aload_n 0, 1) := by decide +kernel
theorem dX5_readChoice_17 : decode cX5_readChoice 17 = .ok (.bipush 63, 2) := by decide +kernel
theorem dX5_readChoice_19 : decode cX5_readChoice 19 = .ok (.invokevirtual 108, 3) := by decide +kernel
theorem dX5_readChoice_22 : decode cX5_readChoice 22 = .ok (.aload_n 0, 1) := by decide +kernel
theorem dX5_readChoice_23 : decode cX5_readChoice 23 = .ok (.iload_n 1, 1) := by decide +kernel
theorem dX5_readChoice_24 : decode cX5_readChoice 24 = .ok (.invokevirtual 26, 3) := by decide +kernel
theorem dX5_readChoice_27 : decode cX5_readChoice 27 = .ok (.istore_n 3, 1) := by decide +kernel
theorem dX5_readChoice_28 : decode cX5_readChoice 28 = .ok (.aload_n 0, 1) := by decide +kernel
theorem dX5_readChoice_29 : decode cX5_readChoice 29 = .ok (.bipush 58, 2) := by decide +kernel
theorem dX5_readChoice_31 : decode cX5_readChoice 31 = .ok (.invokevirtual 108, 3) := by decide +kernel
theorem dX5_readChoice_34 : decode cX5_readChoice 34 = .ok (.aload_n 0, 1) := by decide +kernel
theorem dX5_readChoice_35 : decode cX5_readChoice 35 = .ok (.iload_n 1, 1) := by decide +kernel
theorem dX5_readChoice_36 : decode cX5_readChoice 36 = .ok (.invokevirtual 26, 3) := by decide +kernel
theorem dX5_readChoice_39 : decode cX5_readChoice 39 = .ok (.istore 4, 2) := by decide +kernel
theorem dX5_readChoice_41 : decode cX5_readChoice 41 = .ok (.aload_n 0, 1) := by decide +kernel
theorem dX5_readChoice_42 : decode cX5_readChoice 42 = .ok (.bipush 93, 2) := by decide +kernel
theorem dX5_readChoice_44 : decode cX5_readChoice 44 = .ok (.invokevirtual 108, 3) := by decide +kernel
theorem dX5_readChoice_47 : decode cX5_readChoice 47 = .ok (.iload_n 2, 1) := by decide +kernel
theorem dX5_readChoice_48 : decode cX5_readChoice 48 = .ok (.ifCond .eq 7, 3) := by decide +kernel
theorem dX5_readChoice_51 : decode cX5_readChoice 51 = .ok (.iload_n 3, 1) := by decide +kernel
theorem dX5_readChoice_52 : decode cX5_readChoice 52 = .ok (.goto 5, 3) := by decide +kernel
theorem dX5_readChoice_55 : decode cX5_readChoice 55 = .ok (.iload 4, 2) := by decide +kernel
theorem dX5_readChoice_57 : decode cX5_readChoice 57 = .ok (.ireturn, 1) := by decide +kernel
theorem dX6_init_0 : decode cX6_init 0 = .ok (.aload_n 0, 1) := by decide +kernel
theorem dX6_init_1 : decode cX6_init 1 = .ok (.invokespecial 3, 3) := by decide +kernel
theorem dX6_init_4 : decode cX6_init 4 = .ok (.aload_n 0, 1) := by decide +kernel
theorem dX6_init_5 : decode cX6_init 5 = .ok (.iconst 4, 1) := by decide +kernel
theorem dX6_init_6 : decode cX6_init 6 = .ok (.bipush 40, 2) := by decide +kernel
theorem dX6_init_8 : decode cX6_init 8 = .ok (.multianewarray 9 2, 4) := by decide +kernel
theorem dX6_init_12 : decode cX6_init 12 = .ok (.putfield 11, 3) := by decide +kernel
theorem dX6_init_15 : decode cX6_init 15 = .ok (.aload_n 0, 1) := by decide +kernel
theorem dX6_init_16 : decode cX6_init 16 = .ok (.iconst 4, 1) := by decide +kernel
theorem dX6_init_17 : decode cX6_init 17 = .ok (.newarray .int, 2) := by decide +kernel
theorem dX6_init_19 : decode cX6_init 19 = .ok (.putfield 16, 3) := by decide +kernel
theorem dX6_init_22 : decode cX6_init 22 = .ok (.aload_n 0, 1) := by decide +kernel
theorem dX6_init_23 : decode cX6_init 23 = .ok (.iconst 4, 1) := by decide +kernel
theorem dX6_init_24 : decode cX6_init 24 = .ok (.newarray .int, 2) := by decide +kernel
theorem dX6_init_26 : decode cX6_init 26 = .ok (.putfield 20, 3) := by decide +kernel
theorem dX6_init_29 : decode cX6_init 29 = .ok (.return_, 1) := by decide +kernel
theorem dX6_isMissing_0 : decode cX6_isMissing 0 = .ok (.aload_n 0, 1) := by decide +kernel
theorem dX6_isMissing_1 : decode cX6_isMissing 1 = .ok (.getfield 16, 3) := by decide +kernel
theorem dX6_isMissing_4 : decode cX6_isMissing 4 = .ok (.iload_n 1, 1) := by decide +kernel
theorem dX6_isMissing_5 : decode cX6_isMissing 5 = .ok (.iaload, 1) := by decide +kernel
theorem dX6_isMissing_6 : decode cX6_isMissing 6 = .ok (.ifCond .ne 7, 3) := by decide +kernel
theorem dX6_isMissing_9 : decode cX6_isMissing 9 = .ok (.iconst 1, 1) := by decide +kernel
theorem dX6_isMissing_10 : decode cX6_isMissing 10 = .ok (.goto 4, 3) := by decide +kernel
theorem dX6_isMissing_13 : decode cX6_isMissing 13 = .ok (.iconst 0, 1) := by decide +kernel
theorem dX6_isMissing_14 : decode cX6_isMissing 14 = .ok (.ireturn, 1) := by decide +kernel
theorem dX6_lay_0 : decode cX6_lay 0 = .ok (.aload_n 0, 1) := by decide +kernel
theorem dX6_lay_1 : decode cX6_lay 1 = .ok (.getfield 16, 3) := by decide +kernel
theorem dX6_lay_4 : decode cX6_lay 4 = .ok (.iload_n 1, 1) := by decide +kernel
theorem dX6_lay_5 : decode cX6_lay 5 = .ok (.iload_n 2, 1) := by decide +kernel
theorem dX6_lay_6 : decode cX6_lay 6 = .ok (.iastore, 1) := by decide +kernel
theorem dX6_lay_7 : decode cX6_lay 7 = .ok (.aload_n 0, 1) := by decide +kernel
theorem dX6_lay_8 : decode cX6_lay 8 = .ok (.getfield 20, 3) := by decide +kernel
theorem dX6_lay_11 : decode cX6_lay 11 = .ok (.iload_n 1, 1) := by decide +kernel
theorem dX6_lay_12 : decode cX6_lay 12 = .ok (.iload_n 2, 1) := by decide +kernel
theorem dX6_lay_13 : decode cX6_lay 13 = .ok (.ifCond .ne 7, 3) := by decide +kernel
theorem dX6_lay_16 : decode cX6_lay 16 = .ok (.iconst 0, 1) := by decide +kernel
theorem dX6_lay_17 : decode cX6_lay 17 = .ok (.goto 4, 3) := by decide +kernel
theorem dX6_lay_20 : decode cX6_lay 20 = .ok (.iload_n 3, 1) := by decide +kernel
theorem dX6_lay_21 : decode cX6_lay 21 = .ok (.iastore, 1) := by decide +kernel
theorem dX6_lay_22 : decode cX6_lay 22 = .ok (.iconst 0, 1) := by decide +kernel
theorem dX6_lay_23 : decode cX6_lay 23 = .ok (.istore 4, 2) := by decide +kernel
theorem dX6_lay_25 : decode cX6_lay 25 = .ok (.iload 4, 2) := by decide +kernel
theorem dX6_lay_27 : decode cX6_lay 27 = .ok (.aload_n 0, 1) := by decide +kernel
theorem dX6_lay_28 : decode cX6_lay 28 = .ok (.getfield 20, 3) := by decide +kernel
theorem dX6_lay_31 : decode cX6_lay 31 = .ok (.iload_n 1, 1) := by decide +kernel
theorem dX6_lay_32 : decode cX6_lay 32 = .ok (.iaload, 1) := by decide +kernel
theorem dX6_lay_33 : decode cX6_lay 33 = .ok (.if_icmp .ge 19, 3) := by decide +kernel
theorem dX6_lay_36 : decode cX6_lay 36 = .ok (.aload_n 0, 1) := by decide +kernel
theorem dX6_lay_37 : decode cX6_lay 37 = .ok (.getfield 11, 3) := by decide +kernel
theorem dX6_lay_40 : decode cX6_lay 40 = .ok (.iload_n 1, 1) := by decide +kernel
theorem dX6_lay_41 : decode cX6_lay 41 = .ok (.aaload, 1) := by decide +kernel
theorem dX6_lay_42 : decode cX6_lay 42 = .ok (.iload 4, 2) := by decide +kernel
theorem dX6_lay_44 : decode cX6_lay 44 = .ok (.lconst 0, 1) := by decide +kernel
theorem dX6_lay_45 : decode cX6_lay 45 = .ok (.lastore, 1) := by decide +kernel
theorem dX6_lay_46 : decode cX6_lay 46 = .ok (.iinc 4 1, 3) := by decide +kernel
theorem dX6_lay_49 : decode cX6_lay 49 = .ok (.goto (-24), 3) := by decide +kernel
theorem dX6_lay_52 : decode cX6_lay 52 = .ok (.return_, 1) := by decide +kernel
theorem dX6_hasPart_0 : decode cX6_hasPart 0 = .ok (.iload_n 2, 1) := by decide +kernel
theorem dX6_hasPart_1 : decode cX6_hasPart 1 = .ok (.ifCond .lt 33, 3) := by decide +kernel
theorem dX6_hasPart_4 : decode cX6_hasPart 4 = .ok (.iload_n 3, 1) := by decide +kernel
theorem dX6_hasPart_5 : decode cX6_hasPart 5 = .ok (.ifCond .lt 29, 3) := by decide +kernel
theorem dX6_hasPart_8 : decode cX6_hasPart 8 = .ok (.iload_n 2, 1) := by decide +kernel
theorem dX6_hasPart_9 : decode cX6_hasPart 9 = .ok (.aload_n 0, 1) := by decide +kernel
theorem dX6_hasPart_10 : decode cX6_hasPart 10 = .ok (.getfield 20, 3) := by decide +kernel
theorem dX6_hasPart_13 : decode cX6_hasPart 13 = .ok (.iload_n 1, 1) := by decide +kernel
theorem dX6_hasPart_14 : decode cX6_hasPart 14 = .ok (.iaload, 1) := by decide +kernel
theorem dX6_hasPart_15 : decode cX6_hasPart 15 = .ok (.if_icmp .gt 19, 3) := by decide +kernel
theorem dX6_hasPart_18 : decode cX6_hasPart 18 = .ok (.iload_n 3, 1) := by decide +kernel
theorem dX6_hasPart_19 : decode cX6_hasPart 19 = .ok (.aload_n 0, 1) := by decide +kernel
theorem dX6_hasPart_20 : decode cX6_hasPart 20 = .ok (.getfield 20, 3) := by decide +kernel
theorem dX6_hasPart_23 : decode cX6_hasPart 23 = .ok (.iload_n 1, 1) := by decide +kernel
theorem dX6_hasPart_24 : decode cX6_hasPart 24 = .ok (.iaload, 1) := by decide +kernel
theorem dX6_hasPart_25 : decode cX6_hasPart 25 = .ok (.iload_n 2, 1) := by decide +kernel
theorem dX6_hasPart_26 : decode cX6_hasPart 26 = .ok (.isub, 1) := by decide +kernel
theorem dX6_hasPart_27 : decode cX6_hasPart 27 = .ok (.if_icmp .gt 7, 3) := by decide +kernel
theorem dX6_hasPart_30 : decode cX6_hasPart 30 = .ok (.iconst 1, 1) := by decide +kernel
theorem dX6_hasPart_31 : decode cX6_hasPart 31 = .ok (.goto 4, 3) := by decide +kernel
theorem dX6_hasPart_34 : decode cX6_hasPart 34 = .ok (.iconst 0, 1) := by decide +kernel
theorem dX6_hasPart_35 : decode cX6_hasPart 35 = .ok (.ireturn, 1) := by decide +kernel
theorem dX7_init_0 : decode cX7_init 0 = .ok (.aload_n 0, 1) := by decide +kernel
theorem dX7_init_1 : decode cX7_init 1 = .ok (.invokespecial 3, 3) := by decide +kernel
theorem dX7_init_4 : decode cX7_init 4 = .ok (.aload_n 0, 1) := by decide +kernel
theorem dX7_init_5 : decode cX7_init 5 = .ok (.bipush 12, 2) := by decide +kernel
theorem dX7_init_7 : decode cX7_init 7 = .ok (.newarray .int, 2) := by decide +kernel
theorem dX7_init_9 : decode cX7_init 9 = .ok (.putfield 9, 3) := by decide +kernel
theorem dX7_init_12 : decode cX7_init 12 = .ok (.return_, 1) := by decide +kernel
theorem dX7_begin_0 : decode cX7_begin 0 = .ok (.aload_n 0, 1) := by decide +kernel
theorem dX7_begin_1 : decode cX7_begin 1 = .ok (.iload_n 1, 1) := by decide +kernel
theorem dX7_begin_2 : decode cX7_begin 2 = .ok (.putfield 15, 3) := by decide +kernel
theorem dX7_begin_5 : decode cX7_begin 5 = .ok (.aload_n 0, 1) := by decide +kernel
theorem dX7_begin_6 : decode cX7_begin 6 = .ok (.iconst 0, 1) := by decide +kernel
theorem dX7_begin_7 : decode cX7_begin 7 = .ok (.putfield 19, 3) := by decide +kernel
theorem dX7_begin_10 : decode cX7_begin 10 = .ok (.aload_n 0, 1) := by decide +kernel
theorem dX7_begin_11 : decode cX7_begin 11 = .ok (.iconst 0, 1) := by decide +kernel
theorem dX7_begin_12 : decode cX7_begin 12 = .ok (.putfield 22, 3) := by decide +kernel
theorem dX7_begin_15 : decode cX7_begin 15 = .ok (.return_, 1) := by decide +kernel
theorem dX7_add_0 : decode cX7_add 0 = .ok (.aload_n 0, 1) := by decide +kernel
theorem dX7_add_1 : decode cX7_add 1 = .ok (.getfield 19, 3) := by decide +kernel
theorem dX7_add_4 : decode cX7_add 4 = .ok (.bipush 12, 2) := by decide +kernel
theorem dX7_add_6 : decode cX7_add 6 = .ok (.if_icmp .ge 33, 3) := by decide +kernel
theorem dX7_add_9 : decode cX7_add 9 = .ok (.aload_n 0, 1) := by decide +kernel
theorem dX7_add_10 : decode cX7_add 10 = .ok (.getfield 9, 3) := by decide +kernel
theorem dX7_add_13 : decode cX7_add 13 = .ok (.aload_n 0, 1) := by decide +kernel
theorem dX7_add_14 : decode cX7_add 14 = .ok (.getfield 19, 3) := by decide +kernel
theorem dX7_add_17 : decode cX7_add 17 = .ok (.iload_n 1, 1) := by decide +kernel
theorem dX7_add_18 : decode cX7_add 18 = .ok (.iastore, 1) := by decide +kernel
theorem dX7_add_19 : decode cX7_add 19 = .ok (.aload_n 0, 1) := by decide +kernel
theorem dX7_add_20 : decode cX7_add 20 = .ok (.dup, 1) := by decide +kernel
theorem dX7_add_21 : decode cX7_add 21 = .ok (.getfield 22, 3) := by decide +kernel
theorem dX7_add_24 : decode cX7_add 24 = .ok (.iload_n 1, 1) := by decide +kernel
theorem dX7_add_25 : decode cX7_add 25 = .ok (.iadd, 1) := by decide +kernel
theorem dX7_add_26 : decode cX7_add 26 = .ok (.putfield 22, 3) := by decide +kernel
theorem dX7_add_29 : decode cX7_add 29 = .ok (.aload_n 0, 1) := by decide +kernel
theorem dX7_add_30 : decode cX7_add 30 = .ok (.dup, 1) := by decide +kernel
theorem dX7_add_31 : decode cX7_add 31 = .ok (.getfield 19, 3) := by decide +kernel
theorem dX7_add_34 : decode cX7_add 34 = .ok (.iconst 1, 1) := by decide +kernel
theorem dX7_add_35 : decode cX7_add 35 = .ok (.iadd, 1) := by decide +kernel
theorem dX7_add_36 : decode cX7_add 36 = .ok (.putfield 19, 3) := by decide +kernel
theorem dX7_add_39 : decode cX7_add 39 = .ok (.return_, 1) := by decide +kernel
theorem dX7_nobodyPays_0 : decode cX7_nobodyPays 0 = .ok (.aload_n 0, 1) := by decide +kernel
theorem dX7_nobodyPays_1 : decode cX7_nobodyPays 1 = .ok (.getfield 22, 3) := by decide +kernel
theorem dX7_nobodyPays_4 : decode cX7_nobodyPays 4 = .ok (.ifCond .gt 7, 3) := by decide +kernel
theorem dX7_nobodyPays_7 : decode cX7_nobodyPays 7 = .ok (.iconst 1, 1) := by decide +kernel
theorem dX7_nobodyPays_8 : decode cX7_nobodyPays 8 = .ok (.goto 4, 3) := by decide +kernel
theorem dX7_nobodyPays_11 : decode cX7_nobodyPays 11 = .ok (.iconst 0, 1) := by decide +kernel
theorem dX7_nobodyPays_12 : decode cX7_nobodyPays 12 = .ok (.ireturn, 1) := by decide +kernel
theorem dX7_pays_0 : decode cX7_pays 0 = .ok (.aload_n 0, 1) := by decide +kernel
theorem dX7_pays_1 : decode cX7_pays 1 = .ok (.getfield 22, 3) := by decide +kernel
theorem dX7_pays_4 : decode cX7_pays 4 = .ok (.ifCond .le 17, 3) := by decide +kernel
theorem dX7_pays_7 : decode cX7_pays 7 = .ok (.iload_n 1, 1) := by decide +kernel
theorem dX7_pays_8 : decode cX7_pays 8 = .ok (.iconst 0, 1) := by decide +kernel
theorem dX7_pays_9 : decode cX7_pays 9 = .ok (.aload_n 0, 1) := by decide +kernel
theorem dX7_pays_10 : decode cX7_pays 10 = .ok (.getfield 19, 3) := by decide +kernel
theorem dX7_pays_13 : decode cX7_pays 13 = .ok (.iconst 1, 1) := by decide +kernel
theorem dX7_pays_14 : decode cX7_pays 14 = .ok (.isub, 1) := by decide +kernel
theorem dX7_pays_15 : decode cX7_pays 15 = .ok (.invokestatic 25, 3) := by decide +kernel
theorem dX7_pays_18 : decode cX7_pays 18 = .ok (.ifCond .ne 5, 3) := by decide +kernel
theorem dX7_pays_21 : decode cX7_pays 21 = .ok (.iconst 0, 1) := by decide +kernel
theorem dX7_pays_22 : decode cX7_pays 22 = .ok (.ireturn, 1) := by decide +kernel
theorem dX7_pays_23 : decode cX7_pays 23 = .ok (.aload_n 0, 1) := by decide +kernel
theorem dX7_pays_24 : decode cX7_pays 24 = .ok (.getfield 15, 3) := by decide +kernel
theorem dX7_pays_27 : decode cX7_pays 27 = .ok (.istore_n 2, 1) := by decide +kernel
theorem dX7_pays_28 : decode cX7_pays 28 = .ok (.iconst 0, 1) := by decide +kernel
theorem dX7_pays_29 : decode cX7_pays 29 = .ok (.istore_n 3, 1) := by decide +kernel
theorem dX7_pays_30 : decode cX7_pays 30 = .ok (.aload_n 0, 1) := by decide +kernel
theorem dX7_pays_31 : decode cX7_pays 31 = .ok (.getfield 15, 3) := by decide +kernel
theorem dX7_pays_34 : decode cX7_pays 34 = .ok (.aload_n 0, 1) := by decide +kernel
theorem dX7_pays_35 : decode cX7_pays 35 = .ok (.getfield 9, 3) := by decide +kernel
theorem dX7_pays_38 : decode cX7_pays 38 = .ok (.iload_n 1, 1) := by decide +kernel
theorem dX7_pays_39 : decode cX7_pays 39 = .ok (.iaload, 1) := by decide +kernel
theorem dX7_pays_40 : decode cX7_pays 40 = .ok (.imul, 1) := by decide +kernel
theorem dX7_pays_41 : decode cX7_pays 41 = .ok (.aload_n 0, 1) := by decide +kernel
theorem dX7_pays_42 : decode cX7_pays 42 = .ok (.getfield 22, 3) := by decide +kernel
theorem dX7_pays_45 : decode cX7_pays 45 = .ok (.irem, 1) := by decide +kernel
theorem dX7_pays_46 : decode cX7_pays 46 = .ok (.istore 4, 2) := by decide +kernel
theorem dX7_pays_48 : decode cX7_pays 48 = .ok (.iconst 0, 1) := by decide +kernel
theorem dX7_pays_49 : decode cX7_pays 49 = .ok (.istore 5, 2) := by decide +kernel
theorem dX7_pays_51 : decode cX7_pays 51 = .ok (.iload 5, 2) := by decide +kernel
theorem dX7_pays_53 : decode cX7_pays 53 = .ok (.aload_n 0, 1) := by decide +kernel
theorem dX7_pays_54 : decode cX7_pays 54 = .ok (.getfield 19, 3) := by decide +kernel
theorem dX7_pays_57 : decode cX7_pays 57 = .ok (.if_icmp .ge 71, 3) := by decide +kernel
theorem dX7_pays_60 : decode cX7_pays 60 = .ok (.aload_n 0, 1) := by decide +kernel
theorem dX7_pays_61 : decode cX7_pays 61 = .ok (.getfield 15, 3) := by decide +kernel
theorem dX7_pays_64 : decode cX7_pays 64 = .ok (.aload_n 0, 1) := by decide +kernel
theorem dX7_pays_65 : decode cX7_pays 65 = .ok (.getfield 9, 3) := by decide +kernel
theorem dX7_pays_68 : decode cX7_pays 68 = .ok (.iload 5, 2) := by decide +kernel
theorem dX7_pays_70 : decode cX7_pays 70 = .ok (.iaload, 1) := by decide +kernel
theorem dX7_pays_71 : decode cX7_pays 71 = .ok (.imul, 1) := by decide +kernel
theorem dX7_pays_72 : decode cX7_pays 72 = .ok (.aload_n 0, 1) := by decide +kernel
theorem dX7_pays_73 : decode cX7_pays 73 = .ok (.getfield 22, 3) := by decide +kernel
theorem dX7_pays_76 : decode cX7_pays 76 = .ok (.irem, 1) := by decide +kernel
theorem dX7_pays_77 : decode cX7_pays 77 = .ok (.istore 6, 2) := by decide +kernel
theorem dX7_pays_79 : decode cX7_pays 79 = .ok (.iload_n 2, 1) := by decide +kernel
theorem dX7_pays_80 : decode cX7_pays 80 = .ok (.aload_n 0, 1) := by decide +kernel
theorem dX7_pays_81 : decode cX7_pays 81 = .ok (.getfield 15, 3) := by decide +kernel
theorem dX7_pays_84 : decode cX7_pays 84 = .ok (.aload_n 0, 1) := by decide +kernel
theorem dX7_pays_85 : decode cX7_pays 85 = .ok (.getfield 9, 3) := by decide +kernel
theorem dX7_pays_88 : decode cX7_pays 88 = .ok (.iload 5, 2) := by decide +kernel
theorem dX7_pays_90 : decode cX7_pays 90 = .ok (.iaload, 1) := by decide +kernel
theorem dX7_pays_91 : decode cX7_pays 91 = .ok (.imul, 1) := by decide +kernel
theorem dX7_pays_92 : decode cX7_pays 92 = .ok (.aload_n 0, 1) := by decide +kernel
theorem dX7_pays_93 : decode cX7_pays 93 = .ok (.getfield 22, 3) := by decide +kernel
theorem dX7_pays_96 : decode cX7_pays 96 = .ok (.idiv, 1) := by decide +kernel
theorem dX7_pays_97 : decode cX7_pays 97 = .ok (.isub, 1) := by decide +kernel
theorem dX7_pays_98 : decode cX7_pays 98 = .ok (.istore_n 2, 1) := by decide +kernel
theorem dX7_pays_99 : decode cX7_pays 99 = .ok (.iload 6, 2) := by decide +kernel
theorem dX7_pays_101 : decode cX7_pays 101 = .ok (.iload 4, 2) := by decide +kernel
theorem dX7_pays_103 : decode cX7_pays 103 = .ok (.if_icmp .gt 16, 3) := by decide +kernel
theorem dX7_pays_106 : decode cX7_pays 106 = .ok (.iload 6, 2) := by decide +kernel
theorem dX7_pays_108 : decode cX7_pays 108 = .ok (.iload 4, 2) := by decide +kernel
theorem dX7_pays_110 : decode cX7_pays 110 = .ok (.if_icmp .ne 12, 3) := by decide +kernel
theorem dX7_pays_113 : decode cX7_pays 113 = .ok (.iload 5, 2) := by decide +kernel
theorem dX7_pays_115 : decode cX7_pays 115 = .ok (.iload_n 1, 1) := by decide +kernel
theorem dX7_pays_116 : decode cX7_pays 116 = .ok (.if_icmp .ge 6, 3) := by decide +kernel
theorem dX7_pays_119 : decode cX7_pays 119 = .ok (.iinc 3 1, 3) := by decide +kernel
theorem dX7_pays_122 : decode cX7_pays 122 = .ok (.iinc 5 1, 3) := by decide +kernel
theorem dX7_pays_125 : decode cX7_pays 125 = .ok (.goto (-74), 3) := by decide +kernel
theorem dX7_pays_128 : decode cX7_pays 128 = .ok (.aload_n 0, 1) := by decide +kernel
theorem dX7_pays_129 : decode cX7_pays 129 = .ok (.getfield 15, 3) := by decide +kernel
theorem dX7_pays_132 : decode cX7_pays 132 = .ok (.aload_n 0, 1) := by decide +kernel
theorem dX7_pays_133 : decode cX7_pays 133 = .ok (.getfield 9, 3) := by decide +kernel
theorem dX7_pays_136 : decode cX7_pays 136 = .ok (.iload_n 1, 1) := by decide +kernel
theorem dX7_pays_137 : decode cX7_pays 137 = .ok (.iaload, 1) := by decide +kernel
theorem dX7_pays_138 : decode cX7_pays 138 = .ok (.imul, 1) := by decide +kernel
theorem dX7_pays_139 : decode cX7_pays 139 = .ok (.aload_n 0, 1) := by decide +kernel
theorem dX7_pays_140 : decode cX7_pays 140 = .ok (.getfield 22, 3) := by decide +kernel
theorem dX7_pays_143 : decode cX7_pays 143 = .ok (.idiv, 1) := by decide +kernel
theorem dX7_pays_144 : decode cX7_pays 144 = .ok (.iload_n 3, 1) := by decide +kernel
theorem dX7_pays_145 : decode cX7_pays 145 = .ok (.iload_n 2, 1) := by decide +kernel
theorem dX7_pays_146 : decode cX7_pays 146 = .ok (.if_icmp .ge 7, 3) := by decide +kernel
theorem dX7_pays_149 : decode cX7_pays 149 = .ok (.iconst 1, 1) := by decide +kernel
theorem dX7_pays_150 : decode cX7_pays 150 = .ok (.goto 4, 3) := by decide +kernel
theorem dX7_pays_153 : decode cX7_pays 153 = .ok (.iconst 0, 1) := by decide +kernel
theorem dX7_pays_154 : decode cX7_pays 154 = .ok (.invokestatic 29, 3) := by decide +kernel
theorem dX7_pays_157 : decode cX7_pays 157 = .ok (.iadd, 1) := by decide +kernel
theorem dX7_pays_158 : decode cX7_pays 158 = .ok (.ireturn, 1) := by decide +kernel
theorem dX8_init_0 : decode cX8_init 0 = .ok (.aload_n 0, 1) := by decide +kernel
theorem dX8_init_1 : decode cX8_init 1 = .ok (.invokespecial 1, 3) := by decide +kernel
theorem dX8_init_4 : decode cX8_init 4 = .ok (.aload_n 0, 1) := by decide +kernel
theorem dX8_init_5 : decode cX8_init 5 = .ok (.new 7, 3) := by decide +kernel
theorem dX8_init_8 : decode cX8_init 8 = .ok (.dup, 1) := by decide +kernel
theorem dX8_init_9 : decode cX8_init 9 = .ok (.invokespecial 9, 3) := by decide +kernel
theorem dX8_init_12 : decode cX8_init 12 = .ok (.putfield 10, 3) := by decide +kernel
theorem dX8_init_15 : decode cX8_init 15 = .ok (.aload_n 0, 1) := by decide +kernel
theorem dX8_init_16 : decode cX8_init 16 = .ok (.new 16, 3) := by decide +kernel
theorem dX8_init_19 : decode cX8_init 19 = .ok (.dup, 1) := by decide +kernel
theorem dX8_init_20 : decode cX8_init 20 = .ok (.invokespecial 18, 3) := by decide +kernel
theorem dX8_init_23 : decode cX8_init 23 = .ok (.putfield 19, 3) := by decide +kernel
theorem dX8_init_26 : decode cX8_init 26 = .ok (.aload_n 0, 1) := by decide +kernel
theorem dX8_init_27 : decode cX8_init 27 = .ok (.new 23, 3) := by decide +kernel
theorem dX8_init_30 : decode cX8_init 30 = .ok (.dup, 1) := by decide +kernel
theorem dX8_init_31 : decode cX8_init 31 = .ok (.invokespecial 25, 3) := by decide +kernel
theorem dX8_init_34 : decode cX8_init 34 = .ok (.putfield 26, 3) := by decide +kernel
theorem dX8_init_37 : decode cX8_init 37 = .ok (.return_, 1) := by decide +kernel
theorem dX8_become_0 : decode cX8_become 0 = .ok (.aload_n 0, 1) := by decide +kernel
theorem dX8_become_1 : decode cX8_become 1 = .ok (.getfield 10, 3) := by decide +kernel
theorem dX8_become_4 : decode cX8_become 4 = .ok (.aload_n 1, 1) := by decide +kernel
theorem dX8_become_5 : decode cX8_become 5 = .ok (.getfield 10, 3) := by decide +kernel
theorem dX8_become_8 : decode cX8_become 8 = .ok (.invokevirtual 30, 3) := by decide +kernel
theorem dX8_become_11 : decode cX8_become 11 = .ok (.aload_n 0, 1) := by decide +kernel
theorem dX8_become_12 : decode cX8_become 12 = .ok (.getfield 19, 3) := by decide +kernel
theorem dX8_become_15 : decode cX8_become 15 = .ok (.aload_n 1, 1) := by decide +kernel
theorem dX8_become_16 : decode cX8_become 16 = .ok (.getfield 19, 3) := by decide +kernel
theorem dX8_become_19 : decode cX8_become 19 = .ok (.invokevirtual 34, 3) := by decide +kernel
theorem dX8_become_22 : decode cX8_become 22 = .ok (.aload_n 0, 1) := by decide +kernel
theorem dX8_become_23 : decode cX8_become 23 = .ok (.getfield 26, 3) := by decide +kernel
theorem dX8_become_26 : decode cX8_become 26 = .ok (.aload_n 1, 1) := by decide +kernel
theorem dX8_become_27 : decode cX8_become 27 = .ok (.getfield 26, 3) := by decide +kernel
theorem dX8_become_30 : decode cX8_become 30 = .ok (.invokevirtual 37, 3) := by decide +kernel
theorem dX8_become_33 : decode cX8_become 33 = .ok (.return_, 1) := by decide +kernel
theorem dX9_init_0 : decode cX9_init 0 = .ok (.aload_n 0, 1) := by decide +kernel
theorem dX9_init_1 : decode cX9_init 1 = .ok (.invokespecial 3, 3) := by decide +kernel
theorem dX9_init_4 : decode cX9_init 4 = .ok (.aload_n 0, 1) := by decide +kernel
theorem dX9_init_5 : decode cX9_init 5 = .ok (.bipush 80, 2) := by decide +kernel
theorem dX9_init_7 : decode cX9_init 7 = .ok (.newarray .int, 2) := by decide +kernel
theorem dX9_init_9 : decode cX9_init 9 = .ok (.putfield 9, 3) := by decide +kernel
theorem dX9_init_12 : decode cX9_init 12 = .ok (.aload_n 0, 1) := by decide +kernel
theorem dX9_init_13 : decode cX9_init 13 = .ok (.iconst 0, 1) := by decide +kernel
theorem dX9_init_14 : decode cX9_init 14 = .ok (.putfield 15, 3) := by decide +kernel
theorem dX9_init_17 : decode cX9_init 17 = .ok (.return_, 1) := by decide +kernel
theorem dX9_append_0 : decode cX9_append 0 = .ok (.aload_n 0, 1) := by decide +kernel
theorem dX9_append_1 : decode cX9_append 1 = .ok (.getfield 15, 3) := by decide +kernel
theorem dX9_append_4 : decode cX9_append 4 = .ok (.bipush 80, 2) := by decide +kernel
theorem dX9_append_6 : decode cX9_append 6 = .ok (.if_icmp .ge 23, 3) := by decide +kernel
theorem dX9_append_9 : decode cX9_append 9 = .ok (.aload_n 0, 1) := by decide +kernel
theorem dX9_append_10 : decode cX9_append 10 = .ok (.getfield 9, 3) := by decide +kernel
theorem dX9_append_13 : decode cX9_append 13 = .ok (.aload_n 0, 1) := by decide +kernel
theorem dX9_append_14 : decode cX9_append 14 = .ok (.getfield 15, 3) := by decide +kernel
theorem dX9_append_17 : decode cX9_append 17 = .ok (.iload_n 1, 1) := by decide +kernel
theorem dX9_append_18 : decode cX9_append 18 = .ok (.iastore, 1) := by decide +kernel
theorem dX9_append_19 : decode cX9_append 19 = .ok (.aload_n 0, 1) := by decide +kernel
theorem dX9_append_20 : decode cX9_append 20 = .ok (.dup, 1) := by decide +kernel
theorem dX9_append_21 : decode cX9_append 21 = .ok (.getfield 15, 3) := by decide +kernel
theorem dX9_append_24 : decode cX9_append 24 = .ok (.iconst 1, 1) := by decide +kernel
theorem dX9_append_25 : decode cX9_append 25 = .ok (.iadd, 1) := by decide +kernel
theorem dX9_append_26 : decode cX9_append 26 = .ok (.putfield 15, 3) := by decide +kernel
theorem dX9_append_29 : decode cX9_append 29 = .ok (.return_, 1) := by decide +kernel
theorem dX9_become_0 : decode cX9_become 0 = .ok (.iconst 0, 1) := by decide +kernel
theorem dX9_become_1 : decode cX9_become 1 = .ok (.istore_n 2, 1) := by decide +kernel
theorem dX9_become_2 : decode cX9_become 2 = .ok (.iload_n 2, 1) := by decide +kernel
theorem dX9_become_3 : decode cX9_become 3 = .ok (.aload_n 1, 1) := by decide +kernel
theorem dX9_become_4 : decode cX9_become 4 = .ok (.getfield 15, 3) := by decide +kernel
theorem dX9_become_7 : decode cX9_become 7 = .ok (.if_icmp .ge 21, 3) := by decide +kernel
theorem dX9_become_10 : decode cX9_become 10 = .ok (.aload_n 0, 1) := by decide +kernel
theorem dX9_become_11 : decode cX9_become 11 = .ok (.getfield 9, 3) := by decide +kernel
theorem dX9_become_14 : decode cX9_become 14 = .ok (.iload_n 2, 1) := by decide +kernel
theorem dX9_become_15 : decode cX9_become 15 = .ok (.aload_n 1, 1) := by decide +kernel
theorem dX9_become_16 : decode cX9_become 16 = .ok (.getfield 9, 3) := by decide +kernel
theorem dX9_become_19 : decode cX9_become 19 = .ok (.iload_n 2, 1) := by decide +kernel
theorem dX9_become_20 : decode cX9_become 20 = .ok (.iaload, 1) := by decide +kernel
theorem dX9_become_21 : decode cX9_become 21 = .ok (.iastore, 1) := by decide +kernel
theorem dX9_become_22 : decode cX9_become 22 = .ok (.iinc 2 1, 3) := by decide +kernel
theorem dX9_become_25 : decode cX9_become 25 = .ok (.goto (-23), 3) := by decide +kernel
theorem dX9_become_28 : decode cX9_become 28 = .ok (.aload_n 0, 1) := by decide +kernel
theorem dX9_become_29 : decode cX9_become 29 = .ok (.aload_n 1, 1) := by decide +kernel
theorem dX9_become_30 : decode cX9_become 30 = .ok (.getfield 15, 3) := by decide +kernel
theorem dX9_become_33 : decode cX9_become 33 = .ok (.putfield 15, 3) := by decide +kernel
theorem dX9_become_36 : decode cX9_become 36 = .ok (.return_, 1) := by decide +kernel
theorem dX10_init_0 : decode cX10_init 0 = .ok (.aload_n 0, 1) := by decide +kernel
theorem dX10_init_1 : decode cX10_init 1 = .ok (.invokespecial 1, 3) := by decide +kernel
theorem dX10_init_4 : decode cX10_init 4 = .ok (.aload_n 0, 1) := by decide +kernel
theorem dX10_init_5 : decode cX10_init 5 = .ok (.new 7, 3) := by decide +kernel
theorem dX10_init_8 : decode cX10_init 8 = .ok (.dup, 1) := by decide +kernel
theorem dX10_init_9 : decode cX10_init 9 = .ok (.invokespecial 9, 3) := by decide +kernel
theorem dX10_init_12 : decode cX10_init 12 = .ok (.putfield 10, 3) := by decide +kernel
theorem dX10_init_15 : decode cX10_init 15 = .ok (.aload_n 0, 1) := by decide +kernel
theorem dX10_init_16 : decode cX10_init 16 = .ok (.new 7, 3) := by decide +kernel
theorem dX10_init_19 : decode cX10_init 19 = .ok (.dup, 1) := by decide +kernel
theorem dX10_init_20 : decode cX10_init 20 = .ok (.invokespecial 9, 3) := by decide +kernel
theorem dX10_init_23 : decode cX10_init 23 = .ok (.putfield 16, 3) := by decide +kernel
theorem dX10_init_26 : decode cX10_init 26 = .ok (.aload_n 0, 1) := by decide +kernel
theorem dX10_init_27 : decode cX10_init 27 = .ok (.iconst 0, 1) := by decide +kernel
theorem dX10_init_28 : decode cX10_init 28 = .ok (.putfield 19, 3) := by decide +kernel
theorem dX10_init_31 : decode cX10_init 31 = .ok (.aload_n 0, 1) := by decide +kernel
theorem dX10_init_32 : decode cX10_init 32 = .ok (.aload_n 0, 1) := by decide +kernel
theorem dX10_init_33 : decode cX10_init 33 = .ok (.getfield 10, 3) := by decide +kernel
theorem dX10_init_36 : decode cX10_init 36 = .ok (.getfield 23, 3) := by decide +kernel
theorem dX10_init_39 : decode cX10_init 39 = .ok (.putfield 27, 3) := by decide +kernel
theorem dX10_init_42 : decode cX10_init 42 = .ok (.aload_n 0, 1) := by decide +kernel
theorem dX10_init_43 : decode cX10_init 43 = .ok (.aload_n 0, 1) := by decide +kernel
theorem dX10_init_44 : decode cX10_init 44 = .ok (.getfield 10, 3) := by decide +kernel
theorem dX10_init_47 : decode cX10_init 47 = .ok (.getfield 28, 3) := by decide +kernel
theorem dX10_init_50 : decode cX10_init 50 = .ok (.putfield 32, 3) := by decide +kernel
theorem dX10_init_53 : decode cX10_init 53 = .ok (.aload_n 0, 1) := by decide +kernel
theorem dX10_init_54 : decode cX10_init 54 = .ok (.aload_n 0, 1) := by decide +kernel
theorem dX10_init_55 : decode cX10_init 55 = .ok (.getfield 10, 3) := by decide +kernel
theorem dX10_init_58 : decode cX10_init 58 = .ok (.getfield 33, 3) := by decide +kernel
theorem dX10_init_61 : decode cX10_init 61 = .ok (.putfield 37, 3) := by decide +kernel
theorem dX10_init_64 : decode cX10_init 64 = .ok (.aload_n 0, 1) := by decide +kernel
theorem dX10_init_65 : decode cX10_init 65 = .ok (.new 38, 3) := by decide +kernel
theorem dX10_init_68 : decode cX10_init 68 = .ok (.dup, 1) := by decide +kernel
theorem dX10_init_69 : decode cX10_init 69 = .ok (.invokespecial 40, 3) := by decide +kernel
theorem dX10_init_72 : decode cX10_init 72 = .ok (.putfield 41, 3) := by decide +kernel
theorem dX10_init_75 : decode cX10_init 75 = .ok (.aload_n 0, 1) := by decide +kernel
theorem dX10_init_76 : decode cX10_init 76 = .ok (.new 44, 3) := by decide +kernel
theorem dX10_init_79 : decode cX10_init 79 = .ok (.dup, 1) := by decide +kernel
theorem dX10_init_80 : decode cX10_init 80 = .ok (.aload_n 0, 1) := by decide +kernel
theorem dX10_init_81 : decode cX10_init 81 = .ok (.getfield 37, 3) := by decide +kernel
theorem dX10_init_84 : decode cX10_init 84 = .ok (.invokespecial 46, 3) := by decide +kernel
theorem dX10_init_87 : decode cX10_init 87 = .ok (.putfield 49, 3) := by decide +kernel
theorem dX10_init_90 : decode cX10_init 90 = .ok (.aload_n 0, 1) := by decide +kernel
theorem dX10_init_91 : decode cX10_init 91 = .ok (.new 44, 3) := by decide +kernel
theorem dX10_init_94 : decode cX10_init 94 = .ok (.dup, 1) := by decide +kernel
theorem dX10_init_95 : decode cX10_init 95 = .ok (.aload_n 0, 1) := by decide +kernel
theorem dX10_init_96 : decode cX10_init 96 = .ok (.getfield 41, 3) := by decide +kernel
theorem dX10_init_99 : decode cX10_init 99 = .ok (.invokespecial 46, 3) := by decide +kernel
theorem dX10_init_102 : decode cX10_init 102 = .ok (.putfield 53, 3) := by decide +kernel
theorem dX10_init_105 : decode cX10_init 105 = .ok (.aload_n 0, 1) := by decide +kernel
theorem dX10_init_106 : decode cX10_init 106 = .ok (.new 56, 3) := by decide +kernel
theorem dX10_init_109 : decode cX10_init 109 = .ok (.dup, 1) := by decide +kernel
theorem dX10_init_110 : decode cX10_init 110 = .ok (.invokespecial 58, 3) := by decide +kernel
theorem dX10_init_113 : decode cX10_init 113 = .ok (.putfield 59, 3) := by decide +kernel
theorem dX10_init_116 : decode cX10_init 116 = .ok (.aload_n 0, 1) := by decide +kernel
theorem dX10_init_117 : decode cX10_init 117 = .ok (.new 63, 3) := by decide +kernel
theorem dX10_init_120 : decode cX10_init 120 = .ok (.dup, 1) := by decide +kernel
theorem dX10_init_121 : decode cX10_init 121 = .ok (.invokespecial 65, 3) := by decide +kernel
theorem dX10_init_124 : decode cX10_init 124 = .ok (.putfield 66, 3) := by decide +kernel
theorem dX10_init_127 : decode cX10_init 127 = .ok (.aload_n 0, 1) := by decide +kernel
theorem dX10_init_128 : decode cX10_init 128 = .ok (.new 70, 3) := by decide +kernel
theorem dX10_init_131 : decode cX10_init 131 = .ok (.dup, 1) := by decide +kernel
theorem dX10_init_132 : decode cX10_init 132 = .ok (.aload_n 0, 1) := by decide +kernel
theorem dX10_init_133 : decode cX10_init 133 = .ok (.getfield 27, 3) := by decide +kernel
theorem dX10_init_136 : decode cX10_init 136 = .ok (.aload_n 0, 1) := by decide +kernel
theorem dX10_init_137 : decode cX10_init 137 = .ok (.getfield 66, 3) := by decide +kernel
theorem dX10_init_140 : decode cX10_init 140 = .ok (.invokespecial 72, 3) := by decide +kernel
theorem dX10_init_143 : decode cX10_init 143 = .ok (.putfield 75, 3) := by decide +kernel
theorem dX10_init_146 : decode cX10_init 146 = .ok (.aload_n 0, 1) := by decide +kernel
theorem dX10_init_147 : decode cX10_init 147 = .ok (.new 79, 3) := by decide +kernel
theorem dX10_init_150 : decode cX10_init 150 = .ok (.dup, 1) := by decide +kernel
theorem dX10_init_151 : decode cX10_init 151 = .ok (.invokespecial 81, 3) := by decide +kernel
theorem dX10_init_154 : decode cX10_init 154 = .ok (.putfield 82, 3) := by decide +kernel
theorem dX10_init_157 : decode cX10_init 157 = .ok (.aload_n 0, 1) := by decide +kernel
theorem dX10_init_158 : decode cX10_init 158 = .ok (.bipush 7, 2) := by decide +kernel
theorem dX10_init_160 : decode cX10_init 160 = .ok (.newarray .int, 2) := by decide +kernel
theorem dX10_init_162 : decode cX10_init 162 = .ok (.putfield 86, 3) := by decide +kernel
theorem dX10_init_165 : decode cX10_init 165 = .ok (.return_, 1) := by decide +kernel
theorem dX10_flat_0 : decode cX10_flat 0 = .ok (.iload_n 1, 1) := by decide +kernel
theorem dX10_flat_1 : decode cX10_flat 1 = .ok (.iconst 0, 1) := by decide +kernel
theorem dX10_flat_2 : decode cX10_flat 2 = .ok (.iconst 5, 1) := by decide +kernel
theorem dX10_flat_3 : decode cX10_flat 3 = .ok (.invokestatic 90, 3) := by decide +kernel
theorem dX10_flat_6 : decode cX10_flat 6 = .ok (.ifCond .eq 22, 3) := by decide +kernel
theorem dX10_flat_9 : decode cX10_flat 9 = .ok (.iload_n 2, 1) := by decide +kernel
theorem dX10_flat_10 : decode cX10_flat 10 = .ok (.iconst 0, 1) := by decide +kernel
theorem dX10_flat_11 : decode cX10_flat 11 = .ok (.iconst 3, 1) := by decide +kernel
theorem dX10_flat_12 : decode cX10_flat 12 = .ok (.invokestatic 90, 3) := by decide +kernel
theorem dX10_flat_15 : decode cX10_flat 15 = .ok (.ifCond .eq 13, 3) := by decide +kernel
theorem dX10_flat_18 : decode cX10_flat 18 = .ok (.iload_n 3, 1) := by decide +kernel
theorem dX10_flat_19 : decode cX10_flat 19 = .ok (.iconst 1, 1) := by decide +kernel
theorem dX10_flat_20 : decode cX10_flat 20 = .ok (.bipush 99, 2) := by decide +kernel
theorem dX10_flat_22 : decode cX10_flat 22 = .ok (.invokestatic 90, 3) := by decide +kernel
theorem dX10_flat_25 : decode cX10_flat 25 = .ok (.ifCond .ne 10, 3) := by decide +kernel
theorem dX10_flat_28 : decode cX10_flat 28 = .ok (.aload_n 0, 1) := by decide +kernel
theorem dX10_flat_29 : decode cX10_flat 29 = .ok (.ldc 94, 2) := by decide +kernel
theorem dX10_flat_31 : decode cX10_flat 31 = .ok (.invokevirtual 95, 3) := by decide +kernel
theorem dX10_flat_34 : decode cX10_flat 34 = .ok (.ireturn, 1) := by decide +kernel
theorem dX10_flat_35 : decode cX10_flat 35 = .ok (.aload_n 0, 1) := by decide +kernel
theorem dX10_flat_36 : decode cX10_flat 36 = .ok (.getfield 27, 3) := by decide +kernel
theorem dX10_flat_39 : decode cX10_flat 39 = .ok (.getfield 99, 3) := by decide +kernel
theorem dX10_flat_42 : decode cX10_flat 42 = .ok (.bipush 12, 2) := by decide +kernel
theorem dX10_flat_44 : decode cX10_flat 44 = .ok (.if_icmp .lt 10, 3) := by decide +kernel
theorem dX10_flat_47 : decode cX10_flat 47 = .ok (.aload_n 0, 1) := by decide +kernel
theorem dX10_flat_48 : decode cX10_flat 48 = .ok (.ldc 105, 2) := by decide +kernel
theorem dX10_flat_50 : decode cX10_flat 50 = .ok (.invokevirtual 95, 3) := by decide +kernel
theorem dX10_flat_53 : decode cX10_flat 53 = .ok (.ireturn, 1) := by decide +kernel
theorem dX10_flat_54 : decode cX10_flat 54 = .ok (.aload_n 0, 1) := by decide +kernel
theorem dX10_flat_55 : decode cX10_flat 55 = .ok (.getfield 27, 3) := by decide +kernel
theorem dX10_flat_58 : decode cX10_flat 58 = .ok (.iload_n 1, 1) := by decide +kernel
theorem dX10_flat_59 : decode cX10_flat 59 = .ok (.iload_n 2, 1) := by decide +kernel
theorem dX10_flat_60 : decode cX10_flat 60 = .ok (.iload_n 3, 1) := by decide +kernel
theorem dX10_flat_61 : decode cX10_flat 61 = .ok (.invokevirtual 106, 3) := by decide +kernel
theorem dX10_flat_64 : decode cX10_flat 64 = .ok (.ireturn, 1) := by decide +kernel
theorem dX10_of_0 : decode cX10_of 0 = .ok (.aload_n 0, 1) := by decide +kernel
theorem dX10_of_1 : decode cX10_of 1 = .ok (.getfield 27, 3) := by decide +kernel
theorem dX10_of_4 : decode cX10_of 4 = .ok (.iload_n 1, 1) := by decide +kernel
theorem dX10_of_5 : decode cX10_of 5 = .ok (.invokevirtual 110, 3) := by decide +kernel
theorem dX10_of_8 : decode cX10_of 8 = .ok (.ifCond .ne 10, 3) := by decide +kernel
theorem dX10_of_11 : decode cX10_of 11 = .ok (.aload_n 0, 1) := by decide +kernel
theorem dX10_of_12 : decode cX10_of 12 = .ok (.ldc 94, 2) := by decide +kernel
theorem dX10_of_14 : decode cX10_of 14 = .ok (.invokevirtual 95, 3) := by decide +kernel
theorem dX10_of_17 : decode cX10_of 17 = .ok (.ireturn, 1) := by decide +kernel
theorem dX10_of_18 : decode cX10_of 18 = .ok (.aload_n 0, 1) := by decide +kernel
theorem dX10_of_19 : decode cX10_of 19 = .ok (.getfield 27, 3) := by decide +kernel
theorem dX10_of_22 : decode cX10_of 22 = .ok (.getfield 114, 3) := by decide +kernel
theorem dX10_of_25 : decode cX10_of 25 = .ok (.iload_n 1, 1) := by decide +kernel
theorem dX10_of_26 : decode cX10_of 26 = .ok (.aaload, 1) := by decide +kernel
theorem dX10_of_27 : decode cX10_of 27 = .ok (.astore_n 3, 1) := by decide +kernel
theorem dX10_of_28 : decode cX10_of 28 = .ok (.iload_n 2, 1) := by decide +kernel
theorem dX10_of_29 : decode cX10_of 29 = .ok (.tableswitch 168 0 14 #[75, 80, 85, 90, 95, 100, 108, 116, 121, 130, 139, 148, 153, 158, 163], 75) := by decide +kernel
theorem dX10_of_104 : decode cX10_of 104 = .ok (.aload_n 3, 1) := by decide +kernel
theorem dX10_of_105 : decode cX10_of 105 = .ok (.getfield 118, 3) := by decide +kernel
theorem dX10_of_108 : decode cX10_of 108 = .ok (.ireturn, 1) := by decide +kernel
theorem dX10_of_109 : decode cX10_of 109 = .ok (.aload_n 3, 1) := by decide +kernel
theorem dX10_of_110 : decode cX10_of 110 = .ok (.getfield 123, 3) := by decide +kernel
theorem dX10_of_113 : decode cX10_of 113 = .ok (.ireturn, 1) := by decide +kernel
theorem dX10_of_114 : decode cX10_of 114 = .ok (.aload_n 3, 1) := by decide +kernel
theorem dX10_of_115 : decode cX10_of 115 = .ok (.getfield 126, 3) := by decide +kernel
theorem dX10_of_118 : decode cX10_of 118 = .ok (.ireturn, 1) := by decide +kernel
theorem dX10_of_119 : decode cX10_of 119 = .ok (.aload_n 3, 1) := by decide +kernel
theorem dX10_of_120 : decode cX10_of 120 = .ok (.getfield 129, 3) := by decide +kernel
theorem dX10_of_123 : decode cX10_of 123 = .ok (.ireturn, 1) := by decide +kernel
theorem dX10_of_124 : decode cX10_of 124 = .ok (.aload_n 3, 1) := by decide +kernel
theorem dX10_of_125 : decode cX10_of 125 = .ok (.getfield 132, 3) := by decide +kernel
theorem dX10_of_128 : decode cX10_of 128 = .ok (.ireturn, 1) := by decide +kernel
theorem dX10_of_129 : decode cX10_of 129 = .ok (.aload_n 3, 1) := by decide +kernel
theorem dX10_of_130 : decode cX10_of 130 = .ok (.getfield 135, 3) := by decide +kernel
theorem dX10_of_133 : decode cX10_of 133 = .ok (.invokestatic 138, 3) := by decide +kernel
theorem dX10_of_136 : decode cX10_of 136 = .ok (.ireturn, 1) := by decide +kernel
theorem dX10_of_137 : decode cX10_of 137 = .ok (.aload_n 3, 1) := by decide +kernel
theorem dX10_of_138 : decode cX10_of 138 = .ok (.getfield 142, 3) := by decide +kernel
theorem dX10_of_141 : decode cX10_of 141 = .ok (.invokestatic 138, 3) := by decide +kernel
theorem dX10_of_144 : decode cX10_of 144 = .ok (.ireturn, 1) := by decide +kernel
theorem dX10_of_145 : decode cX10_of 145 = .ok (.aload_n 3, 1) := by decide +kernel
theorem dX10_of_146 : decode cX10_of 146 = .ok (.getfield 145, 3) := by decide +kernel
theorem dX10_of_149 : decode cX10_of 149 = .ok (.ireturn, 1) := by decide +kernel
theorem dX10_of_150 : decode cX10_of 150 = .ok (.aload_n 3, 1) := by decide +kernel
theorem dX10_of_151 : decode cX10_of 151 = .ok (.aload_n 3, 1) := by decide +kernel
theorem dX10_of_152 : decode cX10_of 152 = .ok (.getfield 129, 3) := by decide +kernel
theorem dX10_of_155 : decode cX10_of 155 = .ok (.invokevirtual 148, 3) := by decide +kernel
theorem dX10_of_158 : decode cX10_of 158 = .ok (.ireturn, 1) := by decide +kernel
theorem dX10_of_159 : decode cX10_of 159 = .ok (.aload_n 3, 1) := by decide +kernel
theorem dX10_of_160 : decode cX10_of 160 = .ok (.aload_n 3, 1) := by decide +kernel
theorem dX10_of_161 : decode cX10_of 161 = .ok (.getfield 132, 3) := by decide +kernel
theorem dX10_of_164 : decode cX10_of 164 = .ok (.invokevirtual 151, 3) := by decide +kernel
theorem dX10_of_167 : decode cX10_of 167 = .ok (.ireturn, 1) := by decide +kernel
theorem dX10_of_168 : decode cX10_of 168 = .ok (.aload_n 0, 1) := by decide +kernel
theorem dX10_of_169 : decode cX10_of 169 = .ok (.getfield 27, 3) := by decide +kernel
theorem dX10_of_172 : decode cX10_of 172 = .ok (.iload_n 1, 1) := by decide +kernel
theorem dX10_of_173 : decode cX10_of 173 = .ok (.invokevirtual 154, 3) := by decide +kernel
theorem dX10_of_176 : decode cX10_of 176 = .ok (.ireturn, 1) := by decide +kernel
theorem dX10_of_177 : decode cX10_of 177 = .ok (.aload_n 3, 1) := by decide +kernel
theorem dX10_of_178 : decode cX10_of 178 = .ok (.getfield 157, 3) := by decide +kernel
theorem dX10_of_181 : decode cX10_of 181 = .ok (.ireturn, 1) := by decide +kernel
theorem dX10_of_182 : decode cX10_of 182 = .ok (.aload_n 3, 1) := by decide +kernel
theorem dX10_of_183 : decode cX10_of 183 = .ok (.getfield 160, 3) := by decide +kernel
theorem dX10_of_186 : decode cX10_of 186 = .ok (.ireturn, 1) := by decide +kernel
theorem dX10_of_187 : decode cX10_of 187 = .ok (.aload_n 3, 1) := by decide +kernel
theorem dX10_of_188 : decode cX10_of 188 = .ok (.getfield 163, 3) := by decide +kernel
theorem dX10_of_191 : decode cX10_of 191 = .ok (.ireturn, 1) := by decide +kernel
theorem dX10_of_192 : decode cX10_of 192 = .ok (.aload_n 3, 1) := by decide +kernel
theorem dX10_of_193 : decode cX10_of 193 = .ok (.getfield 166, 3) := by decide +kernel
theorem dX10_of_196 : decode cX10_of 196 = .ok (.ireturn, 1) := by decide +kernel
theorem dX10_of_197 : decode cX10_of 197 = .ok (.aload_n 0, 1) := by decide +kernel
theorem dX10_of_198 : decode cX10_of 198 = .ok (.ldc 94, 2) := by decide +kernel
theorem dX10_of_200 : decode cX10_of 200 = .ok (.invokevirtual 95, 3) := by decide +kernel
theorem dX10_of_203 : decode cX10_of 203 = .ok (.ireturn, 1) := by decide +kernel
theorem dX10_as_0 : decode cX10_as 0 = .ok (.aload_n 0, 1) := by decide +kernel
theorem dX10_as_1 : decode cX10_as 1 = .ok (.getfield 27, 3) := by decide +kernel
theorem dX10_as_4 : decode cX10_as 4 = .ok (.iload_n 1, 1) := by decide +kernel
theorem dX10_as_5 : decode cX10_as 5 = .ok (.invokevirtual 110, 3) := by decide +kernel
theorem dX10_as_8 : decode cX10_as 8 = .ok (.ifCond .eq 12, 3) := by decide +kernel
theorem dX10_as_11 : decode cX10_as 11 = .ok (.iload_n 2, 1) := by decide +kernel
theorem dX10_as_12 : decode cX10_as 12 = .ok (.iconst 0, 1) := by decide +kernel
theorem dX10_as_13 : decode cX10_as 13 = .ok (.iconst 5, 1) := by decide +kernel
theorem dX10_as_14 : decode cX10_as 14 = .ok (.invokestatic 90, 3) := by decide +kernel
theorem dX10_as_17 : decode cX10_as 17 = .ok (.ifCond .ne 10, 3) := by decide +kernel
theorem dX10_as_20 : decode cX10_as 20 = .ok (.aload_n 0, 1) := by decide +kernel
theorem dX10_as_21 : decode cX10_as 21 = .ok (.ldc 94, 2) := by decide +kernel
theorem dX10_as_23 : decode cX10_as 23 = .ok (.invokevirtual 95, 3) := by decide +kernel
theorem dX10_as_26 : decode cX10_as 26 = .ok (.ireturn, 1) := by decide +kernel
theorem dX10_as_27 : decode cX10_as 27 = .ok (.aload_n 0, 1) := by decide +kernel
theorem dX10_as_28 : decode cX10_as 28 = .ok (.getfield 27, 3) := by decide +kernel
theorem dX10_as_31 : decode cX10_as 31 = .ok (.getfield 114, 3) := by decide +kernel
theorem dX10_as_34 : decode cX10_as 34 = .ok (.iload_n 1, 1) := by decide +kernel
theorem dX10_as_35 : decode cX10_as 35 = .ok (.aaload, 1) := by decide +kernel
theorem dX10_as_36 : decode cX10_as 36 = .ok (.astore_n 3, 1) := by decide +kernel
theorem dX10_as_37 : decode cX10_as 37 = .ok (.aload_n 3, 1) := by decide +kernel
theorem dX10_as_38 : decode cX10_as 38 = .ok (.getfield 118, 3) := by decide +kernel
theorem dX10_as_41 : decode cX10_as 41 = .ok (.iload_n 2, 1) := by decide +kernel
theorem dX10_as_42 : decode cX10_as 42 = .ok (.invokestatic 169, 3) := by decide +kernel
theorem dX10_as_45 : decode cX10_as 45 = .ok (.ifCond .ne 10, 3) := by decide +kernel
theorem dX10_as_48 : decode cX10_as 48 = .ok (.aload_n 0, 1) := by decide +kernel
theorem dX10_as_49 : decode cX10_as 49 = .ok (.ldc 173, 2) := by decide +kernel
theorem dX10_as_51 : decode cX10_as 51 = .ok (.invokevirtual 95, 3) := by decide +kernel
theorem dX10_as_54 : decode cX10_as 54 = .ok (.ireturn, 1) := by decide +kernel
theorem dX10_as_55 : decode cX10_as 55 = .ok (.aload_n 3, 1) := by decide +kernel
theorem dX10_as_56 : decode cX10_as 56 = .ok (.aload_n 3, 1) := by decide +kernel
theorem dX10_as_57 : decode cX10_as 57 = .ok (.getfield 129, 3) := by decide +kernel
theorem dX10_as_60 : decode cX10_as 60 = .ok (.invokevirtual 148, 3) := by decide +kernel
theorem dX10_as_63 : decode cX10_as 63 = .ok (.ireturn, 1) := by decide +kernel
theorem dX10_set_0 : decode cX10_set 0 = .ok (.iload_n 1, 1) := by decide +kernel
theorem dX10_set_1 : decode cX10_set 1 = .ok (.ifCond .ne 34, 3) := by decide +kernel
theorem dX10_set_4 : decode cX10_set 4 = .ok (.iload_n 2, 1) := by decide +kernel
theorem dX10_set_5 : decode cX10_set 5 = .ok (.sipush (-300), 3) := by decide +kernel
theorem dX10_set_8 : decode cX10_set 8 = .ok (.sipush 400, 3) := by decide +kernel
theorem dX10_set_11 : decode cX10_set 11 = .ok (.invokestatic 90, 3) := by decide +kernel
theorem dX10_set_14 : decode cX10_set 14 = .ok (.ifCond .eq 21, 3) := by decide +kernel
theorem dX10_set_17 : decode cX10_set 17 = .ok (.aload_n 0, 1) := by decide +kernel
theorem dX10_set_18 : decode cX10_set 18 = .ok (.getfield 27, 3) := by decide +kernel
theorem dX10_set_21 : decode cX10_set 21 = .ok (.getfield 174, 3) := by decide +kernel
theorem dX10_set_24 : decode cX10_set 24 = .ok (.istore_n 3, 1) := by decide +kernel
theorem dX10_set_25 : decode cX10_set 25 = .ok (.aload_n 0, 1) := by decide +kernel
theorem dX10_set_26 : decode cX10_set 26 = .ok (.getfield 27, 3) := by decide +kernel
theorem dX10_set_29 : decode cX10_set 29 = .ok (.iload_n 2, 1) := by decide +kernel
theorem dX10_set_30 : decode cX10_set 30 = .ok (.putfield 174, 3) := by decide +kernel
theorem dX10_set_33 : decode cX10_set 33 = .ok (.iload_n 3, 1) := by decide +kernel
theorem dX10_set_34 : decode cX10_set 34 = .ok (.ireturn, 1) := by decide +kernel
theorem dX10_set_35 : decode cX10_set 35 = .ok (.iload_n 1, 1) := by decide +kernel
theorem dX10_set_36 : decode cX10_set 36 = .ok (.iconst 1, 1) := by decide +kernel
theorem dX10_set_37 : decode cX10_set 37 = .ok (.if_icmp .ne 32, 3) := by decide +kernel
theorem dX10_set_40 : decode cX10_set 40 = .ok (.iload_n 2, 1) := by decide +kernel
theorem dX10_set_41 : decode cX10_set 41 = .ok (.iconst 0, 1) := by decide +kernel
theorem dX10_set_42 : decode cX10_set 42 = .ok (.sipush 999, 3) := by decide +kernel
theorem dX10_set_45 : decode cX10_set 45 = .ok (.invokestatic 90, 3) := by decide +kernel
theorem dX10_set_48 : decode cX10_set 48 = .ok (.ifCond .eq 21, 3) := by decide +kernel
theorem dX10_set_51 : decode cX10_set 51 = .ok (.aload_n 0, 1) := by decide +kernel
theorem dX10_set_52 : decode cX10_set 52 = .ok (.getfield 27, 3) := by decide +kernel
theorem dX10_set_55 : decode cX10_set 55 = .ok (.getfield 177, 3) := by decide +kernel
theorem dX10_set_58 : decode cX10_set 58 = .ok (.istore_n 3, 1) := by decide +kernel
theorem dX10_set_59 : decode cX10_set 59 = .ok (.aload_n 0, 1) := by decide +kernel
theorem dX10_set_60 : decode cX10_set 60 = .ok (.getfield 27, 3) := by decide +kernel
theorem dX10_set_63 : decode cX10_set 63 = .ok (.iload_n 2, 1) := by decide +kernel
theorem dX10_set_64 : decode cX10_set 64 = .ok (.putfield 177, 3) := by decide +kernel
theorem dX10_set_67 : decode cX10_set 67 = .ok (.iload_n 3, 1) := by decide +kernel
theorem dX10_set_68 : decode cX10_set 68 = .ok (.ireturn, 1) := by decide +kernel
theorem dX10_set_69 : decode cX10_set 69 = .ok (.iload_n 1, 1) := by decide +kernel
theorem dX10_set_70 : decode cX10_set 70 = .ok (.iconst 2, 1) := by decide +kernel
theorem dX10_set_71 : decode cX10_set 71 = .ok (.if_icmp .ne 32, 3) := by decide +kernel
theorem dX10_set_74 : decode cX10_set 74 = .ok (.iload_n 2, 1) := by decide +kernel
theorem dX10_set_75 : decode cX10_set 75 = .ok (.iconst 0, 1) := by decide +kernel
theorem dX10_set_76 : decode cX10_set 76 = .ok (.sipush 900, 3) := by decide +kernel
theorem dX10_set_79 : decode cX10_set 79 = .ok (.invokestatic 90, 3) := by decide +kernel
theorem dX10_set_82 : decode cX10_set 82 = .ok (.ifCond .eq 21, 3) := by decide +kernel
theorem dX10_set_85 : decode cX10_set 85 = .ok (.aload_n 0, 1) := by decide +kernel
theorem dX10_set_86 : decode cX10_set 86 = .ok (.getfield 27, 3) := by decide +kernel
theorem dX10_set_89 : decode cX10_set 89 = .ok (.getfield 180, 3) := by decide +kernel
theorem dX10_set_92 : decode cX10_set 92 = .ok (.istore_n 3, 1) := by decide +kernel
theorem dX10_set_93 : decode cX10_set 93 = .ok (.aload_n 0, 1) := by decide +kernel
theorem dX10_set_94 : decode cX10_set 94 = .ok (.getfield 27, 3) := by decide +kernel
theorem dX10_set_97 : decode cX10_set 97 = .ok (.iload_n 2, 1) := by decide +kernel
theorem dX10_set_98 : decode cX10_set 98 = .ok (.putfield 180, 3) := by decide +kernel
theorem dX10_set_101 : decode cX10_set 101 = .ok (.iload_n 3, 1) := by decide +kernel
theorem dX10_set_102 : decode cX10_set 102 = .ok (.ireturn, 1) := by decide +kernel
theorem dX10_set_103 : decode cX10_set 103 = .ok (.aload_n 0, 1) := by decide +kernel
theorem dX10_set_104 : decode cX10_set 104 = .ok (.ldc 94, 2) := by decide +kernel
theorem dX10_set_106 : decode cX10_set 106 = .ok (.invokevirtual 95, 3) := by decide +kernel
theorem dX10_set_109 : decode cX10_set 109 = .ok (.ireturn, 1) := by decide +kernel
theorem dX10_turn_0 : decode cX10_turn 0 = .ok (.aload_n 0, 1) := by decide +kernel
theorem dX10_turn_1 : decode cX10_turn 1 = .ok (.getfield 27, 3) := by decide +kernel
theorem dX10_turn_4 : decode cX10_turn 4 = .ok (.iload_n 1, 1) := by decide +kernel
theorem dX10_turn_5 : decode cX10_turn 5 = .ok (.invokevirtual 110, 3) := by decide +kernel
theorem dX10_turn_8 : decode cX10_turn 8 = .ok (.ifCond .eq 13, 3) := by decide +kernel
theorem dX10_turn_11 : decode cX10_turn 11 = .ok (.iload_n 2, 1) := by decide +kernel
theorem dX10_turn_12 : decode cX10_turn 12 = .ok (.iconst 0, 1) := by decide +kernel
theorem dX10_turn_13 : decode cX10_turn 13 = .ok (.bipush 8, 2) := by decide +kernel
theorem dX10_turn_15 : decode cX10_turn 15 = .ok (.invokestatic 90, 3) := by decide +kernel
theorem dX10_turn_18 : decode cX10_turn 18 = .ok (.ifCond .ne 10, 3) := by decide +kernel
theorem dX10_turn_21 : decode cX10_turn 21 = .ok (.aload_n 0, 1) := by decide +kernel
theorem dX10_turn_22 : decode cX10_turn 22 = .ok (.ldc 94, 2) := by decide +kernel
theorem dX10_turn_24 : decode cX10_turn 24 = .ok (.invokevirtual 95, 3) := by decide +kernel
theorem dX10_turn_27 : decode cX10_turn 27 = .ok (.ireturn, 1) := by decide +kernel
theorem dX10_turn_28 : decode cX10_turn 28 = .ok (.aload_n 0, 1) := by decide +kernel
theorem dX10_turn_29 : decode cX10_turn 29 = .ok (.getfield 27, 3) := by decide +kernel
theorem dX10_turn_32 : decode cX10_turn 32 = .ok (.getfield 114, 3) := by decide +kernel
theorem dX10_turn_35 : decode cX10_turn 35 = .ok (.iload_n 1, 1) := by decide +kernel
theorem dX10_turn_36 : decode cX10_turn 36 = .ok (.aaload, 1) := by decide +kernel
theorem dX10_turn_37 : decode cX10_turn 37 = .ok (.astore_n 3, 1) := by decide +kernel
theorem dX10_turn_38 : decode cX10_turn 38 = .ok (.aload_n 3, 1) := by decide +kernel
theorem dX10_turn_39 : decode cX10_turn 39 = .ok (.getfield 135, 3) := by decide +kernel
theorem dX10_turn_42 : decode cX10_turn 42 = .ok (.ifCond .eq 10, 3) := by decide +kernel
theorem dX10_turn_45 : decode cX10_turn 45 = .ok (.aload_n 0, 1) := by decide +kernel
theorem dX10_turn_46 : decode cX10_turn 46 = .ok (.ldc 183, 2) := by decide +kernel
theorem dX10_turn_48 : decode cX10_turn 48 = .ok (.invokevirtual 95, 3) := by decide +kernel
theorem dX10_turn_51 : decode cX10_turn 51 = .ok (.ireturn, 1) := by decide +kernel
theorem dX10_turn_52 : decode cX10_turn 52 = .ok (.aload_n 3, 1) := by decide +kernel
theorem dX10_turn_53 : decode cX10_turn 53 = .ok (.getfield 132, 3) := by decide +kernel
theorem dX10_turn_56 : decode cX10_turn 56 = .ok (.istore 4, 2) := by decide +kernel
theorem dX10_turn_58 : decode cX10_turn 58 = .ok (.aload_n 3, 1) := by decide +kernel
theorem dX10_turn_59 : decode cX10_turn 59 = .ok (.iload_n 2, 1) := by decide +kernel
theorem dX10_turn_60 : decode cX10_turn 60 = .ok (.putfield 132, 3) := by decide +kernel
theorem dX10_turn_63 : decode cX10_turn 63 = .ok (.iload 4, 2) := by decide +kernel
theorem dX10_turn_65 : decode cX10_turn 65 = .ok (.ireturn, 1) := by decide +kernel
theorem dX10_hold_0 : decode cX10_hold 0 = .ok (.aload_n 0, 1) := by decide +kernel
theorem dX10_hold_1 : decode cX10_hold 1 = .ok (.getfield 27, 3) := by decide +kernel
theorem dX10_hold_4 : decode cX10_hold 4 = .ok (.iload_n 1, 1) := by decide +kernel
theorem dX10_hold_5 : decode cX10_hold 5 = .ok (.invokevirtual 110, 3) := by decide +kernel
theorem dX10_hold_8 : decode cX10_hold 8 = .ok (.ifCond .ne 10, 3) := by decide +kernel
theorem dX10_hold_11 : decode cX10_hold 11 = .ok (.aload_n 0, 1) := by decide +kernel
theorem dX10_hold_12 : decode cX10_hold 12 = .ok (.ldc 94, 2) := by decide +kernel
theorem dX10_hold_14 : decode cX10_hold 14 = .ok (.invokevirtual 95, 3) := by decide +kernel
theorem dX10_hold_17 : decode cX10_hold 17 = .ok (.ireturn, 1) := by decide +kernel
theorem dX10_hold_18 : decode cX10_hold 18 = .ok (.aload_n 0, 1) := by decide +kernel
theorem dX10_hold_19 : decode cX10_hold 19 = .ok (.getfield 27, 3) := by decide +kernel
theorem dX10_hold_22 : decode cX10_hold 22 = .ok (.getfield 114, 3) := by decide +kernel
theorem dX10_hold_25 : decode cX10_hold 25 = .ok (.iload_n 1, 1) := by decide +kernel
theorem dX10_hold_26 : decode cX10_hold 26 = .ok (.aaload, 1) := by decide +kernel
theorem dX10_hold_27 : decode cX10_hold 27 = .ok (.astore_n 3, 1) := by decide +kernel
theorem dX10_hold_28 : decode cX10_hold 28 = .ok (.aload_n 3, 1) := by decide +kernel
theorem dX10_hold_29 : decode cX10_hold 29 = .ok (.getfield 135, 3) := by decide +kernel
theorem dX10_hold_32 : decode cX10_hold 32 = .ok (.istore 4, 2) := by decide +kernel
theorem dX10_hold_34 : decode cX10_hold 34 = .ok (.aload_n 3, 1) := by decide +kernel
theorem dX10_hold_35 : decode cX10_hold 35 = .ok (.iload_n 2, 1) := by decide +kernel
theorem dX10_hold_36 : decode cX10_hold 36 = .ok (.putfield 135, 3) := by decide +kernel
theorem dX10_hold_39 : decode cX10_hold 39 = .ok (.iload 4, 2) := by decide +kernel
theorem dX10_hold_41 : decode cX10_hold 41 = .ok (.invokestatic 138, 3) := by decide +kernel
theorem dX10_hold_44 : decode cX10_hold 44 = .ok (.ireturn, 1) := by decide +kernel
theorem dX10_window_0 : decode cX10_window 0 = .ok (.aload_n 0, 1) := by decide +kernel
theorem dX10_window_1 : decode cX10_window 1 = .ok (.getfield 27, 3) := by decide +kernel
theorem dX10_window_4 : decode cX10_window 4 = .ok (.iload_n 1, 1) := by decide +kernel
theorem dX10_window_5 : decode cX10_window 5 = .ok (.invokevirtual 110, 3) := by decide +kernel
theorem dX10_window_8 : decode cX10_window 8 = .ok (.ifCond .ne 10, 3) := by decide +kernel
theorem dX10_window_11 : decode cX10_window 11 = .ok (.aload_n 0, 1) := by decide +kernel
theorem dX10_window_12 : decode cX10_window 12 = .ok (.ldc 94, 2) := by decide +kernel
theorem dX10_window_14 : decode cX10_window 14 = .ok (.invokevirtual 95, 3) := by decide +kernel
theorem dX10_window_17 : decode cX10_window 17 = .ok (.ireturn, 1) := by decide +kernel
theorem dX10_window_18 : decode cX10_window 18 = .ok (.aload_n 0, 1) := by decide +kernel
theorem dX10_window_19 : decode cX10_window 19 = .ok (.getfield 27, 3) := by decide +kernel
theorem dX10_window_22 : decode cX10_window 22 = .ok (.getfield 114, 3) := by decide +kernel
theorem dX10_window_25 : decode cX10_window 25 = .ok (.iload_n 1, 1) := by decide +kernel
theorem dX10_window_26 : decode cX10_window 26 = .ok (.aaload, 1) := by decide +kernel
theorem dX10_window_27 : decode cX10_window 27 = .ok (.astore_n 3, 1) := by decide +kernel
theorem dX10_window_28 : decode cX10_window 28 = .ok (.aload_n 3, 1) := by decide +kernel
theorem dX10_window_29 : decode cX10_window 29 = .ok (.getfield 142, 3) := by decide +kernel
theorem dX10_window_32 : decode cX10_window 32 = .ok (.istore 4, 2) := by decide +kernel
theorem dX10_window_34 : decode cX10_window 34 = .ok (.aload_n 3, 1) := by decide +kernel
theorem dX10_window_35 : decode cX10_window 35 = .ok (.iload_n 2, 1) := by decide +kernel
theorem dX10_window_36 : decode cX10_window 36 = .ok (.putfield 142, 3) := by decide +kernel
theorem dX10_window_39 : decode cX10_window 39 = .ok (.iload 4, 2) := by decide +kernel
theorem dX10_window_41 : decode cX10_window 41 = .ok (.invokestatic 138, 3) := by decide +kernel
theorem dX10_window_44 : decode cX10_window 44 = .ok (.ireturn, 1) := by decide +kernel
theorem dX10_drift_0 : decode cX10_drift 0 = .ok (.aload_n 0, 1) := by decide +kernel
theorem dX10_drift_1 : decode cX10_drift 1 = .ok (.getfield 27, 3) := by decide +kernel
theorem dX10_drift_4 : decode cX10_drift 4 = .ok (.iload_n 1, 1) := by decide +kernel
theorem dX10_drift_5 : decode cX10_drift 5 = .ok (.invokevirtual 110, 3) := by decide +kernel
theorem dX10_drift_8 : decode cX10_drift 8 = .ok (.ifCond .eq 14, 3) := by decide +kernel
theorem dX10_drift_11 : decode cX10_drift 11 = .ok (.iload_n 2, 1) := by decide +kernel
theorem dX10_drift_12 : decode cX10_drift 12 = .ok (.iconst 0, 1) := by decide +kernel
theorem dX10_drift_13 : decode cX10_drift 13 = .ok (.sipush 200, 3) := by decide +kernel
theorem dX10_drift_16 : decode cX10_drift 16 = .ok (.invokestatic 90, 3) := by decide +kernel
theorem dX10_drift_19 : decode cX10_drift 19 = .ok (.ifCond .ne 10, 3) := by decide +kernel
theorem dX10_drift_22 : decode cX10_drift 22 = .ok (.aload_n 0, 1) := by decide +kernel
theorem dX10_drift_23 : decode cX10_drift 23 = .ok (.ldc 94, 2) := by decide +kernel
theorem dX10_drift_25 : decode cX10_drift 25 = .ok (.invokevirtual 95, 3) := by decide +kernel
theorem dX10_drift_28 : decode cX10_drift 28 = .ok (.ireturn, 1) := by decide +kernel
theorem dX10_drift_29 : decode cX10_drift 29 = .ok (.aload_n 0, 1) := by decide +kernel
theorem dX10_drift_30 : decode cX10_drift 30 = .ok (.getfield 27, 3) := by decide +kernel
theorem dX10_drift_33 : decode cX10_drift 33 = .ok (.getfield 114, 3) := by decide +kernel
theorem dX10_drift_36 : decode cX10_drift 36 = .ok (.iload_n 1, 1) := by decide +kernel
theorem dX10_drift_37 : decode cX10_drift 37 = .ok (.aaload, 1) := by decide +kernel
theorem dX10_drift_38 : decode cX10_drift 38 = .ok (.astore_n 3, 1) := by decide +kernel
theorem dX10_drift_39 : decode cX10_drift 39 = .ok (.aload_n 3, 1) := by decide +kernel
theorem dX10_drift_40 : decode cX10_drift 40 = .ok (.getfield 166, 3) := by decide +kernel
theorem dX10_drift_43 : decode cX10_drift 43 = .ok (.istore 4, 2) := by decide +kernel
theorem dX10_drift_45 : decode cX10_drift 45 = .ok (.aload_n 3, 1) := by decide +kernel
theorem dX10_drift_46 : decode cX10_drift 46 = .ok (.iload_n 2, 1) := by decide +kernel
theorem dX10_drift_47 : decode cX10_drift 47 = .ok (.putfield 166, 3) := by decide +kernel
theorem dX10_drift_50 : decode cX10_drift 50 = .ok (.iload 4, 2) := by decide +kernel
theorem dX10_drift_52 : decode cX10_drift 52 = .ok (.ireturn, 1) := by decide +kernel
theorem dX10_hours_0 : decode cX10_hours 0 = .ok (.iload_n 1, 1) := by decide +kernel
theorem dX10_hours_1 : decode cX10_hours 1 = .ok (.iconst 1, 1) := by decide +kernel
theorem dX10_hours_2 : decode cX10_hours 2 = .ok (.bipush 100, 2) := by decide +kernel
theorem dX10_hours_4 : decode cX10_hours 4 = .ok (.invokestatic 90, 3) := by decide +kernel
theorem dX10_hours_7 : decode cX10_hours 7 = .ok (.ifCond .ne 10, 3) := by decide +kernel
theorem dX10_hours_10 : decode cX10_hours 10 = .ok (.aload_n 0, 1) := by decide +kernel
theorem dX10_hours_11 : decode cX10_hours 11 = .ok (.ldc 94, 2) := by decide +kernel
theorem dX10_hours_13 : decode cX10_hours 13 = .ok (.invokevirtual 95, 3) := by decide +kernel
theorem dX10_hours_16 : decode cX10_hours 16 = .ok (.ireturn, 1) := by decide +kernel
theorem dX10_hours_17 : decode cX10_hours 17 = .ok (.aload_n 0, 1) := by decide +kernel
theorem dX10_hours_18 : decode cX10_hours 18 = .ok (.getfield 27, 3) := by decide +kernel
theorem dX10_hours_21 : decode cX10_hours 21 = .ok (.getfield 184, 3) := by decide +kernel
theorem dX10_hours_24 : decode cX10_hours 24 = .ok (.iload_n 1, 1) := by decide +kernel
theorem dX10_hours_25 : decode cX10_hours 25 = .ok (.iadd, 1) := by decide +kernel
theorem dX10_hours_26 : decode cX10_hours 26 = .ok (.sipush 2000, 3) := by decide +kernel
theorem dX10_hours_29 : decode cX10_hours 29 = .ok (.if_icmp .le 10, 3) := by decide +kernel
theorem dX10_hours_32 : decode cX10_hours 32 = .ok (.aload_n 0, 1) := by decide +kernel
theorem dX10_hours_33 : decode cX10_hours 33 = .ok (.ldc 183, 2) := by decide +kernel
theorem dX10_hours_35 : decode cX10_hours 35 = .ok (.invokevirtual 95, 3) := by decide +kernel
theorem dX10_hours_38 : decode cX10_hours 38 = .ok (.ireturn, 1) := by decide +kernel
theorem dX10_hours_39 : decode cX10_hours 39 = .ok (.aload_n 0, 1) := by decide +kernel
theorem dX10_hours_40 : decode cX10_hours 40 = .ok (.getfield 66, 3) := by decide +kernel
theorem dX10_hours_43 : decode cX10_hours 43 = .ok (.aload_n 0, 1) := by decide +kernel
theorem dX10_hours_44 : decode cX10_hours 44 = .ok (.getfield 27, 3) := by decide +kernel
theorem dX10_hours_47 : decode cX10_hours 47 = .ok (.invokevirtual 187, 3) := by decide +kernel
theorem dX10_hours_50 : decode cX10_hours 50 = .ok (.iconst 0, 1) := by decide +kernel
theorem dX10_hours_51 : decode cX10_hours 51 = .ok (.istore_n 2, 1) := by decide +kernel
theorem dX10_hours_52 : decode cX10_hours 52 = .ok (.iload_n 2, 1) := by decide +kernel
theorem dX10_hours_53 : decode cX10_hours 53 = .ok (.iload_n 1, 1) := by decide +kernel
theorem dX10_hours_54 : decode cX10_hours 54 = .ok (.if_icmp .ge 20, 3) := by decide +kernel
theorem dX10_hours_57 : decode cX10_hours 57 = .ok (.aload_n 0, 1) := by decide +kernel
theorem dX10_hours_58 : decode cX10_hours 58 = .ok (.getfield 27, 3) := by decide +kernel
theorem dX10_hours_61 : decode cX10_hours 61 = .ok (.aload_n 0, 1) := by decide +kernel
theorem dX10_hours_62 : decode cX10_hours 62 = .ok (.getfield 66, 3) := by decide +kernel
theorem dX10_hours_65 : decode cX10_hours 65 = .ok (.invokevirtual 191, 3) := by decide +kernel
theorem dX10_hours_68 : decode cX10_hours 68 = .ok (.iinc 2 1, 3) := by decide +kernel
theorem dX10_hours_71 : decode cX10_hours 71 = .ok (.goto (-19), 3) := by decide +kernel
theorem dX10_hours_74 : decode cX10_hours 74 = .ok (.aload_n 0, 1) := by decide +kernel
theorem dX10_hours_75 : decode cX10_hours 75 = .ok (.getfield 27, 3) := by decide +kernel
theorem dX10_hours_78 : decode cX10_hours 78 = .ok (.getfield 184, 3) := by decide +kernel
theorem dX10_hours_81 : decode cX10_hours 81 = .ok (.ireturn, 1) := by decide +kernel
theorem dX10_riser_0 : decode cX10_riser 0 = .ok (.iload_n 1, 1) := by decide +kernel
theorem dX10_riser_1 : decode cX10_riser 1 = .ok (.iconst 0, 1) := by decide +kernel
theorem dX10_riser_2 : decode cX10_riser 2 = .ok (.iconst 3, 1) := by decide +kernel
theorem dX10_riser_3 : decode cX10_riser 3 = .ok (.invokestatic 90, 3) := by decide +kernel
theorem dX10_riser_6 : decode cX10_riser 6 = .ok (.ifCond .ne 10, 3) := by decide +kernel
theorem dX10_riser_9 : decode cX10_riser 9 = .ok (.aload_n 0, 1) := by decide +kernel
theorem dX10_riser_10 : decode cX10_riser 10 = .ok (.ldc 94, 2) := by decide +kernel
theorem dX10_riser_12 : decode cX10_riser 12 = .ok (.invokevirtual 95, 3) := by decide +kernel
theorem dX10_riser_15 : decode cX10_riser 15 = .ok (.ireturn, 1) := by decide +kernel
theorem dX10_riser_16 : decode cX10_riser 16 = .ok (.iconst 0, 1) := by decide +kernel
theorem dX10_riser_17 : decode cX10_riser 17 = .ok (.istore_n 2, 1) := by decide +kernel
theorem dX10_riser_18 : decode cX10_riser 18 = .ok (.iconst 0, 1) := by decide +kernel
theorem dX10_riser_19 : decode cX10_riser 19 = .ok (.istore_n 3, 1) := by decide +kernel
theorem dX10_riser_20 : decode cX10_riser 20 = .ok (.iload_n 3, 1) := by decide +kernel
theorem dX10_riser_21 : decode cX10_riser 21 = .ok (.aload_n 0, 1) := by decide +kernel
theorem dX10_riser_22 : decode cX10_riser 22 = .ok (.getfield 27, 3) := by decide +kernel
theorem dX10_riser_25 : decode cX10_riser 25 = .ok (.getfield 99, 3) := by decide +kernel
theorem dX10_riser_28 : decode cX10_riser 28 = .ok (.if_icmp .ge 31, 3) := by decide +kernel
theorem dX10_riser_31 : decode cX10_riser 31 = .ok (.aload_n 0, 1) := by decide +kernel
theorem dX10_riser_32 : decode cX10_riser 32 = .ok (.getfield 27, 3) := by decide +kernel
theorem dX10_riser_35 : decode cX10_riser 35 = .ok (.getfield 114, 3) := by decide +kernel
theorem dX10_riser_38 : decode cX10_riser 38 = .ok (.iload_n 3, 1) := by decide +kernel
theorem dX10_riser_39 : decode cX10_riser 39 = .ok (.aaload, 1) := by decide +kernel
theorem dX10_riser_40 : decode cX10_riser 40 = .ok (.getfield 123, 3) := by decide +kernel
theorem dX10_riser_43 : decode cX10_riser 43 = .ok (.iload_n 1, 1) := by decide +kernel
theorem dX10_riser_44 : decode cX10_riser 44 = .ok (.if_icmp .ne 9, 3) := by decide +kernel
theorem dX10_riser_47 : decode cX10_riser 47 = .ok (.iload_n 2, 1) := by decide +kernel
theorem dX10_riser_48 : decode cX10_riser 48 = .ok (.iconst 1, 1) := by decide +kernel
theorem dX10_riser_49 : decode cX10_riser 49 = .ok (.iload_n 3, 1) := by decide +kernel
theorem dX10_riser_50 : decode cX10_riser 50 = .ok (.ishl, 1) := by decide +kernel
theorem dX10_riser_51 : decode cX10_riser 51 = .ok (.ior, 1) := by decide +kernel
theorem dX10_riser_52 : decode cX10_riser 52 = .ok (.istore_n 2, 1) := by decide +kernel
theorem dX10_riser_53 : decode cX10_riser 53 = .ok (.iinc 3 1, 3) := by decide +kernel
theorem dX10_riser_56 : decode cX10_riser 56 = .ok (.goto (-36), 3) := by decide +kernel
theorem dX10_riser_59 : decode cX10_riser 59 = .ok (.iload_n 2, 1) := by decide +kernel
theorem dX10_riser_60 : decode cX10_riser 60 = .ok (.ireturn, 1) := by decide +kernel
theorem dX10_feed_0 : decode cX10_feed 0 = .ok (.iload_n 2, 1) := by decide +kernel
theorem dX10_feed_1 : decode cX10_feed 1 = .ok (.iconst 1, 1) := by decide +kernel
theorem dX10_feed_2 : decode cX10_feed 2 = .ok (.iconst 4, 1) := by decide +kernel
theorem dX10_feed_3 : decode cX10_feed 3 = .ok (.invokestatic 90, 3) := by decide +kernel
theorem dX10_feed_6 : decode cX10_feed 6 = .ok (.ifCond .ne 10, 3) := by decide +kernel
theorem dX10_feed_9 : decode cX10_feed 9 = .ok (.aload_n 0, 1) := by decide +kernel
theorem dX10_feed_10 : decode cX10_feed 10 = .ok (.ldc 94, 2) := by decide +kernel
theorem dX10_feed_12 : decode cX10_feed 12 = .ok (.invokevirtual 95, 3) := by decide +kernel
theorem dX10_feed_15 : decode cX10_feed 15 = .ok (.ireturn, 1) := by decide +kernel
theorem dX10_feed_16 : decode cX10_feed 16 = .ok (.aload_n 0, 1) := by decide +kernel
theorem dX10_feed_17 : decode cX10_feed 17 = .ok (.getfield 41, 3) := by decide +kernel
theorem dX10_feed_20 : decode cX10_feed 20 = .ok (.getfield 195, 3) := by decide +kernel
theorem dX10_feed_23 : decode cX10_feed 23 = .ok (.iload_n 2, 1) := by decide +kernel
theorem dX10_feed_24 : decode cX10_feed 24 = .ok (.iadd, 1) := by decide +kernel
theorem dX10_feed_25 : decode cX10_feed 25 = .ok (.bipush 80, 2) := by decide +kernel
theorem dX10_feed_27 : decode cX10_feed 27 = .ok (.if_icmp .le 10, 3) := by decide +kernel
theorem dX10_feed_30 : decode cX10_feed 30 = .ok (.aload_n 0, 1) := by decide +kernel
theorem dX10_feed_31 : decode cX10_feed 31 = .ok (.ldc 105, 2) := by decide +kernel
theorem dX10_feed_33 : decode cX10_feed 33 = .ok (.invokevirtual 95, 3) := by decide +kernel
theorem dX10_feed_36 : decode cX10_feed 36 = .ok (.ireturn, 1) := by decide +kernel
theorem dX10_feed_37 : decode cX10_feed 37 = .ok (.iload_n 2, 1) := by decide +kernel
theorem dX10_feed_38 : decode cX10_feed 38 = .ok (.iconst 1, 1) := by decide +kernel
theorem dX10_feed_39 : decode cX10_feed 39 = .ok (.isub, 1) := by decide +kernel
theorem dX10_feed_40 : decode cX10_feed 40 = .ok (.istore_n 3, 1) := by decide +kernel
theorem dX10_feed_41 : decode cX10_feed 41 = .ok (.iload_n 3, 1) := by decide +kernel
theorem dX10_feed_42 : decode cX10_feed 42 = .ok (.ifCond .lt 26, 3) := by decide +kernel
theorem dX10_feed_45 : decode cX10_feed 45 = .ok (.aload_n 0, 1) := by decide +kernel
theorem dX10_feed_46 : decode cX10_feed 46 = .ok (.getfield 41, 3) := by decide +kernel
theorem dX10_feed_49 : decode cX10_feed 49 = .ok (.iload_n 1, 1) := by decide +kernel
theorem dX10_feed_50 : decode cX10_feed 50 = .ok (.bipush 8, 2) := by decide +kernel
theorem dX10_feed_52 : decode cX10_feed 52 = .ok (.iload_n 3, 1) := by decide +kernel
theorem dX10_feed_53 : decode cX10_feed 53 = .ok (.imul, 1) := by decide +kernel
theorem dX10_feed_54 : decode cX10_feed 54 = .ok (.iushr, 1) := by decide +kernel
theorem dX10_feed_55 : decode cX10_feed 55 = .ok (.sipush 255, 3) := by decide +kernel
theorem dX10_feed_58 : decode cX10_feed 58 = .ok (.iand, 1) := by decide +kernel
theorem dX10_feed_59 : decode cX10_feed 59 = .ok (.invokevirtual 196, 3) := by decide +kernel
theorem dX10_feed_62 : decode cX10_feed 62 = .ok (.iinc 3 (-1), 3) := by decide +kernel
theorem dX10_feed_65 : decode cX10_feed 65 = .ok (.goto (-24), 3) := by decide +kernel
theorem dX10_feed_68 : decode cX10_feed 68 = .ok (.aload_n 0, 1) := by decide +kernel
theorem dX10_feed_69 : decode cX10_feed 69 = .ok (.getfield 41, 3) := by decide +kernel
theorem dX10_feed_72 : decode cX10_feed 72 = .ok (.getfield 195, 3) := by decide +kernel
theorem dX10_feed_75 : decode cX10_feed 75 = .ok (.ireturn, 1) := by decide +kernel
theorem dX10_wipe_0 : decode cX10_wipe 0 = .ok (.aload_n 0, 1) := by decide +kernel
theorem dX10_wipe_1 : decode cX10_wipe 1 = .ok (.getfield 41, 3) := by decide +kernel
theorem dX10_wipe_4 : decode cX10_wipe 4 = .ok (.getfield 195, 3) := by decide +kernel
theorem dX10_wipe_7 : decode cX10_wipe 7 = .ok (.istore_n 1, 1) := by decide +kernel
theorem dX10_wipe_8 : decode cX10_wipe 8 = .ok (.aload_n 0, 1) := by decide +kernel
theorem dX10_wipe_9 : decode cX10_wipe 9 = .ok (.getfield 41, 3) := by decide +kernel
theorem dX10_wipe_12 : decode cX10_wipe 12 = .ok (.iconst 0, 1) := by decide +kernel
theorem dX10_wipe_13 : decode cX10_wipe 13 = .ok (.putfield 195, 3) := by decide +kernel
theorem dX10_wipe_16 : decode cX10_wipe 16 = .ok (.iload_n 1, 1) := by decide +kernel
theorem dX10_wipe_17 : decode cX10_wipe 17 = .ok (.ireturn, 1) := by decide +kernel
theorem dX10_rule_0 : decode cX10_rule 0 = .ok (.aload_n 0, 1) := by decide +kernel
theorem dX10_rule_1 : decode cX10_rule 1 = .ok (.getfield 53, 3) := by decide +kernel
theorem dX10_rule_4 : decode cX10_rule 4 = .ok (.invokevirtual 200, 3) := by decide +kernel
theorem dX10_rule_7 : decode cX10_rule 7 = .ok (.istore_n 1, 1) := by decide +kernel
theorem dX10_rule_8 : decode cX10_rule 8 = .ok (.iload_n 1, 1) := by decide +kernel
theorem dX10_rule_9 : decode cX10_rule 9 = .ok (.ifCond .lt 7, 3) := by decide +kernel
theorem dX10_rule_12 : decode cX10_rule 12 = .ok (.iconst (-1), 1) := by decide +kernel
theorem dX10_rule_13 : decode cX10_rule 13 = .ok (.iload_n 1, 1) := by decide +kernel
theorem dX10_rule_14 : decode cX10_rule 14 = .ok (.isub, 1) := by decide +kernel
theorem dX10_rule_15 : decode cX10_rule 15 = .ok (.ireturn, 1) := by decide +kernel
theorem dX10_rule_16 : decode cX10_rule 16 = .ok (.aload_n 0, 1) := by decide +kernel
theorem dX10_rule_17 : decode cX10_rule 17 = .ok (.getfield 37, 3) := by decide +kernel
theorem dX10_rule_20 : decode cX10_rule 20 = .ok (.aload_n 0, 1) := by decide +kernel
theorem dX10_rule_21 : decode cX10_rule 21 = .ok (.getfield 41, 3) := by decide +kernel
theorem dX10_rule_24 : decode cX10_rule 24 = .ok (.invokevirtual 204, 3) := by decide +kernel
theorem dX10_rule_27 : decode cX10_rule 27 = .ok (.aload_n 0, 1) := by decide +kernel
theorem dX10_rule_28 : decode cX10_rule 28 = .ok (.getfield 41, 3) := by decide +kernel
theorem dX10_rule_31 : decode cX10_rule 31 = .ok (.iconst 0, 1) := by decide +kernel
theorem dX10_rule_32 : decode cX10_rule 32 = .ok (.putfield 195, 3) := by decide +kernel
theorem dX10_rule_35 : decode cX10_rule 35 = .ok (.iconst 0, 1) := by decide +kernel
theorem dX10_rule_36 : decode cX10_rule 36 = .ok (.ireturn, 1) := by decide +kernel
theorem dX10_plain_0 : decode cX10_plain 0 = .ok (.aload_n 0, 1) := by decide +kernel
theorem dX10_plain_1 : decode cX10_plain 1 = .ok (.invokevirtual 207, 3) := by decide +kernel
theorem dX10_plain_4 : decode cX10_plain 4 = .ok (.invokestatic 138, 3) := by decide +kernel
theorem dX10_plain_7 : decode cX10_plain 7 = .ok (.istore_n 1, 1) := by decide +kernel
theorem dX10_plain_8 : decode cX10_plain 8 = .ok (.aload_n 0, 1) := by decide +kernel
theorem dX10_plain_9 : decode cX10_plain 9 = .ok (.getfield 37, 3) := by decide +kernel
theorem dX10_plain_12 : decode cX10_plain 12 = .ok (.iconst 0, 1) := by decide +kernel
theorem dX10_plain_13 : decode cX10_plain 13 = .ok (.putfield 195, 3) := by decide +kernel
theorem dX10_plain_16 : decode cX10_plain 16 = .ok (.iload_n 1, 1) := by decide +kernel
theorem dX10_plain_17 : decode cX10_plain 17 = .ok (.ireturn, 1) := by decide +kernel
theorem dX10_share_0 : decode cX10_share 0 = .ok (.aload_n 0, 1) := by decide +kernel
theorem dX10_share_1 : decode cX10_share 1 = .ok (.getfield 27, 3) := by decide +kernel
theorem dX10_share_4 : decode cX10_share 4 = .ok (.iload_n 1, 1) := by decide +kernel
theorem dX10_share_5 : decode cX10_share 5 = .ok (.invokevirtual 110, 3) := by decide +kernel
theorem dX10_share_8 : decode cX10_share 8 = .ok (.ifCond .ne 10, 3) := by decide +kernel
theorem dX10_share_11 : decode cX10_share 11 = .ok (.aload_n 0, 1) := by decide +kernel
theorem dX10_share_12 : decode cX10_share 12 = .ok (.ldc 94, 2) := by decide +kernel
theorem dX10_share_14 : decode cX10_share 14 = .ok (.invokevirtual 95, 3) := by decide +kernel
theorem dX10_share_17 : decode cX10_share 17 = .ok (.ireturn, 1) := by decide +kernel
theorem dX10_share_18 : decode cX10_share 18 = .ok (.aload_n 0, 1) := by decide +kernel
theorem dX10_share_19 : decode cX10_share 19 = .ok (.invokevirtual 207, 3) := by decide +kernel
theorem dX10_share_22 : decode cX10_share 22 = .ok (.ifCond .eq 11, 3) := by decide +kernel
theorem dX10_share_25 : decode cX10_share 25 = .ok (.aload_n 0, 1) := by decide +kernel
theorem dX10_share_26 : decode cX10_share 26 = .ok (.iload_n 1, 1) := by decide +kernel
theorem dX10_share_27 : decode cX10_share 27 = .ok (.invokevirtual 211, 3) := by decide +kernel
theorem dX10_share_30 : decode cX10_share 30 = .ok (.goto 8, 3) := by decide +kernel
theorem dX10_share_33 : decode cX10_share 33 = .ok (.aload_n 0, 1) := by decide +kernel
theorem dX10_share_34 : decode cX10_share 34 = .ok (.iload_n 1, 1) := by decide +kernel
theorem dX10_share_35 : decode cX10_share 35 = .ok (.invokevirtual 214, 3) := by decide +kernel
theorem dX10_share_38 : decode cX10_share 38 = .ok (.ireturn, 1) := by decide +kernel
theorem dX10_bill_0 : decode cX10_bill 0 = .ok (.iload_n 1, 1) := by decide +kernel
theorem dX10_bill_1 : decode cX10_bill 1 = .ok (.iconst 0, 1) := by decide +kernel
theorem dX10_bill_2 : decode cX10_bill 2 = .ok (.sipush 9999, 3) := by decide +kernel
theorem dX10_bill_5 : decode cX10_bill 5 = .ok (.invokestatic 90, 3) := by decide +kernel
theorem dX10_bill_8 : decode cX10_bill 8 = .ok (.ifCond .eq 14, 3) := by decide +kernel
theorem dX10_bill_11 : decode cX10_bill 11 = .ok (.aload_n 0, 1) := by decide +kernel
theorem dX10_bill_12 : decode cX10_bill 12 = .ok (.getfield 27, 3) := by decide +kernel
theorem dX10_bill_15 : decode cX10_bill 15 = .ok (.iload_n 2, 1) := by decide +kernel
theorem dX10_bill_16 : decode cX10_bill 16 = .ok (.invokevirtual 110, 3) := by decide +kernel
theorem dX10_bill_19 : decode cX10_bill 19 = .ok (.ifCond .ne 10, 3) := by decide +kernel
theorem dX10_bill_22 : decode cX10_bill 22 = .ok (.aload_n 0, 1) := by decide +kernel
theorem dX10_bill_23 : decode cX10_bill 23 = .ok (.ldc 94, 2) := by decide +kernel
theorem dX10_bill_25 : decode cX10_bill 25 = .ok (.invokevirtual 95, 3) := by decide +kernel
theorem dX10_bill_28 : decode cX10_bill 28 = .ok (.ireturn, 1) := by decide +kernel
theorem dX10_bill_29 : decode cX10_bill 29 = .ok (.aload_n 0, 1) := by decide +kernel
theorem dX10_bill_30 : decode cX10_bill 30 = .ok (.iload_n 1, 1) := by decide +kernel
theorem dX10_bill_31 : decode cX10_bill 31 = .ok (.aload_n 0, 1) := by decide +kernel
theorem dX10_bill_32 : decode cX10_bill 32 = .ok (.invokevirtual 207, 3) := by decide +kernel
theorem dX10_bill_35 : decode cX10_bill 35 = .ok (.invokevirtual 217, 3) := by decide +kernel
theorem dX10_bill_38 : decode cX10_bill 38 = .ok (.aload_n 0, 1) := by decide +kernel
theorem dX10_bill_39 : decode cX10_bill 39 = .ok (.getfield 59, 3) := by decide +kernel
theorem dX10_bill_42 : decode cX10_bill 42 = .ok (.invokevirtual 221, 3) := by decide +kernel
theorem dX10_bill_45 : decode cX10_bill 45 = .ok (.ifCond .eq 10, 3) := by decide +kernel
theorem dX10_bill_48 : decode cX10_bill 48 = .ok (.aload_n 0, 1) := by decide +kernel
theorem dX10_bill_49 : decode cX10_bill 49 = .ok (.ldc 224, 2) := by decide +kernel
theorem dX10_bill_51 : decode cX10_bill 51 = .ok (.invokevirtual 95, 3) := by decide +kernel
theorem dX10_bill_54 : decode cX10_bill 54 = .ok (.ireturn, 1) := by decide +kernel
theorem dX10_bill_55 : decode cX10_bill 55 = .ok (.aload_n 0, 1) := by decide +kernel
theorem dX10_bill_56 : decode cX10_bill 56 = .ok (.getfield 59, 3) := by decide +kernel
theorem dX10_bill_59 : decode cX10_bill 59 = .ok (.iload_n 2, 1) := by decide +kernel
theorem dX10_bill_60 : decode cX10_bill 60 = .ok (.invokevirtual 225, 3) := by decide +kernel
theorem dX10_bill_63 : decode cX10_bill 63 = .ok (.ireturn, 1) := by decide +kernel
theorem dX10_other_0 : decode cX10_other 0 = .ok (.iload_n 1, 1) := by decide +kernel
theorem dX10_other_1 : decode cX10_other 1 = .ok (.iconst 0, 1) := by decide +kernel
theorem dX10_other_2 : decode cX10_other 2 = .ok (.sipush 9999, 3) := by decide +kernel
theorem dX10_other_5 : decode cX10_other 5 = .ok (.invokestatic 90, 3) := by decide +kernel
theorem dX10_other_8 : decode cX10_other 8 = .ok (.ifCond .eq 14, 3) := by decide +kernel
theorem dX10_other_11 : decode cX10_other 11 = .ok (.aload_n 0, 1) := by decide +kernel
theorem dX10_other_12 : decode cX10_other 12 = .ok (.getfield 27, 3) := by decide +kernel
theorem dX10_other_15 : decode cX10_other 15 = .ok (.iload_n 2, 1) := by decide +kernel
theorem dX10_other_16 : decode cX10_other 16 = .ok (.invokevirtual 110, 3) := by decide +kernel
theorem dX10_other_19 : decode cX10_other 19 = .ok (.ifCond .ne 10, 3) := by decide +kernel
theorem dX10_other_22 : decode cX10_other 22 = .ok (.aload_n 0, 1) := by decide +kernel
theorem dX10_other_23 : decode cX10_other 23 = .ok (.ldc 94, 2) := by decide +kernel
theorem dX10_other_25 : decode cX10_other 25 = .ok (.invokevirtual 95, 3) := by decide +kernel
theorem dX10_other_28 : decode cX10_other 28 = .ok (.ireturn, 1) := by decide +kernel
theorem dX10_other_29 : decode cX10_other 29 = .ok (.aload_n 0, 1) := by decide +kernel
theorem dX10_other_30 : decode cX10_other 30 = .ok (.iload_n 1, 1) := by decide +kernel
theorem dX10_other_31 : decode cX10_other 31 = .ok (.aload_n 0, 1) := by decide +kernel
theorem dX10_other_32 : decode cX10_other 32 = .ok (.invokevirtual 207, 3) := by decide +kernel
theorem dX10_other_35 : decode cX10_other 35 = .ok (.invokevirtual 217, 3) := by decide +kernel
theorem dX10_other_38 : decode cX10_other 38 = .ok (.aload_n 0, 1) := by decide +kernel
theorem dX10_other_39 : decode cX10_other 39 = .ok (.getfield 59, 3) := by decide +kernel
theorem dX10_other_42 : decode cX10_other 42 = .ok (.invokevirtual 221, 3) := by decide +kernel
theorem dX10_other_45 : decode cX10_other 45 = .ok (.ifCond .eq 10, 3) := by decide +kernel
theorem dX10_other_48 : decode cX10_other 48 = .ok (.aload_n 0, 1) := by decide +kernel
theorem dX10_other_49 : decode cX10_other 49 = .ok (.ldc 224, 2) := by decide +kernel
theorem dX10_other_51 : decode cX10_other 51 = .ok (.invokevirtual 95, 3) := by decide +kernel
theorem dX10_other_54 : decode cX10_other 54 = .ok (.ireturn, 1) := by decide +kernel
theorem dX10_other_55 : decode cX10_other 55 = .ok (.aload_n 0, 1) := by decide +kernel
theorem dX10_other_56 : decode cX10_other 56 = .ok (.getfield 59, 3) := by decide +kernel
theorem dX10_other_59 : decode cX10_other 59 = .ok (.iload_n 2, 1) := by decide +kernel
theorem dX10_other_60 : decode cX10_other 60 = .ok (.invokevirtual 225, 3) := by decide +kernel
theorem dX10_other_63 : decode cX10_other 63 = .ok (.istore_n 3, 1) := by decide +kernel
theorem dX10_other_64 : decode cX10_other 64 = .ok (.aload_n 0, 1) := by decide +kernel
theorem dX10_other_65 : decode cX10_other 65 = .ok (.iload_n 1, 1) := by decide +kernel
theorem dX10_other_66 : decode cX10_other 66 = .ok (.iconst 0, 1) := by decide +kernel
theorem dX10_other_67 : decode cX10_other 67 = .ok (.invokevirtual 217, 3) := by decide +kernel
theorem dX10_other_70 : decode cX10_other 70 = .ok (.aload_n 0, 1) := by decide +kernel
theorem dX10_other_71 : decode cX10_other 71 = .ok (.getfield 59, 3) := by decide +kernel
theorem dX10_other_74 : decode cX10_other 74 = .ok (.invokevirtual 221, 3) := by decide +kernel
theorem dX10_other_77 : decode cX10_other 77 = .ok (.ifCond .eq 10, 3) := by decide +kernel
theorem dX10_other_80 : decode cX10_other 80 = .ok (.aload_n 0, 1) := by decide +kernel
theorem dX10_other_81 : decode cX10_other 81 = .ok (.ldc 224, 2) := by decide +kernel
theorem dX10_other_83 : decode cX10_other 83 = .ok (.invokevirtual 95, 3) := by decide +kernel
theorem dX10_other_86 : decode cX10_other 86 = .ok (.ireturn, 1) := by decide +kernel
theorem dX10_other_87 : decode cX10_other 87 = .ok (.aload_n 0, 1) := by decide +kernel
theorem dX10_other_88 : decode cX10_other 88 = .ok (.getfield 59, 3) := by decide +kernel
theorem dX10_other_91 : decode cX10_other 91 = .ok (.iload_n 2, 1) := by decide +kernel
theorem dX10_other_92 : decode cX10_other 92 = .ok (.invokevirtual 225, 3) := by decide +kernel
theorem dX10_other_95 : decode cX10_other 95 = .ok (.iload_n 3, 1) := by decide +kernel
theorem dX10_other_96 : decode cX10_other 96 = .ok (.isub, 1) := by decide +kernel
theorem dX10_other_97 : decode cX10_other 97 = .ok (.ireturn, 1) := by decide +kernel
theorem dX10_meters_0 : decode cX10_meters 0 = .ok (.iload_n 1, 1) := by decide +kernel
theorem dX10_meters_1 : decode cX10_meters 1 = .ok (.iconst 0, 1) := by decide +kernel
theorem dX10_meters_2 : decode cX10_meters 2 = .ok (.iconst 1, 1) := by decide +kernel
theorem dX10_meters_3 : decode cX10_meters 3 = .ok (.invokestatic 90, 3) := by decide +kernel
theorem dX10_meters_6 : decode cX10_meters 6 = .ok (.ifCond .ne 10, 3) := by decide +kernel
theorem dX10_meters_9 : decode cX10_meters 9 = .ok (.aload_n 0, 1) := by decide +kernel
theorem dX10_meters_10 : decode cX10_meters 10 = .ok (.ldc 94, 2) := by decide +kernel
theorem dX10_meters_12 : decode cX10_meters 12 = .ok (.invokevirtual 95, 3) := by decide +kernel
theorem dX10_meters_15 : decode cX10_meters 15 = .ok (.ireturn, 1) := by decide +kernel
theorem dX10_meters_16 : decode cX10_meters 16 = .ok (.iload_n 1, 1) := by decide +kernel
theorem dX10_meters_17 : decode cX10_meters 17 = .ok (.ifCond .ne 19, 3) := by decide +kernel
theorem dX10_meters_20 : decode cX10_meters 20 = .ok (.aload_n 0, 1) := by decide +kernel
theorem dX10_meters_21 : decode cX10_meters 21 = .ok (.getfield 27, 3) := by decide +kernel
theorem dX10_meters_24 : decode cX10_meters 24 = .ok (.invokevirtual 228, 3) := by decide +kernel
theorem dX10_meters_27 : decode cX10_meters 27 = .ok (.aload_n 0, 1) := by decide +kernel
theorem dX10_meters_28 : decode cX10_meters 28 = .ok (.getfield 27, 3) := by decide +kernel
theorem dX10_meters_31 : decode cX10_meters 31 = .ok (.invokevirtual 231, 3) := by decide +kernel
theorem dX10_meters_34 : decode cX10_meters 34 = .ok (.isub, 1) := by decide +kernel
theorem dX10_meters_35 : decode cX10_meters 35 = .ok (.ireturn, 1) := by decide +kernel
theorem dX10_meters_36 : decode cX10_meters 36 = .ok (.aload_n 0, 1) := by decide +kernel
theorem dX10_meters_37 : decode cX10_meters 37 = .ok (.getfield 27, 3) := by decide +kernel
theorem dX10_meters_40 : decode cX10_meters 40 = .ok (.getfield 99, 3) := by decide +kernel
theorem dX10_meters_43 : decode cX10_meters 43 = .ok (.ifCond .ne 10, 3) := by decide +kernel
theorem dX10_meters_46 : decode cX10_meters 46 = .ok (.aload_n 0, 1) := by decide +kernel
theorem dX10_meters_47 : decode cX10_meters 47 = .ok (.ldc 224, 2) := by decide +kernel
theorem dX10_meters_49 : decode cX10_meters 49 = .ok (.invokevirtual 95, 3) := by decide +kernel
theorem dX10_meters_52 : decode cX10_meters 52 = .ok (.ireturn, 1) := by decide +kernel
theorem dX10_meters_53 : decode cX10_meters 53 = .ok (.aload_n 0, 1) := by decide +kernel
theorem dX10_meters_54 : decode cX10_meters 54 = .ok (.getfield 27, 3) := by decide +kernel
theorem dX10_meters_57 : decode cX10_meters 57 = .ok (.invokevirtual 234, 3) := by decide +kernel
theorem dX10_meters_60 : decode cX10_meters 60 = .ok (.ireturn, 1) := by decide +kernel
theorem dX10_felt_0 : decode cX10_felt 0 = .ok (.aload_n 0, 1) := by decide +kernel
theorem dX10_felt_1 : decode cX10_felt 1 = .ok (.getfield 27, 3) := by decide +kernel
theorem dX10_felt_4 : decode cX10_felt 4 = .ok (.iload_n 1, 1) := by decide +kernel
theorem dX10_felt_5 : decode cX10_felt 5 = .ok (.invokevirtual 110, 3) := by decide +kernel
theorem dX10_felt_8 : decode cX10_felt 8 = .ok (.ifCond .eq 10, 3) := by decide +kernel
theorem dX10_felt_11 : decode cX10_felt 11 = .ok (.iload_n 2, 1) := by decide +kernel
theorem dX10_felt_12 : decode cX10_felt 12 = .ok (.invokestatic 237, 3) := by decide +kernel
theorem dX10_felt_15 : decode cX10_felt 15 = .ok (.ifCond .ne 10, 3) := by decide +kernel
theorem dX10_felt_18 : decode cX10_felt 18 = .ok (.aload_n 0, 1) := by decide +kernel
theorem dX10_felt_19 : decode cX10_felt 19 = .ok (.ldc 94, 2) := by decide +kernel
theorem dX10_felt_21 : decode cX10_felt 21 = .ok (.invokevirtual 95, 3) := by decide +kernel
theorem dX10_felt_24 : decode cX10_felt 24 = .ok (.ireturn, 1) := by decide +kernel
theorem dX10_felt_25 : decode cX10_felt 25 = .ok (.aload_n 0, 1) := by decide +kernel
theorem dX10_felt_26 : decode cX10_felt 26 = .ok (.getfield 27, 3) := by decide +kernel
theorem dX10_felt_29 : decode cX10_felt 29 = .ok (.getfield 114, 3) := by decide +kernel
theorem dX10_felt_32 : decode cX10_felt 32 = .ok (.iload_n 1, 1) := by decide +kernel
theorem dX10_felt_33 : decode cX10_felt 33 = .ok (.aaload, 1) := by decide +kernel
theorem dX10_felt_34 : decode cX10_felt 34 = .ok (.getfield 145, 3) := by decide +kernel
theorem dX10_felt_37 : decode cX10_felt 37 = .ok (.iload_n 2, 1) := by decide +kernel
theorem dX10_felt_38 : decode cX10_felt 38 = .ok (.invokestatic 240, 3) := by decide +kernel
theorem dX10_felt_41 : decode cX10_felt 41 = .ok (.ireturn, 1) := by decide +kernel
theorem dX10_even_0 : decode cX10_even 0 = .ok (.iload_n 1, 1) := by decide +kernel
theorem dX10_even_1 : decode cX10_even 1 = .ok (.invokestatic 237, 3) := by decide +kernel
theorem dX10_even_4 : decode cX10_even 4 = .ok (.ifCond .eq 13, 3) := by decide +kernel
theorem dX10_even_7 : decode cX10_even 7 = .ok (.iload_n 2, 1) := by decide +kernel
theorem dX10_even_8 : decode cX10_even 8 = .ok (.iconst 0, 1) := by decide +kernel
theorem dX10_even_9 : decode cX10_even 9 = .ok (.bipush 50, 2) := by decide +kernel
theorem dX10_even_11 : decode cX10_even 11 = .ok (.invokestatic 90, 3) := by decide +kernel
theorem dX10_even_14 : decode cX10_even 14 = .ok (.ifCond .ne 10, 3) := by decide +kernel
theorem dX10_even_17 : decode cX10_even 17 = .ok (.aload_n 0, 1) := by decide +kernel
theorem dX10_even_18 : decode cX10_even 18 = .ok (.ldc 94, 2) := by decide +kernel
theorem dX10_even_20 : decode cX10_even 20 = .ok (.invokevirtual 95, 3) := by decide +kernel
theorem dX10_even_23 : decode cX10_even 23 = .ok (.ireturn, 1) := by decide +kernel
theorem dX10_even_24 : decode cX10_even 24 = .ok (.aload_n 0, 1) := by decide +kernel
theorem dX10_even_25 : decode cX10_even 25 = .ok (.getfield 66, 3) := by decide +kernel
theorem dX10_even_28 : decode cX10_even 28 = .ok (.aload_n 0, 1) := by decide +kernel
theorem dX10_even_29 : decode cX10_even 29 = .ok (.getfield 27, 3) := by decide +kernel
theorem dX10_even_32 : decode cX10_even 32 = .ok (.invokevirtual 187, 3) := by decide +kernel
theorem dX10_even_35 : decode cX10_even 35 = .ok (.aload_n 0, 1) := by decide +kernel
theorem dX10_even_36 : decode cX10_even 36 = .ok (.getfield 66, 3) := by decide +kernel
theorem dX10_even_39 : decode cX10_even 39 = .ok (.iload_n 2, 1) := by decide +kernel
theorem dX10_even_40 : decode cX10_even 40 = .ok (.invokevirtual 244, 3) := by decide +kernel
theorem dX10_even_43 : decode cX10_even 43 = .ok (.pop, 1) := by decide +kernel
theorem dX10_even_44 : decode cX10_even 44 = .ok (.iconst 0, 1) := by decide +kernel
theorem dX10_even_45 : decode cX10_even 45 = .ok (.istore_n 3, 1) := by decide +kernel
theorem dX10_even_46 : decode cX10_even 46 = .ok (.iconst 0, 1) := by decide +kernel
theorem dX10_even_47 : decode cX10_even 47 = .ok (.istore 4, 2) := by decide +kernel
theorem dX10_even_49 : decode cX10_even 49 = .ok (.iload 4, 2) := by decide +kernel
theorem dX10_even_51 : decode cX10_even 51 = .ok (.aload_n 0, 1) := by decide +kernel
theorem dX10_even_52 : decode cX10_even 52 = .ok (.getfield 27, 3) := by decide +kernel
theorem dX10_even_55 : decode cX10_even 55 = .ok (.getfield 99, 3) := by decide +kernel
theorem dX10_even_58 : decode cX10_even 58 = .ok (.if_icmp .ge 33, 3) := by decide +kernel
theorem dX10_even_61 : decode cX10_even 61 = .ok (.aload_n 0, 1) := by decide +kernel
theorem dX10_even_62 : decode cX10_even 62 = .ok (.getfield 66, 3) := by decide +kernel
theorem dX10_even_65 : decode cX10_even 65 = .ok (.getfield 247, 3) := by decide +kernel
theorem dX10_even_68 : decode cX10_even 68 = .ok (.iload 4, 2) := by decide +kernel
theorem dX10_even_70 : decode cX10_even 70 = .ok (.iaload, 1) := by decide +kernel
theorem dX10_even_71 : decode cX10_even 71 = .ok (.iload_n 1, 1) := by decide +kernel
theorem dX10_even_72 : decode cX10_even 72 = .ok (.invokestatic 240, 3) := by decide +kernel
theorem dX10_even_75 : decode cX10_even 75 = .ok (.ifCond .ne 10, 3) := by decide +kernel
theorem dX10_even_78 : decode cX10_even 78 = .ok (.iload_n 3, 1) := by decide +kernel
theorem dX10_even_79 : decode cX10_even 79 = .ok (.iconst 1, 1) := by decide +kernel
theorem dX10_even_80 : decode cX10_even 80 = .ok (.iload 4, 2) := by decide +kernel
theorem dX10_even_82 : decode cX10_even 82 = .ok (.ishl, 1) := by decide +kernel
theorem dX10_even_83 : decode cX10_even 83 = .ok (.ior, 1) := by decide +kernel
theorem dX10_even_84 : decode cX10_even 84 = .ok (.istore_n 3, 1) := by decide +kernel
theorem dX10_even_85 : decode cX10_even 85 = .ok (.iinc 4 1, 3) := by decide +kernel
theorem dX10_even_88 : decode cX10_even 88 = .ok (.goto (-39), 3) := by decide +kernel
theorem dX10_even_91 : decode cX10_even 91 = .ok (.iload_n 3, 1) := by decide +kernel
theorem dX10_even_92 : decode cX10_even 92 = .ok (.ireturn, 1) := by decide +kernel
theorem dX10_foretold_0 : decode cX10_foretold 0 = .ok (.aload_n 0, 1) := by decide +kernel
theorem dX10_foretold_1 : decode cX10_foretold 1 = .ok (.getfield 27, 3) := by decide +kernel
theorem dX10_foretold_4 : decode cX10_foretold 4 = .ok (.iload_n 1, 1) := by decide +kernel
theorem dX10_foretold_5 : decode cX10_foretold 5 = .ok (.invokevirtual 110, 3) := by decide +kernel
theorem dX10_foretold_8 : decode cX10_foretold 8 = .ok (.ifCond .eq 13, 3) := by decide +kernel
theorem dX10_foretold_11 : decode cX10_foretold 11 = .ok (.iload_n 2, 1) := by decide +kernel
theorem dX10_foretold_12 : decode cX10_foretold 12 = .ok (.iconst 0, 1) := by decide +kernel
theorem dX10_foretold_13 : decode cX10_foretold 13 = .ok (.bipush 100, 2) := by decide +kernel
theorem dX10_foretold_15 : decode cX10_foretold 15 = .ok (.invokestatic 90, 3) := by decide +kernel
theorem dX10_foretold_18 : decode cX10_foretold 18 = .ok (.ifCond .ne 10, 3) := by decide +kernel
theorem dX10_foretold_21 : decode cX10_foretold 21 = .ok (.aload_n 0, 1) := by decide +kernel
theorem dX10_foretold_22 : decode cX10_foretold 22 = .ok (.ldc 94, 2) := by decide +kernel
theorem dX10_foretold_24 : decode cX10_foretold 24 = .ok (.invokevirtual 95, 3) := by decide +kernel
theorem dX10_foretold_27 : decode cX10_foretold 27 = .ok (.ireturn, 1) := by decide +kernel
theorem dX10_foretold_28 : decode cX10_foretold 28 = .ok (.aload_n 0, 1) := by decide +kernel
theorem dX10_foretold_29 : decode cX10_foretold 29 = .ok (.getfield 66, 3) := by decide +kernel
theorem dX10_foretold_32 : decode cX10_foretold 32 = .ok (.aload_n 0, 1) := by decide +kernel
theorem dX10_foretold_33 : decode cX10_foretold 33 = .ok (.getfield 27, 3) := by decide +kernel
theorem dX10_foretold_36 : decode cX10_foretold 36 = .ok (.invokevirtual 187, 3) := by decide +kernel
theorem dX10_foretold_39 : decode cX10_foretold 39 = .ok (.aload_n 0, 1) := by decide +kernel
theorem dX10_foretold_40 : decode cX10_foretold 40 = .ok (.getfield 66, 3) := by decide +kernel
theorem dX10_foretold_43 : decode cX10_foretold 43 = .ok (.iload_n 2, 1) := by decide +kernel
theorem dX10_foretold_44 : decode cX10_foretold 44 = .ok (.invokevirtual 244, 3) := by decide +kernel
theorem dX10_foretold_47 : decode cX10_foretold 47 = .ok (.pop, 1) := by decide +kernel
theorem dX10_foretold_48 : decode cX10_foretold 48 = .ok (.aload_n 0, 1) := by decide +kernel
theorem dX10_foretold_49 : decode cX10_foretold 49 = .ok (.getfield 66, 3) := by decide +kernel
theorem dX10_foretold_52 : decode cX10_foretold 52 = .ok (.getfield 247, 3) := by decide +kernel
theorem dX10_foretold_55 : decode cX10_foretold 55 = .ok (.iload_n 1, 1) := by decide +kernel
theorem dX10_foretold_56 : decode cX10_foretold 56 = .ok (.iaload, 1) := by decide +kernel
theorem dX10_foretold_57 : decode cX10_foretold 57 = .ok (.ireturn, 1) := by decide +kernel
theorem dX10_few_0 : decode cX10_few 0 = .ok (.iload_n 1, 1) := by decide +kernel
theorem dX10_few_1 : decode cX10_few 1 = .ok (.invokestatic 237, 3) := by decide +kernel
theorem dX10_few_4 : decode cX10_few 4 = .ok (.ifCond .eq 22, 3) := by decide +kernel
theorem dX10_few_7 : decode cX10_few 7 = .ok (.iload_n 2, 1) := by decide +kernel
theorem dX10_few_8 : decode cX10_few 8 = .ok (.iconst 1, 1) := by decide +kernel
theorem dX10_few_9 : decode cX10_few 9 = .ok (.bipush 8, 2) := by decide +kernel
theorem dX10_few_11 : decode cX10_few 11 = .ok (.invokestatic 90, 3) := by decide +kernel
theorem dX10_few_14 : decode cX10_few 14 = .ok (.ifCond .eq 12, 3) := by decide +kernel
theorem dX10_few_17 : decode cX10_few 17 = .ok (.iload_n 3, 1) := by decide +kernel
theorem dX10_few_18 : decode cX10_few 18 = .ok (.iconst 0, 1) := by decide +kernel
theorem dX10_few_19 : decode cX10_few 19 = .ok (.iconst 4, 1) := by decide +kernel
theorem dX10_few_20 : decode cX10_few 20 = .ok (.invokestatic 90, 3) := by decide +kernel
theorem dX10_few_23 : decode cX10_few 23 = .ok (.ifCond .ne 10, 3) := by decide +kernel
theorem dX10_few_26 : decode cX10_few 26 = .ok (.aload_n 0, 1) := by decide +kernel
theorem dX10_few_27 : decode cX10_few 27 = .ok (.ldc 94, 2) := by decide +kernel
theorem dX10_few_29 : decode cX10_few 29 = .ok (.invokevirtual 95, 3) := by decide +kernel
theorem dX10_few_32 : decode cX10_few 32 = .ok (.ireturn, 1) := by decide +kernel
theorem dX10_few_33 : decode cX10_few 33 = .ok (.aload_n 0, 1) := by decide +kernel
theorem dX10_few_34 : decode cX10_few 34 = .ok (.getfield 75, 3) := by decide +kernel
theorem dX10_few_37 : decode cX10_few 37 = .ok (.iload_n 1, 1) := by decide +kernel
theorem dX10_few_38 : decode cX10_few 38 = .ok (.iload_n 2, 1) := by decide +kernel
theorem dX10_few_39 : decode cX10_few 39 = .ok (.invokevirtual 249, 3) := by decide +kernel
theorem dX10_few_42 : decode cX10_few 42 = .ok (.ifCond .ne 10, 3) := by decide +kernel
theorem dX10_few_45 : decode cX10_few 45 = .ok (.aload_n 0, 1) := by decide +kernel
theorem dX10_few_46 : decode cX10_few 46 = .ok (.ldc 224, 2) := by decide +kernel
theorem dX10_few_48 : decode cX10_few 48 = .ok (.invokevirtual 95, 3) := by decide +kernel
theorem dX10_few_51 : decode cX10_few 51 = .ok (.ireturn, 1) := by decide +kernel
theorem dX10_few_52 : decode cX10_few 52 = .ok (.aload_n 0, 1) := by decide +kernel
theorem dX10_few_53 : decode cX10_few 53 = .ok (.getfield 75, 3) := by decide +kernel
theorem dX10_few_56 : decode cX10_few 56 = .ok (.iload_n 3, 1) := by decide +kernel
theorem dX10_few_57 : decode cX10_few 57 = .ok (.invokevirtual 252, 3) := by decide +kernel
theorem dX10_few_60 : decode cX10_few 60 = .ok (.ireturn, 1) := by decide +kernel
theorem dX10_setback_0 : decode cX10_setback 0 = .ok (.iload_n 1, 1) := by decide +kernel
theorem dX10_setback_1 : decode cX10_setback 1 = .ok (.iconst 0, 1) := by decide +kernel
theorem dX10_setback_2 : decode cX10_setback 2 = .ok (.sipush 900, 3) := by decide +kernel
theorem dX10_setback_5 : decode cX10_setback 5 = .ok (.invokestatic 90, 3) := by decide +kernel
theorem dX10_setback_8 : decode cX10_setback 8 = .ok (.ifCond .eq 13, 3) := by decide +kernel
theorem dX10_setback_11 : decode cX10_setback 11 = .ok (.iload_n 2, 1) := by decide +kernel
theorem dX10_setback_12 : decode cX10_setback 12 = .ok (.iconst 1, 1) := by decide +kernel
theorem dX10_setback_13 : decode cX10_setback 13 = .ok (.bipush 50, 2) := by decide +kernel
theorem dX10_setback_15 : decode cX10_setback 15 = .ok (.invokestatic 90, 3) := by decide +kernel
theorem dX10_setback_18 : decode cX10_setback 18 = .ok (.ifCond .ne 10, 3) := by decide +kernel
theorem dX10_setback_21 : decode cX10_setback 21 = .ok (.aload_n 0, 1) := by decide +kernel
theorem dX10_setback_22 : decode cX10_setback 22 = .ok (.ldc 94, 2) := by decide +kernel
theorem dX10_setback_24 : decode cX10_setback 24 = .ok (.invokevirtual 95, 3) := by decide +kernel
theorem dX10_setback_27 : decode cX10_setback 27 = .ok (.ireturn, 1) := by decide +kernel
theorem dX10_setback_28 : decode cX10_setback 28 = .ok (.aload_n 0, 1) := by decide +kernel
theorem dX10_setback_29 : decode cX10_setback 29 = .ok (.getfield 66, 3) := by decide +kernel
theorem dX10_setback_32 : decode cX10_setback 32 = .ok (.aload_n 0, 1) := by decide +kernel
theorem dX10_setback_33 : decode cX10_setback 33 = .ok (.getfield 27, 3) := by decide +kernel
theorem dX10_setback_36 : decode cX10_setback 36 = .ok (.invokevirtual 187, 3) := by decide +kernel
theorem dX10_setback_39 : decode cX10_setback 39 = .ok (.aload_n 0, 1) := by decide +kernel
theorem dX10_setback_40 : decode cX10_setback 40 = .ok (.getfield 66, 3) := by decide +kernel
theorem dX10_setback_43 : decode cX10_setback 43 = .ok (.iload_n 2, 1) := by decide +kernel
theorem dX10_setback_44 : decode cX10_setback 44 = .ok (.invokevirtual 244, 3) := by decide +kernel
theorem dX10_setback_47 : decode cX10_setback 47 = .ok (.istore_n 3, 1) := by decide +kernel
