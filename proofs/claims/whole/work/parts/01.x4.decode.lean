theorem dX11_felt_1 : decode cX11_felt 1 = .ok (.iload_n 1, 1) := by decide +kernel
theorem dX11_felt_2 : decode cX11_felt 2 = .ok (.invokevirtual 141, 3) := by decide +kernel
theorem dX11_felt_5 : decode cX11_felt 5 = .ok (.ifCond .eq 10, 3) := by decide +kernel
theorem dX11_felt_8 : decode cX11_felt 8 = .ok (.iload_n 2, 1) := by decide +kernel
theorem dX11_felt_9 : decode cX11_felt 9 = .ok (.invokestatic 233, 3) := by decide +kernel
theorem dX11_felt_12 : decode cX11_felt 12 = .ok (.ifCond .ne 10, 3) := by decide +kernel
theorem dX11_felt_15 : decode cX11_felt 15 = .ok (.aload_n 0, 1) := by decide +kernel
theorem dX11_felt_16 : decode cX11_felt 16 = .ok (.ldc 92, 2) := by decide +kernel
theorem dX11_felt_18 : decode cX11_felt 18 = .ok (.invokevirtual 109, 3) := by decide +kernel
theorem dX11_felt_21 : decode cX11_felt 21 = .ok (.ireturn, 1) := by decide +kernel
theorem dX11_felt_22 : decode cX11_felt 22 = .ok (.aload_n 0, 1) := by decide +kernel
theorem dX11_felt_23 : decode cX11_felt 23 = .ok (.iload_n 1, 1) := by decide +kernel
theorem dX11_felt_24 : decode cX11_felt 24 = .ok (.bipush 6, 2) := by decide +kernel
theorem dX11_felt_26 : decode cX11_felt 26 = .ok (.invokevirtual 101, 3) := by decide +kernel
theorem dX11_felt_29 : decode cX11_felt 29 = .ok (.istore_n 3, 1) := by decide +kernel
theorem dX11_felt_30 : decode cX11_felt 30 = .ok (.iload_n 3, 1) := by decide +kernel
theorem dX11_felt_31 : decode cX11_felt 31 = .ok (.iload_n 2, 1) := by decide +kernel
theorem dX11_felt_32 : decode cX11_felt 32 = .ok (.sipush 1000, 3) := by decide +kernel
theorem dX11_felt_35 : decode cX11_felt 35 = .ok (.idiv, 1) := by decide +kernel
theorem dX11_felt_36 : decode cX11_felt 36 = .ok (.if_icmp .ge 7, 3) := by decide +kernel
theorem dX11_felt_39 : decode cX11_felt 39 = .ok (.iconst 1, 1) := by decide +kernel
theorem dX11_felt_40 : decode cX11_felt 40 = .ok (.goto 17, 3) := by decide +kernel
theorem dX11_felt_43 : decode cX11_felt 43 = .ok (.iload_n 3, 1) := by decide +kernel
theorem dX11_felt_44 : decode cX11_felt 44 = .ok (.iload_n 2, 1) := by decide +kernel
theorem dX11_felt_45 : decode cX11_felt 45 = .ok (.sipush 1000, 3) := by decide +kernel
theorem dX11_felt_48 : decode cX11_felt 48 = .ok (.irem, 1) := by decide +kernel
theorem dX11_felt_49 : decode cX11_felt 49 = .ok (.if_icmp .le 7, 3) := by decide +kernel
theorem dX11_felt_52 : decode cX11_felt 52 = .ok (.iconst 2, 1) := by decide +kernel
theorem dX11_felt_53 : decode cX11_felt 53 = .ok (.goto 4, 3) := by decide +kernel
theorem dX11_felt_56 : decode cX11_felt 56 = .ok (.iconst 0, 1) := by decide +kernel
theorem dX11_felt_57 : decode cX11_felt 57 = .ok (.ireturn, 1) := by decide +kernel
theorem dX11_isEven_0 : decode cX11_isEven 0 = .ok (.aload_n 0, 1) := by decide +kernel
theorem dX11_isEven_1 : decode cX11_isEven 1 = .ok (.getfield 43, 3) := by decide +kernel
theorem dX11_isEven_4 : decode cX11_isEven 4 = .ok (.iload_n 1, 1) := by decide +kernel
theorem dX11_isEven_5 : decode cX11_isEven 5 = .ok (.iaload, 1) := by decide +kernel
theorem dX11_isEven_6 : decode cX11_isEven 6 = .ok (.iload_n 2, 1) := by decide +kernel
theorem dX11_isEven_7 : decode cX11_isEven 7 = .ok (.sipush 1000, 3) := by decide +kernel
theorem dX11_isEven_10 : decode cX11_isEven 10 = .ok (.idiv, 1) := by decide +kernel
theorem dX11_isEven_11 : decode cX11_isEven 11 = .ok (.if_icmp .lt 21, 3) := by decide +kernel
theorem dX11_isEven_14 : decode cX11_isEven 14 = .ok (.aload_n 0, 1) := by decide +kernel
theorem dX11_isEven_15 : decode cX11_isEven 15 = .ok (.getfield 43, 3) := by decide +kernel
theorem dX11_isEven_18 : decode cX11_isEven 18 = .ok (.iload_n 1, 1) := by decide +kernel
theorem dX11_isEven_19 : decode cX11_isEven 19 = .ok (.iaload, 1) := by decide +kernel
theorem dX11_isEven_20 : decode cX11_isEven 20 = .ok (.iload_n 2, 1) := by decide +kernel
theorem dX11_isEven_21 : decode cX11_isEven 21 = .ok (.sipush 1000, 3) := by decide +kernel
theorem dX11_isEven_24 : decode cX11_isEven 24 = .ok (.irem, 1) := by decide +kernel
theorem dX11_isEven_25 : decode cX11_isEven 25 = .ok (.if_icmp .gt 7, 3) := by decide +kernel
theorem dX11_isEven_28 : decode cX11_isEven 28 = .ok (.iconst 1, 1) := by decide +kernel
theorem dX11_isEven_29 : decode cX11_isEven 29 = .ok (.goto 4, 3) := by decide +kernel
theorem dX11_isEven_32 : decode cX11_isEven 32 = .ok (.iconst 0, 1) := by decide +kernel
theorem dX11_isEven_33 : decode cX11_isEven 33 = .ok (.ireturn, 1) := by decide +kernel
theorem dX11_even_0 : decode cX11_even 0 = .ok (.iload_n 1, 1) := by decide +kernel
theorem dX11_even_1 : decode cX11_even 1 = .ok (.invokestatic 233, 3) := by decide +kernel
theorem dX11_even_4 : decode cX11_even 4 = .ok (.ifCond .eq 13, 3) := by decide +kernel
theorem dX11_even_7 : decode cX11_even 7 = .ok (.iload_n 2, 1) := by decide +kernel
theorem dX11_even_8 : decode cX11_even 8 = .ok (.iconst 0, 1) := by decide +kernel
theorem dX11_even_9 : decode cX11_even 9 = .ok (.bipush 50, 2) := by decide +kernel
theorem dX11_even_11 : decode cX11_even 11 = .ok (.invokestatic 97, 3) := by decide +kernel
theorem dX11_even_14 : decode cX11_even 14 = .ok (.ifCond .ne 10, 3) := by decide +kernel
theorem dX11_even_17 : decode cX11_even 17 = .ok (.aload_n 0, 1) := by decide +kernel
theorem dX11_even_18 : decode cX11_even 18 = .ok (.ldc 92, 2) := by decide +kernel
theorem dX11_even_20 : decode cX11_even 20 = .ok (.invokevirtual 109, 3) := by decide +kernel
theorem dX11_even_23 : decode cX11_even 23 = .ok (.ireturn, 1) := by decide +kernel
theorem dX11_even_24 : decode cX11_even 24 = .ok (.aload_n 0, 1) := by decide +kernel
theorem dX11_even_25 : decode cX11_even 25 = .ok (.invokevirtual 145, 3) := by decide +kernel
theorem dX11_even_28 : decode cX11_even 28 = .ok (.aload_n 0, 1) := by decide +kernel
theorem dX11_even_29 : decode cX11_even 29 = .ok (.aload_n 0, 1) := by decide +kernel
theorem dX11_even_30 : decode cX11_even 30 = .ok (.getfield 9, 3) := by decide +kernel
theorem dX11_even_33 : decode cX11_even 33 = .ok (.iconst 3, 1) := by decide +kernel
theorem dX11_even_34 : decode cX11_even 34 = .ok (.iaload, 1) := by decide +kernel
theorem dX11_even_35 : decode cX11_even 35 = .ok (.iload_n 2, 1) := by decide +kernel
theorem dX11_even_36 : decode cX11_even 36 = .ok (.invokevirtual 236, 3) := by decide +kernel
theorem dX11_even_39 : decode cX11_even 39 = .ok (.pop, 1) := by decide +kernel
theorem dX11_even_40 : decode cX11_even 40 = .ok (.iconst 0, 1) := by decide +kernel
theorem dX11_even_41 : decode cX11_even 41 = .ok (.istore_n 3, 1) := by decide +kernel
theorem dX11_even_42 : decode cX11_even 42 = .ok (.iconst 0, 1) := by decide +kernel
theorem dX11_even_43 : decode cX11_even 43 = .ok (.istore 4, 2) := by decide +kernel
theorem dX11_even_45 : decode cX11_even 45 = .ok (.iload 4, 2) := by decide +kernel
theorem dX11_even_47 : decode cX11_even 47 = .ok (.aload_n 0, 1) := by decide +kernel
theorem dX11_even_48 : decode cX11_even 48 = .ok (.getfield 9, 3) := by decide +kernel
theorem dX11_even_51 : decode cX11_even 51 = .ok (.iconst 4, 1) := by decide +kernel
theorem dX11_even_52 : decode cX11_even 52 = .ok (.iaload, 1) := by decide +kernel
theorem dX11_even_53 : decode cX11_even 53 = .ok (.if_icmp .ge 30, 3) := by decide +kernel
theorem dX11_even_56 : decode cX11_even 56 = .ok (.iload_n 3, 1) := by decide +kernel
theorem dX11_even_57 : decode cX11_even 57 = .ok (.aload_n 0, 1) := by decide +kernel
theorem dX11_even_58 : decode cX11_even 58 = .ok (.iload 4, 2) := by decide +kernel
theorem dX11_even_60 : decode cX11_even 60 = .ok (.iload_n 1, 1) := by decide +kernel
theorem dX11_even_61 : decode cX11_even 61 = .ok (.invokevirtual 239, 3) := by decide +kernel
theorem dX11_even_64 : decode cX11_even 64 = .ok (.ifCond .eq 10, 3) := by decide +kernel
theorem dX11_even_67 : decode cX11_even 67 = .ok (.iconst 1, 1) := by decide +kernel
theorem dX11_even_68 : decode cX11_even 68 = .ok (.iload 4, 2) := by decide +kernel
theorem dX11_even_70 : decode cX11_even 70 = .ok (.ishl, 1) := by decide +kernel
theorem dX11_even_71 : decode cX11_even 71 = .ok (.goto 4, 3) := by decide +kernel
theorem dX11_even_74 : decode cX11_even 74 = .ok (.iconst 0, 1) := by decide +kernel
theorem dX11_even_75 : decode cX11_even 75 = .ok (.ior, 1) := by decide +kernel
theorem dX11_even_76 : decode cX11_even 76 = .ok (.istore_n 3, 1) := by decide +kernel
theorem dX11_even_77 : decode cX11_even 77 = .ok (.iinc 4 1, 3) := by decide +kernel
theorem dX11_even_80 : decode cX11_even 80 = .ok (.goto (-35), 3) := by decide +kernel
theorem dX11_even_83 : decode cX11_even 83 = .ok (.iload_n 3, 1) := by decide +kernel
theorem dX11_even_84 : decode cX11_even 84 = .ok (.ireturn, 1) := by decide +kernel
theorem dX11_foretold_0 : decode cX11_foretold 0 = .ok (.aload_n 0, 1) := by decide +kernel
theorem dX11_foretold_1 : decode cX11_foretold 1 = .ok (.iload_n 1, 1) := by decide +kernel
theorem dX11_foretold_2 : decode cX11_foretold 2 = .ok (.invokevirtual 141, 3) := by decide +kernel
theorem dX11_foretold_5 : decode cX11_foretold 5 = .ok (.ifCond .eq 13, 3) := by decide +kernel
theorem dX11_foretold_8 : decode cX11_foretold 8 = .ok (.iload_n 2, 1) := by decide +kernel
theorem dX11_foretold_9 : decode cX11_foretold 9 = .ok (.iconst 0, 1) := by decide +kernel
theorem dX11_foretold_10 : decode cX11_foretold 10 = .ok (.bipush 100, 2) := by decide +kernel
theorem dX11_foretold_12 : decode cX11_foretold 12 = .ok (.invokestatic 97, 3) := by decide +kernel
theorem dX11_foretold_15 : decode cX11_foretold 15 = .ok (.ifCond .ne 10, 3) := by decide +kernel
theorem dX11_foretold_18 : decode cX11_foretold 18 = .ok (.aload_n 0, 1) := by decide +kernel
theorem dX11_foretold_19 : decode cX11_foretold 19 = .ok (.ldc 92, 2) := by decide +kernel
theorem dX11_foretold_21 : decode cX11_foretold 21 = .ok (.invokevirtual 109, 3) := by decide +kernel
theorem dX11_foretold_24 : decode cX11_foretold 24 = .ok (.ireturn, 1) := by decide +kernel
theorem dX11_foretold_25 : decode cX11_foretold 25 = .ok (.aload_n 0, 1) := by decide +kernel
theorem dX11_foretold_26 : decode cX11_foretold 26 = .ok (.invokevirtual 145, 3) := by decide +kernel
theorem dX11_foretold_29 : decode cX11_foretold 29 = .ok (.aload_n 0, 1) := by decide +kernel
theorem dX11_foretold_30 : decode cX11_foretold 30 = .ok (.aload_n 0, 1) := by decide +kernel
theorem dX11_foretold_31 : decode cX11_foretold 31 = .ok (.getfield 9, 3) := by decide +kernel
theorem dX11_foretold_34 : decode cX11_foretold 34 = .ok (.iconst 3, 1) := by decide +kernel
theorem dX11_foretold_35 : decode cX11_foretold 35 = .ok (.iaload, 1) := by decide +kernel
theorem dX11_foretold_36 : decode cX11_foretold 36 = .ok (.iload_n 2, 1) := by decide +kernel
theorem dX11_foretold_37 : decode cX11_foretold 37 = .ok (.invokevirtual 236, 3) := by decide +kernel
theorem dX11_foretold_40 : decode cX11_foretold 40 = .ok (.pop, 1) := by decide +kernel
theorem dX11_foretold_41 : decode cX11_foretold 41 = .ok (.aload_n 0, 1) := by decide +kernel
theorem dX11_foretold_42 : decode cX11_foretold 42 = .ok (.getfield 43, 3) := by decide +kernel
theorem dX11_foretold_45 : decode cX11_foretold 45 = .ok (.iload_n 1, 1) := by decide +kernel
theorem dX11_foretold_46 : decode cX11_foretold 46 = .ok (.iaload, 1) := by decide +kernel
theorem dX11_foretold_47 : decode cX11_foretold 47 = .ok (.ireturn, 1) := by decide +kernel
theorem dX11_areEven_0 : decode cX11_areEven 0 = .ok (.aload_n 0, 1) := by decide +kernel
theorem dX11_areEven_1 : decode cX11_areEven 1 = .ok (.invokevirtual 123, 3) := by decide +kernel
theorem dX11_areEven_4 : decode cX11_areEven 4 = .ok (.aload_n 0, 1) := by decide +kernel
theorem dX11_areEven_5 : decode cX11_areEven 5 = .ok (.invokevirtual 126, 3) := by decide +kernel
theorem dX11_areEven_8 : decode cX11_areEven 8 = .ok (.aload_n 0, 1) := by decide +kernel
theorem dX11_areEven_9 : decode cX11_areEven 9 = .ok (.aload_n 0, 1) := by decide +kernel
theorem dX11_areEven_10 : decode cX11_areEven 10 = .ok (.getfield 9, 3) := by decide +kernel
theorem dX11_areEven_13 : decode cX11_areEven 13 = .ok (.iconst 3, 1) := by decide +kernel
theorem dX11_areEven_14 : decode cX11_areEven 14 = .ok (.iaload, 1) := by decide +kernel
theorem dX11_areEven_15 : decode cX11_areEven 15 = .ok (.iload_n 2, 1) := by decide +kernel
theorem dX11_areEven_16 : decode cX11_areEven 16 = .ok (.invokevirtual 236, 3) := by decide +kernel
theorem dX11_areEven_19 : decode cX11_areEven 19 = .ok (.pop, 1) := by decide +kernel
theorem dX11_areEven_20 : decode cX11_areEven 20 = .ok (.iconst 0, 1) := by decide +kernel
theorem dX11_areEven_21 : decode cX11_areEven 21 = .ok (.istore_n 3, 1) := by decide +kernel
theorem dX11_areEven_22 : decode cX11_areEven 22 = .ok (.iload_n 3, 1) := by decide +kernel
theorem dX11_areEven_23 : decode cX11_areEven 23 = .ok (.aload_n 0, 1) := by decide +kernel
theorem dX11_areEven_24 : decode cX11_areEven 24 = .ok (.getfield 9, 3) := by decide +kernel
theorem dX11_areEven_27 : decode cX11_areEven 27 = .ok (.iconst 4, 1) := by decide +kernel
theorem dX11_areEven_28 : decode cX11_areEven 28 = .ok (.iaload, 1) := by decide +kernel
theorem dX11_areEven_29 : decode cX11_areEven 29 = .ok (.if_icmp .ge 20, 3) := by decide +kernel
theorem dX11_areEven_32 : decode cX11_areEven 32 = .ok (.aload_n 0, 1) := by decide +kernel
theorem dX11_areEven_33 : decode cX11_areEven 33 = .ok (.iload_n 3, 1) := by decide +kernel
theorem dX11_areEven_34 : decode cX11_areEven 34 = .ok (.iload_n 1, 1) := by decide +kernel
theorem dX11_areEven_35 : decode cX11_areEven 35 = .ok (.invokevirtual 239, 3) := by decide +kernel
theorem dX11_areEven_38 : decode cX11_areEven 38 = .ok (.ifCond .ne 5, 3) := by decide +kernel
theorem dX11_areEven_41 : decode cX11_areEven 41 = .ok (.iconst 0, 1) := by decide +kernel
theorem dX11_areEven_42 : decode cX11_areEven 42 = .ok (.ireturn, 1) := by decide +kernel
theorem dX11_areEven_43 : decode cX11_areEven 43 = .ok (.iinc 3 1, 3) := by decide +kernel
theorem dX11_areEven_46 : decode cX11_areEven 46 = .ok (.goto (-24), 3) := by decide +kernel
theorem dX11_areEven_49 : decode cX11_areEven 49 = .ok (.iconst 1, 1) := by decide +kernel
theorem dX11_areEven_50 : decode cX11_areEven 50 = .ok (.ireturn, 1) := by decide +kernel
theorem dX11_findOne_0 : decode cX11_findOne 0 = .ok (.iconst 0, 1) := by decide +kernel
theorem dX11_findOne_1 : decode cX11_findOne 1 = .ok (.istore_n 3, 1) := by decide +kernel
theorem dX11_findOne_2 : decode cX11_findOne 2 = .ok (.iload_n 3, 1) := by decide +kernel
theorem dX11_findOne_3 : decode cX11_findOne 3 = .ok (.aload_n 0, 1) := by decide +kernel
theorem dX11_findOne_4 : decode cX11_findOne 4 = .ok (.getfield 9, 3) := by decide +kernel
theorem dX11_findOne_7 : decode cX11_findOne 7 = .ok (.iconst 4, 1) := by decide +kernel
theorem dX11_findOne_8 : decode cX11_findOne 8 = .ok (.iaload, 1) := by decide +kernel
theorem dX11_findOne_9 : decode cX11_findOne 9 = .ok (.if_icmp .ge 92, 3) := by decide +kernel
theorem dX11_findOne_12 : decode cX11_findOne 12 = .ok (.iconst 0, 1) := by decide +kernel
theorem dX11_findOne_13 : decode cX11_findOne 13 = .ok (.istore 4, 2) := by decide +kernel
theorem dX11_findOne_15 : decode cX11_findOne 15 = .ok (.iload 4, 2) := by decide +kernel
theorem dX11_findOne_17 : decode cX11_findOne 17 = .ok (.bipush 9, 2) := by decide +kernel
theorem dX11_findOne_19 : decode cX11_findOne 19 = .ok (.if_icmp .ge 64, 3) := by decide +kernel
theorem dX11_findOne_22 : decode cX11_findOne 22 = .ok (.aload_n 0, 1) := by decide +kernel
theorem dX11_findOne_23 : decode cX11_findOne 23 = .ok (.iload_n 3, 1) := by decide +kernel
theorem dX11_findOne_24 : decode cX11_findOne 24 = .ok (.iconst 4, 1) := by decide +kernel
theorem dX11_findOne_25 : decode cX11_findOne 25 = .ok (.invokevirtual 101, 3) := by decide +kernel
theorem dX11_findOne_28 : decode cX11_findOne 28 = .ok (.ifCond .ne 55, 3) := by decide +kernel
theorem dX11_findOne_31 : decode cX11_findOne 31 = .ok (.aload_n 0, 1) := by decide +kernel
theorem dX11_findOne_32 : decode cX11_findOne 32 = .ok (.getfield 34, 3) := by decide +kernel
theorem dX11_findOne_35 : decode cX11_findOne 35 = .ok (.iload_n 3, 1) := by decide +kernel
theorem dX11_findOne_36 : decode cX11_findOne 36 = .ok (.iload 4, 2) := by decide +kernel
theorem dX11_findOne_38 : decode cX11_findOne 38 = .ok (.iastore, 1) := by decide +kernel
theorem dX11_findOne_39 : decode cX11_findOne 39 = .ok (.iload 4, 2) := by decide +kernel
theorem dX11_findOne_41 : decode cX11_findOne 41 = .ok (.aload_n 0, 1) := by decide +kernel
theorem dX11_findOne_42 : decode cX11_findOne 42 = .ok (.iload_n 3, 1) := by decide +kernel
theorem dX11_findOne_43 : decode cX11_findOne 43 = .ok (.iconst 3, 1) := by decide +kernel
theorem dX11_findOne_44 : decode cX11_findOne 44 = .ok (.invokevirtual 101, 3) := by decide +kernel
theorem dX11_findOne_47 : decode cX11_findOne 47 = .ok (.if_icmp .eq 30, 3) := by decide +kernel
theorem dX11_findOne_50 : decode cX11_findOne 50 = .ok (.aload_n 0, 1) := by decide +kernel
theorem dX11_findOne_51 : decode cX11_findOne 51 = .ok (.iload_n 1, 1) := by decide +kernel
theorem dX11_findOne_52 : decode cX11_findOne 52 = .ok (.iload_n 2, 1) := by decide +kernel
theorem dX11_findOne_53 : decode cX11_findOne 53 = .ok (.invokevirtual 242, 3) := by decide +kernel
theorem dX11_findOne_56 : decode cX11_findOne 56 = .ok (.ifCond .eq 21, 3) := by decide +kernel
theorem dX11_findOne_59 : decode cX11_findOne 59 = .ok (.aload_n 0, 1) := by decide +kernel
theorem dX11_findOne_60 : decode cX11_findOne 60 = .ok (.iconst 1, 1) := by decide +kernel
theorem dX11_findOne_61 : decode cX11_findOne 61 = .ok (.putfield 245, 3) := by decide +kernel
theorem dX11_findOne_64 : decode cX11_findOne 64 = .ok (.aload_n 0, 1) := by decide +kernel
theorem dX11_findOne_65 : decode cX11_findOne 65 = .ok (.iload_n 3, 1) := by decide +kernel
theorem dX11_findOne_66 : decode cX11_findOne 66 = .ok (.putfield 248, 3) := by decide +kernel
theorem dX11_findOne_69 : decode cX11_findOne 69 = .ok (.aload_n 0, 1) := by decide +kernel
theorem dX11_findOne_70 : decode cX11_findOne 70 = .ok (.iload 4, 2) := by decide +kernel
theorem dX11_findOne_72 : decode cX11_findOne 72 = .ok (.putfield 251, 3) := by decide +kernel
theorem dX11_findOne_75 : decode cX11_findOne 75 = .ok (.iconst 1, 1) := by decide +kernel
theorem dX11_findOne_76 : decode cX11_findOne 76 = .ok (.ireturn, 1) := by decide +kernel
theorem dX11_findOne_77 : decode cX11_findOne 77 = .ok (.iinc 4 1, 3) := by decide +kernel
theorem dX11_findOne_80 : decode cX11_findOne 80 = .ok (.goto (-65), 3) := by decide +kernel
theorem dX11_findOne_83 : decode cX11_findOne 83 = .ok (.aload_n 0, 1) := by decide +kernel
theorem dX11_findOne_84 : decode cX11_findOne 84 = .ok (.getfield 34, 3) := by decide +kernel
theorem dX11_findOne_87 : decode cX11_findOne 87 = .ok (.iload_n 3, 1) := by decide +kernel
theorem dX11_findOne_88 : decode cX11_findOne 88 = .ok (.aload_n 0, 1) := by decide +kernel
theorem dX11_findOne_89 : decode cX11_findOne 89 = .ok (.iload_n 3, 1) := by decide +kernel
theorem dX11_findOne_90 : decode cX11_findOne 90 = .ok (.iconst 3, 1) := by decide +kernel
theorem dX11_findOne_91 : decode cX11_findOne 91 = .ok (.invokevirtual 101, 3) := by decide +kernel
theorem dX11_findOne_94 : decode cX11_findOne 94 = .ok (.iastore, 1) := by decide +kernel
theorem dX11_findOne_95 : decode cX11_findOne 95 = .ok (.iinc 3 1, 3) := by decide +kernel
theorem dX11_findOne_98 : decode cX11_findOne 98 = .ok (.goto (-96), 3) := by decide +kernel
theorem dX11_findOne_101 : decode cX11_findOne 101 = .ok (.iconst 0, 1) := by decide +kernel
theorem dX11_findOne_102 : decode cX11_findOne 102 = .ok (.ireturn, 1) := by decide +kernel
theorem dX11_areTurned_0 : decode cX11_areTurned 0 = .ok (.iconst 0, 1) := by decide +kernel
theorem dX11_areTurned_1 : decode cX11_areTurned 1 = .ok (.istore 5, 2) := by decide +kernel
theorem dX11_areTurned_3 : decode cX11_areTurned 3 = .ok (.iload 5, 2) := by decide +kernel
theorem dX11_areTurned_5 : decode cX11_areTurned 5 = .ok (.bipush 9, 2) := by decide +kernel
theorem dX11_areTurned_7 : decode cX11_areTurned 7 = .ok (.if_icmp .ge 102, 3) := by decide +kernel
theorem dX11_areTurned_10 : decode cX11_areTurned 10 = .ok (.iconst 0, 1) := by decide +kernel
theorem dX11_areTurned_11 : decode cX11_areTurned 11 = .ok (.istore 6, 2) := by decide +kernel
theorem dX11_areTurned_13 : decode cX11_areTurned 13 = .ok (.iload 6, 2) := by decide +kernel
theorem dX11_areTurned_15 : decode cX11_areTurned 15 = .ok (.bipush 9, 2) := by decide +kernel
theorem dX11_areTurned_17 : decode cX11_areTurned 17 = .ok (.if_icmp .ge 86, 3) := by decide +kernel
theorem dX11_areTurned_20 : decode cX11_areTurned 20 = .ok (.aload_n 0, 1) := by decide +kernel
theorem dX11_areTurned_21 : decode cX11_areTurned 21 = .ok (.getfield 34, 3) := by decide +kernel
theorem dX11_areTurned_24 : decode cX11_areTurned 24 = .ok (.iload_n 1, 1) := by decide +kernel
theorem dX11_areTurned_25 : decode cX11_areTurned 25 = .ok (.iload 5, 2) := by decide +kernel
theorem dX11_areTurned_27 : decode cX11_areTurned 27 = .ok (.iastore, 1) := by decide +kernel
theorem dX11_areTurned_28 : decode cX11_areTurned 28 = .ok (.aload_n 0, 1) := by decide +kernel
theorem dX11_areTurned_29 : decode cX11_areTurned 29 = .ok (.getfield 34, 3) := by decide +kernel
theorem dX11_areTurned_32 : decode cX11_areTurned 32 = .ok (.iload_n 2, 1) := by decide +kernel
theorem dX11_areTurned_33 : decode cX11_areTurned 33 = .ok (.iload 6, 2) := by decide +kernel
theorem dX11_areTurned_35 : decode cX11_areTurned 35 = .ok (.iastore, 1) := by decide +kernel
theorem dX11_areTurned_36 : decode cX11_areTurned 36 = .ok (.iload 5, 2) := by decide +kernel
theorem dX11_areTurned_38 : decode cX11_areTurned 38 = .ok (.aload_n 0, 1) := by decide +kernel
theorem dX11_areTurned_39 : decode cX11_areTurned 39 = .ok (.iload_n 1, 1) := by decide +kernel
theorem dX11_areTurned_40 : decode cX11_areTurned 40 = .ok (.iconst 3, 1) := by decide +kernel
theorem dX11_areTurned_41 : decode cX11_areTurned 41 = .ok (.invokevirtual 101, 3) := by decide +kernel
theorem dX11_areTurned_44 : decode cX11_areTurned 44 = .ok (.if_icmp .eq 53, 3) := by decide +kernel
theorem dX11_areTurned_47 : decode cX11_areTurned 47 = .ok (.iload 6, 2) := by decide +kernel
theorem dX11_areTurned_49 : decode cX11_areTurned 49 = .ok (.aload_n 0, 1) := by decide +kernel
theorem dX11_areTurned_50 : decode cX11_areTurned 50 = .ok (.iload_n 2, 1) := by decide +kernel
theorem dX11_areTurned_51 : decode cX11_areTurned 51 = .ok (.iconst 3, 1) := by decide +kernel
theorem dX11_areTurned_52 : decode cX11_areTurned 52 = .ok (.invokevirtual 101, 3) := by decide +kernel
theorem dX11_areTurned_55 : decode cX11_areTurned 55 = .ok (.if_icmp .eq 42, 3) := by decide +kernel
theorem dX11_areTurned_58 : decode cX11_areTurned 58 = .ok (.aload_n 0, 1) := by decide +kernel
theorem dX11_areTurned_59 : decode cX11_areTurned 59 = .ok (.iload_n 3, 1) := by decide +kernel
theorem dX11_areTurned_60 : decode cX11_areTurned 60 = .ok (.iload 4, 2) := by decide +kernel
theorem dX11_areTurned_62 : decode cX11_areTurned 62 = .ok (.invokevirtual 242, 3) := by decide +kernel
theorem dX11_areTurned_65 : decode cX11_areTurned 65 = .ok (.ifCond .eq 32, 3) := by decide +kernel
theorem dX11_areTurned_68 : decode cX11_areTurned 68 = .ok (.aload_n 0, 1) := by decide +kernel
theorem dX11_areTurned_69 : decode cX11_areTurned 69 = .ok (.iconst 2, 1) := by decide +kernel
theorem dX11_areTurned_70 : decode cX11_areTurned 70 = .ok (.putfield 245, 3) := by decide +kernel
theorem dX11_areTurned_73 : decode cX11_areTurned 73 = .ok (.aload_n 0, 1) := by decide +kernel
theorem dX11_areTurned_74 : decode cX11_areTurned 74 = .ok (.iload_n 1, 1) := by decide +kernel
theorem dX11_areTurned_75 : decode cX11_areTurned 75 = .ok (.putfield 248, 3) := by decide +kernel
theorem dX11_areTurned_78 : decode cX11_areTurned 78 = .ok (.aload_n 0, 1) := by decide +kernel
theorem dX11_areTurned_79 : decode cX11_areTurned 79 = .ok (.iload_n 2, 1) := by decide +kernel
theorem dX11_areTurned_80 : decode cX11_areTurned 80 = .ok (.putfield 254, 3) := by decide +kernel
theorem dX11_areTurned_83 : decode cX11_areTurned 83 = .ok (.aload_n 0, 1) := by decide +kernel
theorem dX11_areTurned_84 : decode cX11_areTurned 84 = .ok (.iload 5, 2) := by decide +kernel
theorem dX11_areTurned_86 : decode cX11_areTurned 86 = .ok (.putfield 251, 3) := by decide +kernel
theorem dX11_areTurned_89 : decode cX11_areTurned 89 = .ok (.aload_n 0, 1) := by decide +kernel
theorem dX11_areTurned_90 : decode cX11_areTurned 90 = .ok (.iload 6, 2) := by decide +kernel
theorem dX11_areTurned_92 : decode cX11_areTurned 92 = .ok (.putfield 257, 3) := by decide +kernel
theorem dX11_areTurned_95 : decode cX11_areTurned 95 = .ok (.iconst 1, 1) := by decide +kernel
theorem dX11_areTurned_96 : decode cX11_areTurned 96 = .ok (.ireturn, 1) := by decide +kernel
theorem dX11_areTurned_97 : decode cX11_areTurned 97 = .ok (.iinc 6 1, 3) := by decide +kernel
theorem dX11_areTurned_100 : decode cX11_areTurned 100 = .ok (.goto (-87), 3) := by decide +kernel
theorem dX11_areTurned_103 : decode cX11_areTurned 103 = .ok (.iinc 5 1, 3) := by decide +kernel
theorem dX11_areTurned_106 : decode cX11_areTurned 106 = .ok (.goto (-103), 3) := by decide +kernel
theorem dX11_areTurned_109 : decode cX11_areTurned 109 = .ok (.aload_n 0, 1) := by decide +kernel
theorem dX11_areTurned_110 : decode cX11_areTurned 110 = .ok (.getfield 34, 3) := by decide +kernel
theorem dX11_areTurned_113 : decode cX11_areTurned 113 = .ok (.iload_n 1, 1) := by decide +kernel
theorem dX11_areTurned_114 : decode cX11_areTurned 114 = .ok (.aload_n 0, 1) := by decide +kernel
theorem dX11_areTurned_115 : decode cX11_areTurned 115 = .ok (.iload_n 1, 1) := by decide +kernel
theorem dX11_areTurned_116 : decode cX11_areTurned 116 = .ok (.iconst 3, 1) := by decide +kernel
theorem dX11_areTurned_117 : decode cX11_areTurned 117 = .ok (.invokevirtual 101, 3) := by decide +kernel
theorem dX11_areTurned_120 : decode cX11_areTurned 120 = .ok (.iastore, 1) := by decide +kernel
theorem dX11_areTurned_121 : decode cX11_areTurned 121 = .ok (.aload_n 0, 1) := by decide +kernel
theorem dX11_areTurned_122 : decode cX11_areTurned 122 = .ok (.getfield 34, 3) := by decide +kernel
theorem dX11_areTurned_125 : decode cX11_areTurned 125 = .ok (.iload_n 2, 1) := by decide +kernel
theorem dX11_areTurned_126 : decode cX11_areTurned 126 = .ok (.aload_n 0, 1) := by decide +kernel
theorem dX11_areTurned_127 : decode cX11_areTurned 127 = .ok (.iload_n 2, 1) := by decide +kernel
theorem dX11_areTurned_128 : decode cX11_areTurned 128 = .ok (.iconst 3, 1) := by decide +kernel
theorem dX11_areTurned_129 : decode cX11_areTurned 129 = .ok (.invokevirtual 101, 3) := by decide +kernel
theorem dX11_areTurned_132 : decode cX11_areTurned 132 = .ok (.iastore, 1) := by decide +kernel
theorem dX11_areTurned_133 : decode cX11_areTurned 133 = .ok (.iconst 0, 1) := by decide +kernel
theorem dX11_areTurned_134 : decode cX11_areTurned 134 = .ok (.ireturn, 1) := by decide +kernel
theorem dX11_findFew_0 : decode cX11_findFew 0 = .ok (.aload_n 0, 1) := by decide +kernel
theorem dX11_findFew_1 : decode cX11_findFew 1 = .ok (.getfield 105, 3) := by decide +kernel
theorem dX11_findFew_4 : decode cX11_findFew 4 = .ok (.ifCond .eq 20, 3) := by decide +kernel
theorem dX11_findFew_7 : decode cX11_findFew 7 = .ok (.aload_n 0, 1) := by decide +kernel
theorem dX11_findFew_8 : decode cX11_findFew 8 = .ok (.getfield 260, 3) := by decide +kernel
theorem dX11_findFew_11 : decode cX11_findFew 11 = .ok (.iload_n 1, 1) := by decide +kernel
theorem dX11_findFew_12 : decode cX11_findFew 12 = .ok (.if_icmp .ne 12, 3) := by decide +kernel
theorem dX11_findFew_15 : decode cX11_findFew 15 = .ok (.aload_n 0, 1) := by decide +kernel
theorem dX11_findFew_16 : decode cX11_findFew 16 = .ok (.getfield 263, 3) := by decide +kernel
theorem dX11_findFew_19 : decode cX11_findFew 19 = .ok (.iload_n 2, 1) := by decide +kernel
theorem dX11_findFew_20 : decode cX11_findFew 20 = .ok (.if_icmp .ne 4, 3) := by decide +kernel
theorem dX11_findFew_23 : decode cX11_findFew 23 = .ok (.return_, 1) := by decide +kernel
theorem dX11_findFew_24 : decode cX11_findFew 24 = .ok (.aload_n 0, 1) := by decide +kernel
theorem dX11_findFew_25 : decode cX11_findFew 25 = .ok (.iconst 1, 1) := by decide +kernel
theorem dX11_findFew_26 : decode cX11_findFew 26 = .ok (.putfield 105, 3) := by decide +kernel
theorem dX11_findFew_29 : decode cX11_findFew 29 = .ok (.aload_n 0, 1) := by decide +kernel
theorem dX11_findFew_30 : decode cX11_findFew 30 = .ok (.iload_n 1, 1) := by decide +kernel
theorem dX11_findFew_31 : decode cX11_findFew 31 = .ok (.putfield 260, 3) := by decide +kernel
theorem dX11_findFew_34 : decode cX11_findFew 34 = .ok (.aload_n 0, 1) := by decide +kernel
theorem dX11_findFew_35 : decode cX11_findFew 35 = .ok (.iload_n 2, 1) := by decide +kernel
theorem dX11_findFew_36 : decode cX11_findFew 36 = .ok (.putfield 263, 3) := by decide +kernel
theorem dX11_findFew_39 : decode cX11_findFew 39 = .ok (.aload_n 0, 1) := by decide +kernel
theorem dX11_findFew_40 : decode cX11_findFew 40 = .ok (.invokevirtual 145, 3) := by decide +kernel
theorem dX11_findFew_43 : decode cX11_findFew 43 = .ok (.aload_n 0, 1) := by decide +kernel
theorem dX11_findFew_44 : decode cX11_findFew 44 = .ok (.aload_n 0, 1) := by decide +kernel
theorem dX11_findFew_45 : decode cX11_findFew 45 = .ok (.iload_n 1, 1) := by decide +kernel
theorem dX11_findFew_46 : decode cX11_findFew 46 = .ok (.iload_n 2, 1) := by decide +kernel
theorem dX11_findFew_47 : decode cX11_findFew 47 = .ok (.invokevirtual 242, 3) := by decide +kernel
theorem dX11_findFew_50 : decode cX11_findFew 50 = .ok (.ifCond .eq 7, 3) := by decide +kernel
theorem dX11_findFew_53 : decode cX11_findFew 53 = .ok (.iconst 0, 1) := by decide +kernel
theorem dX11_findFew_54 : decode cX11_findFew 54 = .ok (.goto 4, 3) := by decide +kernel
theorem dX11_findFew_57 : decode cX11_findFew 57 = .ok (.iconst (-1), 1) := by decide +kernel
theorem dX11_findFew_58 : decode cX11_findFew 58 = .ok (.putfield 245, 3) := by decide +kernel
theorem dX11_findFew_61 : decode cX11_findFew 61 = .ok (.aload_n 0, 1) := by decide +kernel
theorem dX11_findFew_62 : decode cX11_findFew 62 = .ok (.getfield 245, 3) := by decide +kernel
theorem dX11_findFew_65 : decode cX11_findFew 65 = .ok (.ifCond .eq 12, 3) := by decide +kernel
theorem dX11_findFew_68 : decode cX11_findFew 68 = .ok (.aload_n 0, 1) := by decide +kernel
theorem dX11_findFew_69 : decode cX11_findFew 69 = .ok (.iload_n 1, 1) := by decide +kernel
theorem dX11_findFew_70 : decode cX11_findFew 70 = .ok (.iload_n 2, 1) := by decide +kernel
theorem dX11_findFew_71 : decode cX11_findFew 71 = .ok (.invokevirtual 266, 3) := by decide +kernel
theorem dX11_findFew_74 : decode cX11_findFew 74 = .ok (.ifCond .eq 4, 3) := by decide +kernel
theorem dX11_findFew_77 : decode cX11_findFew 77 = .ok (.return_, 1) := by decide +kernel
theorem dX11_findFew_78 : decode cX11_findFew 78 = .ok (.iconst 1, 1) := by decide +kernel
theorem dX11_findFew_79 : decode cX11_findFew 79 = .ok (.istore_n 3, 1) := by decide +kernel
theorem dX11_findFew_80 : decode cX11_findFew 80 = .ok (.iload_n 3, 1) := by decide +kernel
theorem dX11_findFew_81 : decode cX11_findFew 81 = .ok (.aload_n 0, 1) := by decide +kernel
theorem dX11_findFew_82 : decode cX11_findFew 82 = .ok (.getfield 9, 3) := by decide +kernel
theorem dX11_findFew_85 : decode cX11_findFew 85 = .ok (.iconst 4, 1) := by decide +kernel
theorem dX11_findFew_86 : decode cX11_findFew 86 = .ok (.iaload, 1) := by decide +kernel
theorem dX11_findFew_87 : decode cX11_findFew 87 = .ok (.if_icmp .ge 56, 3) := by decide +kernel
theorem dX11_findFew_90 : decode cX11_findFew 90 = .ok (.iconst 0, 1) := by decide +kernel
theorem dX11_findFew_91 : decode cX11_findFew 91 = .ok (.istore 4, 2) := by decide +kernel
theorem dX11_findFew_93 : decode cX11_findFew 93 = .ok (.iload 4, 2) := by decide +kernel
theorem dX11_findFew_95 : decode cX11_findFew 95 = .ok (.iload_n 3, 1) := by decide +kernel
theorem dX11_findFew_96 : decode cX11_findFew 96 = .ok (.if_icmp .ge 41, 3) := by decide +kernel
theorem dX11_findFew_99 : decode cX11_findFew 99 = .ok (.aload_n 0, 1) := by decide +kernel
theorem dX11_findFew_100 : decode cX11_findFew 100 = .ok (.iload_n 3, 1) := by decide +kernel
theorem dX11_findFew_101 : decode cX11_findFew 101 = .ok (.iconst 4, 1) := by decide +kernel
theorem dX11_findFew_102 : decode cX11_findFew 102 = .ok (.invokevirtual 101, 3) := by decide +kernel
theorem dX11_findFew_105 : decode cX11_findFew 105 = .ok (.ifCond .ne 32, 3) := by decide +kernel
theorem dX11_findFew_108 : decode cX11_findFew 108 = .ok (.aload_n 0, 1) := by decide +kernel
theorem dX11_findFew_109 : decode cX11_findFew 109 = .ok (.iload 4, 2) := by decide +kernel
theorem dX11_findFew_111 : decode cX11_findFew 111 = .ok (.iconst 4, 1) := by decide +kernel
theorem dX11_findFew_112 : decode cX11_findFew 112 = .ok (.invokevirtual 101, 3) := by decide +kernel
theorem dX11_findFew_115 : decode cX11_findFew 115 = .ok (.ifCond .ne 16, 3) := by decide +kernel
theorem dX11_findFew_118 : decode cX11_findFew 118 = .ok (.aload_n 0, 1) := by decide +kernel
theorem dX11_findFew_119 : decode cX11_findFew 119 = .ok (.iload 4, 2) := by decide +kernel
theorem dX11_findFew_121 : decode cX11_findFew 121 = .ok (.iload_n 3, 1) := by decide +kernel
theorem dX11_findFew_122 : decode cX11_findFew 122 = .ok (.iload_n 1, 1) := by decide +kernel
theorem dX11_findFew_123 : decode cX11_findFew 123 = .ok (.iload_n 2, 1) := by decide +kernel
theorem dX11_findFew_124 : decode cX11_findFew 124 = .ok (.invokevirtual 269, 3) := by decide +kernel
theorem dX11_findFew_127 : decode cX11_findFew 127 = .ok (.ifCond .eq 4, 3) := by decide +kernel
theorem dX11_findFew_130 : decode cX11_findFew 130 = .ok (.return_, 1) := by decide +kernel
theorem dX11_findFew_131 : decode cX11_findFew 131 = .ok (.iinc 4 1, 3) := by decide +kernel
theorem dX11_findFew_134 : decode cX11_findFew 134 = .ok (.goto (-41), 3) := by decide +kernel
theorem dX11_findFew_137 : decode cX11_findFew 137 = .ok (.iinc 3 1, 3) := by decide +kernel
theorem dX11_findFew_140 : decode cX11_findFew 140 = .ok (.goto (-60), 3) := by decide +kernel
theorem dX11_findFew_143 : decode cX11_findFew 143 = .ok (.return_, 1) := by decide +kernel
theorem dX11_turnsOf_0 : decode cX11_turnsOf 0 = .ok (.iload_n 2, 1) := by decide +kernel
theorem dX11_turnsOf_1 : decode cX11_turnsOf 1 = .ok (.aload_n 0, 1) := by decide +kernel
theorem dX11_turnsOf_2 : decode cX11_turnsOf 2 = .ok (.iload_n 1, 1) := by decide +kernel
theorem dX11_turnsOf_3 : decode cX11_turnsOf 3 = .ok (.iconst 3, 1) := by decide +kernel
theorem dX11_turnsOf_4 : decode cX11_turnsOf 4 = .ok (.invokevirtual 101, 3) := by decide +kernel
theorem dX11_turnsOf_7 : decode cX11_turnsOf 7 = .ok (.isub, 1) := by decide +kernel
theorem dX11_turnsOf_8 : decode cX11_turnsOf 8 = .ok (.istore_n 3, 1) := by decide +kernel
theorem dX11_turnsOf_9 : decode cX11_turnsOf 9 = .ok (.iload_n 3, 1) := by decide +kernel
theorem dX11_turnsOf_10 : decode cX11_turnsOf 10 = .ok (.ifCond .ge 8, 3) := by decide +kernel
theorem dX11_turnsOf_13 : decode cX11_turnsOf 13 = .ok (.iload_n 3, 1) := by decide +kernel
theorem dX11_turnsOf_14 : decode cX11_turnsOf 14 = .ok (.ineg, 1) := by decide +kernel
theorem dX11_turnsOf_15 : decode cX11_turnsOf 15 = .ok (.goto 4, 3) := by decide +kernel
theorem dX11_turnsOf_18 : decode cX11_turnsOf 18 = .ok (.iload_n 3, 1) := by decide +kernel
theorem dX11_turnsOf_19 : decode cX11_turnsOf 19 = .ok (.ireturn, 1) := by decide +kernel
theorem dX11_few_0 : decode cX11_few 0 = .ok (.iload_n 1, 1) := by decide +kernel
theorem dX11_few_1 : decode cX11_few 1 = .ok (.invokestatic 233, 3) := by decide +kernel
theorem dX11_few_4 : decode cX11_few 4 = .ok (.ifCond .eq 22, 3) := by decide +kernel
theorem dX11_few_7 : decode cX11_few 7 = .ok (.iload_n 2, 1) := by decide +kernel
theorem dX11_few_8 : decode cX11_few 8 = .ok (.iconst 1, 1) := by decide +kernel
theorem dX11_few_9 : decode cX11_few 9 = .ok (.bipush 8, 2) := by decide +kernel
theorem dX11_few_11 : decode cX11_few 11 = .ok (.invokestatic 97, 3) := by decide +kernel
theorem dX11_few_14 : decode cX11_few 14 = .ok (.ifCond .eq 12, 3) := by decide +kernel
theorem dX11_few_17 : decode cX11_few 17 = .ok (.iload_n 3, 1) := by decide +kernel
theorem dX11_few_18 : decode cX11_few 18 = .ok (.iconst 0, 1) := by decide +kernel
theorem dX11_few_19 : decode cX11_few 19 = .ok (.iconst 4, 1) := by decide +kernel
theorem dX11_few_20 : decode cX11_few 20 = .ok (.invokestatic 97, 3) := by decide +kernel
theorem dX11_few_23 : decode cX11_few 23 = .ok (.ifCond .ne 10, 3) := by decide +kernel
theorem dX11_few_26 : decode cX11_few 26 = .ok (.aload_n 0, 1) := by decide +kernel
theorem dX11_few_27 : decode cX11_few 27 = .ok (.ldc 92, 2) := by decide +kernel
theorem dX11_few_29 : decode cX11_few 29 = .ok (.invokevirtual 109, 3) := by decide +kernel
theorem dX11_few_32 : decode cX11_few 32 = .ok (.ireturn, 1) := by decide +kernel
theorem dX11_few_33 : decode cX11_few 33 = .ok (.aload_n 0, 1) := by decide +kernel
theorem dX11_few_34 : decode cX11_few 34 = .ok (.iload_n 1, 1) := by decide +kernel
theorem dX11_few_35 : decode cX11_few 35 = .ok (.iload_n 2, 1) := by decide +kernel
theorem dX11_few_36 : decode cX11_few 36 = .ok (.invokevirtual 273, 3) := by decide +kernel
theorem dX11_few_39 : decode cX11_few 39 = .ok (.aload_n 0, 1) := by decide +kernel
theorem dX11_few_40 : decode cX11_few 40 = .ok (.getfield 245, 3) := by decide +kernel
theorem dX11_few_43 : decode cX11_few 43 = .ok (.ifCond .ge 10, 3) := by decide +kernel
theorem dX11_few_46 : decode cX11_few 46 = .ok (.aload_n 0, 1) := by decide +kernel
theorem dX11_few_47 : decode cX11_few 47 = .ok (.ldc 225, 2) := by decide +kernel
theorem dX11_few_49 : decode cX11_few 49 = .ok (.invokevirtual 109, 3) := by decide +kernel
theorem dX11_few_52 : decode cX11_few 52 = .ok (.ireturn, 1) := by decide +kernel
theorem dX11_few_53 : decode cX11_few 53 = .ok (.iload_n 3, 1) := by decide +kernel
theorem dX11_few_54 : decode cX11_few 54 = .ok (.tableswitch 137 0 3 #[30, 35, 72, 121], 30) := by decide +kernel
theorem dX11_few_84 : decode cX11_few 84 = .ok (.aload_n 0, 1) := by decide +kernel
theorem dX11_few_85 : decode cX11_few 85 = .ok (.getfield 245, 3) := by decide +kernel
theorem dX11_few_88 : decode cX11_few 88 = .ok (.ireturn, 1) := by decide +kernel
theorem dX11_few_89 : decode cX11_few 89 = .ok (.aload_n 0, 1) := by decide +kernel
theorem dX11_few_90 : decode cX11_few 90 = .ok (.getfield 245, 3) := by decide +kernel
theorem dX11_few_93 : decode cX11_few 93 = .ok (.ifCond .le 12, 3) := by decide +kernel
theorem dX11_few_96 : decode cX11_few 96 = .ok (.iconst 1, 1) := by decide +kernel
theorem dX11_few_97 : decode cX11_few 97 = .ok (.aload_n 0, 1) := by decide +kernel
theorem dX11_few_98 : decode cX11_few 98 = .ok (.getfield 248, 3) := by decide +kernel
theorem dX11_few_101 : decode cX11_few 101 = .ok (.ishl, 1) := by decide +kernel
theorem dX11_few_102 : decode cX11_few 102 = .ok (.goto 4, 3) := by decide +kernel
theorem dX11_few_105 : decode cX11_few 105 = .ok (.iconst 0, 1) := by decide +kernel
theorem dX11_few_106 : decode cX11_few 106 = .ok (.aload_n 0, 1) := by decide +kernel
theorem dX11_few_107 : decode cX11_few 107 = .ok (.getfield 245, 3) := by decide +kernel
theorem dX11_few_110 : decode cX11_few 110 = .ok (.iconst 1, 1) := by decide +kernel
theorem dX11_few_111 : decode cX11_few 111 = .ok (.if_icmp .le 12, 3) := by decide +kernel
theorem dX11_few_114 : decode cX11_few 114 = .ok (.iconst 1, 1) := by decide +kernel
theorem dX11_few_115 : decode cX11_few 115 = .ok (.aload_n 0, 1) := by decide +kernel
theorem dX11_few_116 : decode cX11_few 116 = .ok (.getfield 254, 3) := by decide +kernel
theorem dX11_few_119 : decode cX11_few 119 = .ok (.ishl, 1) := by decide +kernel
theorem dX11_few_120 : decode cX11_few 120 = .ok (.goto 4, 3) := by decide +kernel
theorem dX11_few_123 : decode cX11_few 123 = .ok (.iconst 0, 1) := by decide +kernel
theorem dX11_few_124 : decode cX11_few 124 = .ok (.ior, 1) := by decide +kernel
theorem dX11_few_125 : decode cX11_few 125 = .ok (.ireturn, 1) := by decide +kernel
theorem dX11_few_126 : decode cX11_few 126 = .ok (.aload_n 0, 1) := by decide +kernel
theorem dX11_few_127 : decode cX11_few 127 = .ok (.getfield 245, 3) := by decide +kernel
theorem dX11_few_130 : decode cX11_few 130 = .ok (.ifCond .le 18, 3) := by decide +kernel
theorem dX11_few_133 : decode cX11_few 133 = .ok (.aload_n 0, 1) := by decide +kernel
theorem dX11_few_134 : decode cX11_few 134 = .ok (.aload_n 0, 1) := by decide +kernel
theorem dX11_few_135 : decode cX11_few 135 = .ok (.getfield 248, 3) := by decide +kernel
theorem dX11_few_138 : decode cX11_few 138 = .ok (.aload_n 0, 1) := by decide +kernel
theorem dX11_few_139 : decode cX11_few 139 = .ok (.getfield 251, 3) := by decide +kernel
theorem dX11_few_142 : decode cX11_few 142 = .ok (.invokevirtual 277, 3) := by decide +kernel
theorem dX11_few_145 : decode cX11_few 145 = .ok (.goto 4, 3) := by decide +kernel
theorem dX11_few_148 : decode cX11_few 148 = .ok (.iconst 0, 1) := by decide +kernel
theorem dX11_few_149 : decode cX11_few 149 = .ok (.aload_n 0, 1) := by decide +kernel
theorem dX11_few_150 : decode cX11_few 150 = .ok (.getfield 245, 3) := by decide +kernel
theorem dX11_few_153 : decode cX11_few 153 = .ok (.iconst 1, 1) := by decide +kernel
theorem dX11_few_154 : decode cX11_few 154 = .ok (.if_icmp .le 18, 3) := by decide +kernel
theorem dX11_few_157 : decode cX11_few 157 = .ok (.aload_n 0, 1) := by decide +kernel
theorem dX11_few_158 : decode cX11_few 158 = .ok (.aload_n 0, 1) := by decide +kernel
theorem dX11_few_159 : decode cX11_few 159 = .ok (.getfield 254, 3) := by decide +kernel
theorem dX11_few_162 : decode cX11_few 162 = .ok (.aload_n 0, 1) := by decide +kernel
theorem dX11_few_163 : decode cX11_few 163 = .ok (.getfield 257, 3) := by decide +kernel
theorem dX11_few_166 : decode cX11_few 166 = .ok (.invokevirtual 277, 3) := by decide +kernel
theorem dX11_few_169 : decode cX11_few 169 = .ok (.goto 4, 3) := by decide +kernel
theorem dX11_few_172 : decode cX11_few 172 = .ok (.iconst 0, 1) := by decide +kernel
theorem dX11_few_173 : decode cX11_few 173 = .ok (.iadd, 1) := by decide +kernel
theorem dX11_few_174 : decode cX11_few 174 = .ok (.ireturn, 1) := by decide +kernel
theorem dX11_few_175 : decode cX11_few 175 = .ok (.aload_n 0, 1) := by decide +kernel
theorem dX11_few_176 : decode cX11_few 176 = .ok (.getfield 245, 3) := by decide +kernel
theorem dX11_few_179 : decode cX11_few 179 = .ok (.ifCond .le 10, 3) := by decide +kernel
theorem dX11_few_182 : decode cX11_few 182 = .ok (.aload_n 0, 1) := by decide +kernel
theorem dX11_few_183 : decode cX11_few 183 = .ok (.getfield 251, 3) := by decide +kernel
theorem dX11_few_186 : decode cX11_few 186 = .ok (.goto 4, 3) := by decide +kernel
theorem dX11_few_189 : decode cX11_few 189 = .ok (.iconst (-1), 1) := by decide +kernel
theorem dX11_few_190 : decode cX11_few 190 = .ok (.ireturn, 1) := by decide +kernel
theorem dX11_few_191 : decode cX11_few 191 = .ok (.aload_n 0, 1) := by decide +kernel
theorem dX11_few_192 : decode cX11_few 192 = .ok (.getfield 245, 3) := by decide +kernel
theorem dX11_few_195 : decode cX11_few 195 = .ok (.iconst 1, 1) := by decide +kernel
theorem dX11_few_196 : decode cX11_few 196 = .ok (.if_icmp .le 10, 3) := by decide +kernel
theorem dX11_few_199 : decode cX11_few 199 = .ok (.aload_n 0, 1) := by decide +kernel
theorem dX11_few_200 : decode cX11_few 200 = .ok (.getfield 257, 3) := by decide +kernel
theorem dX11_few_203 : decode cX11_few 203 = .ok (.goto 4, 3) := by decide +kernel
theorem dX11_few_206 : decode cX11_few 206 = .ok (.iconst (-1), 1) := by decide +kernel
theorem dX11_few_207 : decode cX11_few 207 = .ok (.ireturn, 1) := by decide +kernel
theorem dX11_setback_0 : decode cX11_setback 0 = .ok (.iload_n 1, 1) := by decide +kernel
theorem dX11_setback_1 : decode cX11_setback 1 = .ok (.iconst 0, 1) := by decide +kernel
theorem dX11_setback_2 : decode cX11_setback 2 = .ok (.sipush 900, 3) := by decide +kernel
theorem dX11_setback_5 : decode cX11_setback 5 = .ok (.invokestatic 97, 3) := by decide +kernel
theorem dX11_setback_8 : decode cX11_setback 8 = .ok (.ifCond .eq 13, 3) := by decide +kernel
theorem dX11_setback_11 : decode cX11_setback 11 = .ok (.iload_n 2, 1) := by decide +kernel
theorem dX11_setback_12 : decode cX11_setback 12 = .ok (.iconst 1, 1) := by decide +kernel
theorem dX11_setback_13 : decode cX11_setback 13 = .ok (.bipush 50, 2) := by decide +kernel
theorem dX11_setback_15 : decode cX11_setback 15 = .ok (.invokestatic 97, 3) := by decide +kernel
theorem dX11_setback_18 : decode cX11_setback 18 = .ok (.ifCond .ne 10, 3) := by decide +kernel
theorem dX11_setback_21 : decode cX11_setback 21 = .ok (.aload_n 0, 1) := by decide +kernel
theorem dX11_setback_22 : decode cX11_setback 22 = .ok (.ldc 92, 2) := by decide +kernel
theorem dX11_setback_24 : decode cX11_setback 24 = .ok (.invokevirtual 109, 3) := by decide +kernel
theorem dX11_setback_27 : decode cX11_setback 27 = .ok (.ireturn, 1) := by decide +kernel
theorem dX11_setback_28 : decode cX11_setback 28 = .ok (.aload_n 0, 1) := by decide +kernel
theorem dX11_setback_29 : decode cX11_setback 29 = .ok (.invokevirtual 145, 3) := by decide +kernel
theorem dX11_setback_32 : decode cX11_setback 32 = .ok (.aload_n 0, 1) := by decide +kernel
theorem dX11_setback_33 : decode cX11_setback 33 = .ok (.aload_n 0, 1) := by decide +kernel
theorem dX11_setback_34 : decode cX11_setback 34 = .ok (.getfield 9, 3) := by decide +kernel
theorem dX11_setback_37 : decode cX11_setback 37 = .ok (.iconst 3, 1) := by decide +kernel
theorem dX11_setback_38 : decode cX11_setback 38 = .ok (.iaload, 1) := by decide +kernel
theorem dX11_setback_39 : decode cX11_setback 39 = .ok (.iload_n 2, 1) := by decide +kernel
theorem dX11_setback_40 : decode cX11_setback 40 = .ok (.invokevirtual 236, 3) := by decide +kernel
theorem dX11_setback_43 : decode cX11_setback 43 = .ok (.istore_n 3, 1) := by decide +kernel
theorem dX11_setback_44 : decode cX11_setback 44 = .ok (.aload_n 0, 1) := by decide +kernel
theorem dX11_setback_45 : decode cX11_setback 45 = .ok (.invokevirtual 123, 3) := by decide +kernel
theorem dX11_setback_48 : decode cX11_setback 48 = .ok (.iload_n 3, 1) := by decide +kernel
theorem dX11_setback_49 : decode cX11_setback 49 = .ok (.aload_n 0, 1) := by decide +kernel
theorem dX11_setback_50 : decode cX11_setback 50 = .ok (.iload_n 1, 1) := by decide +kernel
theorem dX11_setback_51 : decode cX11_setback 51 = .ok (.iload_n 2, 1) := by decide +kernel
theorem dX11_setback_52 : decode cX11_setback 52 = .ok (.invokevirtual 236, 3) := by decide +kernel
theorem dX11_setback_55 : decode cX11_setback 55 = .ok (.isub, 1) := by decide +kernel
theorem dX11_setback_56 : decode cX11_setback 56 = .ok (.ireturn, 1) := by decide +kernel
theorem dX11_works_0 : decode cX11_works 0 = .ok (.aload_n 0, 1) := by decide +kernel
theorem dX11_works_1 : decode cX11_works 1 = .ok (.iload_n 1, 1) := by decide +kernel
theorem dX11_works_2 : decode cX11_works 2 = .ok (.invokevirtual 141, 3) := by decide +kernel
theorem dX11_works_5 : decode cX11_works 5 = .ok (.ifCond .eq 23, 3) := by decide +kernel
theorem dX11_works_8 : decode cX11_works 8 = .ok (.iload_n 2, 1) := by decide +kernel
theorem dX11_works_9 : decode cX11_works 9 = .ok (.iconst 1, 1) := by decide +kernel
theorem dX11_works_10 : decode cX11_works 10 = .ok (.bipush 99, 2) := by decide +kernel
theorem dX11_works_12 : decode cX11_works 12 = .ok (.invokestatic 97, 3) := by decide +kernel
theorem dX11_works_15 : decode cX11_works 15 = .ok (.ifCond .eq 13, 3) := by decide +kernel
theorem dX11_works_18 : decode cX11_works 18 = .ok (.iload_n 3, 1) := by decide +kernel
theorem dX11_works_19 : decode cX11_works 19 = .ok (.iconst 1, 1) := by decide +kernel
theorem dX11_works_20 : decode cX11_works 20 = .ok (.bipush 50, 2) := by decide +kernel
theorem dX11_works_22 : decode cX11_works 22 = .ok (.invokestatic 97, 3) := by decide +kernel
theorem dX11_works_25 : decode cX11_works 25 = .ok (.ifCond .ne 10, 3) := by decide +kernel
theorem dX11_works_28 : decode cX11_works 28 = .ok (.aload_n 0, 1) := by decide +kernel
theorem dX11_works_29 : decode cX11_works 29 = .ok (.ldc 92, 2) := by decide +kernel
theorem dX11_works_31 : decode cX11_works 31 = .ok (.invokevirtual 109, 3) := by decide +kernel
theorem dX11_works_34 : decode cX11_works 34 = .ok (.ireturn, 1) := by decide +kernel
theorem dX11_works_35 : decode cX11_works 35 = .ok (.aload_n 0, 1) := by decide +kernel
theorem dX11_works_36 : decode cX11_works 36 = .ok (.invokevirtual 145, 3) := by decide +kernel
theorem dX11_works_39 : decode cX11_works 39 = .ok (.aload_n 0, 1) := by decide +kernel
theorem dX11_works_40 : decode cX11_works 40 = .ok (.aload_n 0, 1) := by decide +kernel
theorem dX11_works_41 : decode cX11_works 41 = .ok (.getfield 9, 3) := by decide +kernel
theorem dX11_works_44 : decode cX11_works 44 = .ok (.iconst 3, 1) := by decide +kernel
theorem dX11_works_45 : decode cX11_works 45 = .ok (.iaload, 1) := by decide +kernel
theorem dX11_works_46 : decode cX11_works 46 = .ok (.iload_n 3, 1) := by decide +kernel
theorem dX11_works_47 : decode cX11_works 47 = .ok (.invokevirtual 236, 3) := by decide +kernel
theorem dX11_works_50 : decode cX11_works 50 = .ok (.istore 4, 2) := by decide +kernel
theorem dX11_works_52 : decode cX11_works 52 = .ok (.aload_n 0, 1) := by decide +kernel
theorem dX11_works_53 : decode cX11_works 53 = .ok (.invokevirtual 123, 3) := by decide +kernel
theorem dX11_works_56 : decode cX11_works 56 = .ok (.aload_n 0, 1) := by decide +kernel
theorem dX11_works_57 : decode cX11_works 57 = .ok (.getfield 40, 3) := by decide +kernel
theorem dX11_works_60 : decode cX11_works 60 = .ok (.iload_n 1, 1) := by decide +kernel
theorem dX11_works_61 : decode cX11_works 61 = .ok (.aload_n 0, 1) := by decide +kernel
theorem dX11_works_62 : decode cX11_works 62 = .ok (.iload_n 1, 1) := by decide +kernel
theorem dX11_works_63 : decode cX11_works 63 = .ok (.iload_n 2, 1) := by decide +kernel
theorem dX11_works_64 : decode cX11_works 64 = .ok (.invokevirtual 120, 3) := by decide +kernel
theorem dX11_works_67 : decode cX11_works 67 = .ok (.iastore, 1) := by decide +kernel
theorem dX11_works_68 : decode cX11_works 68 = .ok (.iload 4, 2) := by decide +kernel
theorem dX11_works_70 : decode cX11_works 70 = .ok (.aload_n 0, 1) := by decide +kernel
theorem dX11_works_71 : decode cX11_works 71 = .ok (.aload_n 0, 1) := by decide +kernel
theorem dX11_works_72 : decode cX11_works 72 = .ok (.getfield 9, 3) := by decide +kernel
theorem dX11_works_75 : decode cX11_works 75 = .ok (.iconst 3, 1) := by decide +kernel
theorem dX11_works_76 : decode cX11_works 76 = .ok (.iaload, 1) := by decide +kernel
theorem dX11_works_77 : decode cX11_works 77 = .ok (.iload_n 3, 1) := by decide +kernel
theorem dX11_works_78 : decode cX11_works 78 = .ok (.invokevirtual 236, 3) := by decide +kernel
theorem dX11_works_81 : decode cX11_works 81 = .ok (.isub, 1) := by decide +kernel
theorem dX11_works_82 : decode cX11_works 82 = .ok (.ireturn, 1) := by decide +kernel
theorem dX11_about_0 : decode cX11_about 0 = .ok (.aload_n 0, 1) := by decide +kernel
theorem dX11_about_1 : decode cX11_about 1 = .ok (.getfield 9, 3) := by decide +kernel
theorem dX11_about_4 : decode cX11_about 4 = .ok (.sipush 139, 3) := by decide +kernel
theorem dX11_about_7 : decode cX11_about 7 = .ok (.iconst 3, 1) := by decide +kernel
theorem dX11_about_8 : decode cX11_about 8 = .ok (.iload_n 1, 1) := by decide +kernel
theorem dX11_about_9 : decode cX11_about 9 = .ok (.imul, 1) := by decide +kernel
theorem dX11_about_10 : decode cX11_about 10 = .ok (.iadd, 1) := by decide +kernel
theorem dX11_about_11 : decode cX11_about 11 = .ok (.iload_n 2, 1) := by decide +kernel
theorem dX11_about_12 : decode cX11_about 12 = .ok (.iadd, 1) := by decide +kernel
theorem dX11_about_13 : decode cX11_about 13 = .ok (.iaload, 1) := by decide +kernel
theorem dX11_about_14 : decode cX11_about 14 = .ok (.ireturn, 1) := by decide +kernel
theorem dX11_isComplaint_0 : decode cX11_isComplaint 0 = .ok (.iload_n 1, 1) := by decide +kernel
theorem dX11_isComplaint_1 : decode cX11_isComplaint 1 = .ok (.iconst 0, 1) := by decide +kernel
theorem dX11_isComplaint_2 : decode cX11_isComplaint 2 = .ok (.aload_n 0, 1) := by decide +kernel
theorem dX11_isComplaint_3 : decode cX11_isComplaint 3 = .ok (.getfield 9, 3) := by decide +kernel
theorem dX11_isComplaint_6 : decode cX11_isComplaint 6 = .ok (.iconst 5, 1) := by decide +kernel
theorem dX11_isComplaint_7 : decode cX11_isComplaint 7 = .ok (.iaload, 1) := by decide +kernel
theorem dX11_isComplaint_8 : decode cX11_isComplaint 8 = .ok (.iconst 1, 1) := by decide +kernel
theorem dX11_isComplaint_9 : decode cX11_isComplaint 9 = .ok (.isub, 1) := by decide +kernel
theorem dX11_isComplaint_10 : decode cX11_isComplaint 10 = .ok (.invokestatic 97, 3) := by decide +kernel
theorem dX11_isComplaint_13 : decode cX11_isComplaint 13 = .ok (.ireturn, 1) := by decide +kernel
theorem dX11_complain_0 : decode cX11_complain 0 = .ok (.aload_n 0, 1) := by decide +kernel
theorem dX11_complain_1 : decode cX11_complain 1 = .ok (.iload_n 1, 1) := by decide +kernel
theorem dX11_complain_2 : decode cX11_complain 2 = .ok (.invokevirtual 141, 3) := by decide +kernel
theorem dX11_complain_5 : decode cX11_complain 5 = .ok (.ifCond .eq 12, 3) := by decide +kernel
theorem dX11_complain_8 : decode cX11_complain 8 = .ok (.iload_n 2, 1) := by decide +kernel
theorem dX11_complain_9 : decode cX11_complain 9 = .ok (.iconst 1, 1) := by decide +kernel
theorem dX11_complain_10 : decode cX11_complain 10 = .ok (.iconst 2, 1) := by decide +kernel
theorem dX11_complain_11 : decode cX11_complain 11 = .ok (.invokestatic 97, 3) := by decide +kernel
theorem dX11_complain_14 : decode cX11_complain 14 = .ok (.ifCond .ne 10, 3) := by decide +kernel
theorem dX11_complain_17 : decode cX11_complain 17 = .ok (.aload_n 0, 1) := by decide +kernel
theorem dX11_complain_18 : decode cX11_complain 18 = .ok (.ldc 92, 2) := by decide +kernel
theorem dX11_complain_20 : decode cX11_complain 20 = .ok (.invokevirtual 109, 3) := by decide +kernel
theorem dX11_complain_23 : decode cX11_complain 23 = .ok (.ireturn, 1) := by decide +kernel
theorem dX11_complain_24 : decode cX11_complain 24 = .ok (.aload_n 0, 1) := by decide +kernel
theorem dX11_complain_25 : decode cX11_complain 25 = .ok (.getfield 9, 3) := by decide +kernel
theorem dX11_complain_28 : decode cX11_complain 28 = .ok (.iconst 5, 1) := by decide +kernel
theorem dX11_complain_29 : decode cX11_complain 29 = .ok (.iaload, 1) := by decide +kernel
theorem dX11_complain_30 : decode cX11_complain 30 = .ok (.bipush 24, 2) := by decide +kernel
theorem dX11_complain_32 : decode cX11_complain 32 = .ok (.if_icmp .ne 10, 3) := by decide +kernel
theorem dX11_complain_35 : decode cX11_complain 35 = .ok (.aload_n 0, 1) := by decide +kernel
theorem dX11_complain_36 : decode cX11_complain 36 = .ok (.ldc 113, 2) := by decide +kernel
theorem dX11_complain_38 : decode cX11_complain 38 = .ok (.invokevirtual 109, 3) := by decide +kernel
theorem dX11_complain_41 : decode cX11_complain 41 = .ok (.ireturn, 1) := by decide +kernel
theorem dX11_complain_42 : decode cX11_complain 42 = .ok (.sipush 139, 3) := by decide +kernel
theorem dX11_complain_45 : decode cX11_complain 45 = .ok (.iconst 3, 1) := by decide +kernel
theorem dX11_complain_46 : decode cX11_complain 46 = .ok (.aload_n 0, 1) := by decide +kernel
theorem dX11_complain_47 : decode cX11_complain 47 = .ok (.getfield 9, 3) := by decide +kernel
theorem dX11_complain_50 : decode cX11_complain 50 = .ok (.iconst 5, 1) := by decide +kernel
theorem dX11_complain_51 : decode cX11_complain 51 = .ok (.iaload, 1) := by decide +kernel
theorem dX11_complain_52 : decode cX11_complain 52 = .ok (.imul, 1) := by decide +kernel
theorem dX11_complain_53 : decode cX11_complain 53 = .ok (.iadd, 1) := by decide +kernel
theorem dX11_complain_54 : decode cX11_complain 54 = .ok (.istore_n 3, 1) := by decide +kernel
theorem dX11_complain_55 : decode cX11_complain 55 = .ok (.aload_n 0, 1) := by decide +kernel
theorem dX11_complain_56 : decode cX11_complain 56 = .ok (.getfield 9, 3) := by decide +kernel
theorem dX11_complain_59 : decode cX11_complain 59 = .ok (.iload_n 3, 1) := by decide +kernel
theorem dX11_complain_60 : decode cX11_complain 60 = .ok (.iload_n 1, 1) := by decide +kernel
theorem dX11_complain_61 : decode cX11_complain 61 = .ok (.iastore, 1) := by decide +kernel
theorem dX11_complain_62 : decode cX11_complain 62 = .ok (.aload_n 0, 1) := by decide +kernel
theorem dX11_complain_63 : decode cX11_complain 63 = .ok (.getfield 9, 3) := by decide +kernel
theorem dX11_complain_66 : decode cX11_complain 66 = .ok (.iload_n 3, 1) := by decide +kernel
theorem dX11_complain_67 : decode cX11_complain 67 = .ok (.iconst 1, 1) := by decide +kernel
theorem dX11_complain_68 : decode cX11_complain 68 = .ok (.iadd, 1) := by decide +kernel
theorem dX11_complain_69 : decode cX11_complain 69 = .ok (.iload_n 2, 1) := by decide +kernel
theorem dX11_complain_70 : decode cX11_complain 70 = .ok (.iastore, 1) := by decide +kernel
theorem dX11_complain_71 : decode cX11_complain 71 = .ok (.aload_n 0, 1) := by decide +kernel
theorem dX11_complain_72 : decode cX11_complain 72 = .ok (.getfield 9, 3) := by decide +kernel
theorem dX11_complain_75 : decode cX11_complain 75 = .ok (.iload_n 3, 1) := by decide +kernel
theorem dX11_complain_76 : decode cX11_complain 76 = .ok (.iconst 2, 1) := by decide +kernel
theorem dX11_complain_77 : decode cX11_complain 77 = .ok (.iadd, 1) := by decide +kernel
theorem dX11_complain_78 : decode cX11_complain 78 = .ok (.aload_n 0, 1) := by decide +kernel
theorem dX11_complain_79 : decode cX11_complain 79 = .ok (.getfield 9, 3) := by decide +kernel
theorem dX11_complain_82 : decode cX11_complain 82 = .ok (.iconst 0, 1) := by decide +kernel
theorem dX11_complain_83 : decode cX11_complain 83 = .ok (.iaload, 1) := by decide +kernel
theorem dX11_complain_84 : decode cX11_complain 84 = .ok (.iastore, 1) := by decide +kernel
theorem dX11_complain_85 : decode cX11_complain 85 = .ok (.aload_n 0, 1) := by decide +kernel
theorem dX11_complain_86 : decode cX11_complain 86 = .ok (.getfield 9, 3) := by decide +kernel
theorem dX11_complain_89 : decode cX11_complain 89 = .ok (.iconst 5, 1) := by decide +kernel
theorem dX11_complain_90 : decode cX11_complain 90 = .ok (.dup2, 1) := by decide +kernel
theorem dX11_complain_91 : decode cX11_complain 91 = .ok (.iaload, 1) := by decide +kernel
theorem dX11_complain_92 : decode cX11_complain 92 = .ok (.iconst 1, 1) := by decide +kernel
theorem dX11_complain_93 : decode cX11_complain 93 = .ok (.iadd, 1) := by decide +kernel
theorem dX11_complain_94 : decode cX11_complain 94 = .ok (.iastore, 1) := by decide +kernel
theorem dX11_complain_95 : decode cX11_complain 95 = .ok (.aload_n 0, 1) := by decide +kernel
theorem dX11_complain_96 : decode cX11_complain 96 = .ok (.getfield 9, 3) := by decide +kernel
theorem dX11_complain_99 : decode cX11_complain 99 = .ok (.iconst 5, 1) := by decide +kernel
theorem dX11_complain_100 : decode cX11_complain 100 = .ok (.iaload, 1) := by decide +kernel
theorem dX11_complain_101 : decode cX11_complain 101 = .ok (.iconst 1, 1) := by decide +kernel
theorem dX11_complain_102 : decode cX11_complain 102 = .ok (.isub, 1) := by decide +kernel
theorem dX11_complain_103 : decode cX11_complain 103 = .ok (.ireturn, 1) := by decide +kernel
theorem dX11_areNear_0 : decode cX11_areNear 0 = .ok (.iload_n 0, 1) := by decide +kernel
theorem dX11_areNear_1 : decode cX11_areNear 1 = .ok (.iload_n 1, 1) := by decide +kernel
theorem dX11_areNear_2 : decode cX11_areNear 2 = .ok (.isub, 1) := by decide +kernel
theorem dX11_areNear_3 : decode cX11_areNear 3 = .ok (.iload_n 2, 1) := by decide +kernel
theorem dX11_areNear_4 : decode cX11_areNear 4 = .ok (.if_icmp .gt 14, 3) := by decide +kernel
theorem dX11_areNear_7 : decode cX11_areNear 7 = .ok (.iload_n 1, 1) := by decide +kernel
theorem dX11_areNear_8 : decode cX11_areNear 8 = .ok (.iload_n 0, 1) := by decide +kernel
theorem dX11_areNear_9 : decode cX11_areNear 9 = .ok (.isub, 1) := by decide +kernel
theorem dX11_areNear_10 : decode cX11_areNear 10 = .ok (.iload_n 2, 1) := by decide +kernel
theorem dX11_areNear_11 : decode cX11_areNear 11 = .ok (.if_icmp .gt 7, 3) := by decide +kernel
theorem dX11_areNear_14 : decode cX11_areNear 14 = .ok (.iconst 1, 1) := by decide +kernel
theorem dX11_areNear_15 : decode cX11_areNear 15 = .ok (.goto 4, 3) := by decide +kernel
theorem dX11_areNear_18 : decode cX11_areNear 18 = .ok (.iconst 0, 1) := by decide +kernel
theorem dX11_areNear_19 : decode cX11_areNear 19 = .ok (.ireturn, 1) := by decide +kernel
theorem dX11_join_0 : decode cX11_join 0 = .ok (.aload_n 0, 1) := by decide +kernel
theorem dX11_join_1 : decode cX11_join 1 = .ok (.iload_n 1, 1) := by decide +kernel
theorem dX11_join_2 : decode cX11_join 2 = .ok (.iconst 0, 1) := by decide +kernel
theorem dX11_join_3 : decode cX11_join 3 = .ok (.invokevirtual 280, 3) := by decide +kernel
theorem dX11_join_6 : decode cX11_join 6 = .ok (.istore_n 3, 1) := by decide +kernel
theorem dX11_join_7 : decode cX11_join 7 = .ok (.aload_n 0, 1) := by decide +kernel
theorem dX11_join_8 : decode cX11_join 8 = .ok (.iload_n 2, 1) := by decide +kernel
theorem dX11_join_9 : decode cX11_join 9 = .ok (.iconst 0, 1) := by decide +kernel
theorem dX11_join_10 : decode cX11_join 10 = .ok (.invokevirtual 280, 3) := by decide +kernel
theorem dX11_join_13 : decode cX11_join 13 = .ok (.istore 4, 2) := by decide +kernel
theorem dX11_join_15 : decode cX11_join 15 = .ok (.iload_n 3, 1) := by decide +kernel
theorem dX11_join_16 : decode cX11_join 16 = .ok (.iload 4, 2) := by decide +kernel
theorem dX11_join_18 : decode cX11_join 18 = .ok (.if_icmp .eq 37, 3) := by decide +kernel
theorem dX11_join_21 : decode cX11_join 21 = .ok (.aload_n 0, 1) := by decide +kernel
theorem dX11_join_22 : decode cX11_join 22 = .ok (.iload_n 3, 1) := by decide +kernel
theorem dX11_join_23 : decode cX11_join 23 = .ok (.iconst 1, 1) := by decide +kernel
theorem dX11_join_24 : decode cX11_join 24 = .ok (.invokevirtual 101, 3) := by decide +kernel
theorem dX11_join_27 : decode cX11_join 27 = .ok (.aload_n 0, 1) := by decide +kernel
theorem dX11_join_28 : decode cX11_join 28 = .ok (.iload 4, 2) := by decide +kernel
theorem dX11_join_30 : decode cX11_join 30 = .ok (.iconst 1, 1) := by decide +kernel
theorem dX11_join_31 : decode cX11_join 31 = .ok (.invokevirtual 101, 3) := by decide +kernel
theorem dX11_join_34 : decode cX11_join 34 = .ok (.if_icmp .ne 25, 3) := by decide +kernel
theorem dX11_join_37 : decode cX11_join 37 = .ok (.aload_n 0, 1) := by decide +kernel
theorem dX11_join_38 : decode cX11_join 38 = .ok (.iload_n 3, 1) := by decide +kernel
theorem dX11_join_39 : decode cX11_join 39 = .ok (.invokevirtual 114, 3) := by decide +kernel
theorem dX11_join_42 : decode cX11_join 42 = .ok (.aload_n 0, 1) := by decide +kernel
theorem dX11_join_43 : decode cX11_join 43 = .ok (.iload 4, 2) := by decide +kernel
theorem dX11_join_45 : decode cX11_join 45 = .ok (.invokevirtual 114, 3) := by decide +kernel
theorem dX11_join_48 : decode cX11_join 48 = .ok (.iconst 1, 1) := by decide +kernel
theorem dX11_join_49 : decode cX11_join 49 = .ok (.invokestatic 283, 3) := by decide +kernel
theorem dX11_join_52 : decode cX11_join 52 = .ok (.ifCond .eq 7, 3) := by decide +kernel
theorem dX11_join_55 : decode cX11_join 55 = .ok (.iconst 1, 1) := by decide +kernel
theorem dX11_join_56 : decode cX11_join 56 = .ok (.goto 4, 3) := by decide +kernel
theorem dX11_join_59 : decode cX11_join 59 = .ok (.iconst 0, 1) := by decide +kernel
theorem dX11_join_60 : decode cX11_join 60 = .ok (.istore 5, 2) := by decide +kernel
theorem dX11_join_62 : decode cX11_join 62 = .ok (.iload 5, 2) := by decide +kernel
theorem dX11_join_64 : decode cX11_join 64 = .ok (.ifCond .eq 41, 3) := by decide +kernel
theorem dX11_join_67 : decode cX11_join 67 = .ok (.aload_n 0, 1) := by decide +kernel
theorem dX11_join_68 : decode cX11_join 68 = .ok (.iload_n 1, 1) := by decide +kernel
theorem dX11_join_69 : decode cX11_join 69 = .ok (.iconst 1, 1) := by decide +kernel
theorem dX11_join_70 : decode cX11_join 70 = .ok (.invokevirtual 280, 3) := by decide +kernel
theorem dX11_join_73 : decode cX11_join 73 = .ok (.aload_n 0, 1) := by decide +kernel
theorem dX11_join_74 : decode cX11_join 74 = .ok (.iload_n 2, 1) := by decide +kernel
theorem dX11_join_75 : decode cX11_join 75 = .ok (.iconst 1, 1) := by decide +kernel
theorem dX11_join_76 : decode cX11_join 76 = .ok (.invokevirtual 280, 3) := by decide +kernel
theorem dX11_join_79 : decode cX11_join 79 = .ok (.if_icmp .ne 26, 3) := by decide +kernel
theorem dX11_join_82 : decode cX11_join 82 = .ok (.aload_n 0, 1) := by decide +kernel
theorem dX11_join_83 : decode cX11_join 83 = .ok (.iload_n 1, 1) := by decide +kernel
theorem dX11_join_84 : decode cX11_join 84 = .ok (.iconst 2, 1) := by decide +kernel
theorem dX11_join_85 : decode cX11_join 85 = .ok (.invokevirtual 280, 3) := by decide +kernel
theorem dX11_join_88 : decode cX11_join 88 = .ok (.aload_n 0, 1) := by decide +kernel
theorem dX11_join_89 : decode cX11_join 89 = .ok (.iload_n 2, 1) := by decide +kernel
theorem dX11_join_90 : decode cX11_join 90 = .ok (.iconst 2, 1) := by decide +kernel
theorem dX11_join_91 : decode cX11_join 91 = .ok (.invokevirtual 280, 3) := by decide +kernel
theorem dX11_join_94 : decode cX11_join 94 = .ok (.iconst 3, 1) := by decide +kernel
theorem dX11_join_95 : decode cX11_join 95 = .ok (.invokestatic 283, 3) := by decide +kernel
theorem dX11_join_98 : decode cX11_join 98 = .ok (.ifCond .eq 7, 3) := by decide +kernel
theorem dX11_join_101 : decode cX11_join 101 = .ok (.iconst 1, 1) := by decide +kernel
theorem dX11_join_102 : decode cX11_join 102 = .ok (.goto 4, 3) := by decide +kernel
theorem dX11_join_105 : decode cX11_join 105 = .ok (.iconst 0, 1) := by decide +kernel
theorem dX11_join_106 : decode cX11_join 106 = .ok (.ireturn, 1) := by decide +kernel
theorem dX11_findGroups_0 : decode cX11_findGroups 0 = .ok (.iconst 0, 1) := by decide +kernel
theorem dX11_findGroups_1 : decode cX11_findGroups 1 = .ok (.istore_n 1, 1) := by decide +kernel
theorem dX11_findGroups_2 : decode cX11_findGroups 2 = .ok (.iload_n 1, 1) := by decide +kernel
theorem dX11_findGroups_3 : decode cX11_findGroups 3 = .ok (.aload_n 0, 1) := by decide +kernel
theorem dX11_findGroups_4 : decode cX11_findGroups 4 = .ok (.getfield 9, 3) := by decide +kernel
theorem dX11_findGroups_7 : decode cX11_findGroups 7 = .ok (.iconst 5, 1) := by decide +kernel
theorem dX11_findGroups_8 : decode cX11_findGroups 8 = .ok (.iaload, 1) := by decide +kernel
theorem dX11_findGroups_9 : decode cX11_findGroups 9 = .ok (.if_icmp .ge 16, 3) := by decide +kernel
theorem dX11_findGroups_12 : decode cX11_findGroups 12 = .ok (.aload_n 0, 1) := by decide +kernel
theorem dX11_findGroups_13 : decode cX11_findGroups 13 = .ok (.getfield 76, 3) := by decide +kernel
theorem dX11_findGroups_16 : decode cX11_findGroups 16 = .ok (.iload_n 1, 1) := by decide +kernel
theorem dX11_findGroups_17 : decode cX11_findGroups 17 = .ok (.iload_n 1, 1) := by decide +kernel
theorem dX11_findGroups_18 : decode cX11_findGroups 18 = .ok (.iastore, 1) := by decide +kernel
theorem dX11_findGroups_19 : decode cX11_findGroups 19 = .ok (.iinc 1 1, 3) := by decide +kernel
theorem dX11_findGroups_22 : decode cX11_findGroups 22 = .ok (.goto (-20), 3) := by decide +kernel
theorem dX11_findGroups_25 : decode cX11_findGroups 25 = .ok (.iconst 1, 1) := by decide +kernel
theorem dX11_findGroups_26 : decode cX11_findGroups 26 = .ok (.istore_n 1, 1) := by decide +kernel
theorem dX11_findGroups_27 : decode cX11_findGroups 27 = .ok (.iload_n 1, 1) := by decide +kernel
theorem dX11_findGroups_28 : decode cX11_findGroups 28 = .ok (.ifCond .eq 113, 3) := by decide +kernel
theorem dX11_findGroups_31 : decode cX11_findGroups 31 = .ok (.iconst 0, 1) := by decide +kernel
theorem dX11_findGroups_32 : decode cX11_findGroups 32 = .ok (.istore_n 1, 1) := by decide +kernel
theorem dX11_findGroups_33 : decode cX11_findGroups 33 = .ok (.iconst 0, 1) := by decide +kernel
theorem dX11_findGroups_34 : decode cX11_findGroups 34 = .ok (.istore_n 2, 1) := by decide +kernel
theorem dX11_findGroups_35 : decode cX11_findGroups 35 = .ok (.iload_n 2, 1) := by decide +kernel
theorem dX11_findGroups_36 : decode cX11_findGroups 36 = .ok (.aload_n 0, 1) := by decide +kernel
theorem dX11_findGroups_37 : decode cX11_findGroups 37 = .ok (.getfield 9, 3) := by decide +kernel
theorem dX11_findGroups_40 : decode cX11_findGroups 40 = .ok (.iconst 5, 1) := by decide +kernel
theorem dX11_findGroups_41 : decode cX11_findGroups 41 = .ok (.iaload, 1) := by decide +kernel
theorem dX11_findGroups_42 : decode cX11_findGroups 42 = .ok (.if_icmp .ge 96, 3) := by decide +kernel
theorem dX11_findGroups_45 : decode cX11_findGroups 45 = .ok (.iconst 0, 1) := by decide +kernel
theorem dX11_findGroups_46 : decode cX11_findGroups 46 = .ok (.istore_n 3, 1) := by decide +kernel
theorem dX11_findGroups_47 : decode cX11_findGroups 47 = .ok (.iload_n 3, 1) := by decide +kernel
theorem dX11_findGroups_48 : decode cX11_findGroups 48 = .ok (.iload_n 2, 1) := by decide +kernel
theorem dX11_findGroups_49 : decode cX11_findGroups 49 = .ok (.if_icmp .ge 83, 3) := by decide +kernel
theorem dX11_findGroups_52 : decode cX11_findGroups 52 = .ok (.aload_n 0, 1) := by decide +kernel
theorem dX11_findGroups_53 : decode cX11_findGroups 53 = .ok (.getfield 76, 3) := by decide +kernel
theorem dX11_findGroups_56 : decode cX11_findGroups 56 = .ok (.iload_n 2, 1) := by decide +kernel
theorem dX11_findGroups_57 : decode cX11_findGroups 57 = .ok (.iaload, 1) := by decide +kernel
theorem dX11_findGroups_58 : decode cX11_findGroups 58 = .ok (.aload_n 0, 1) := by decide +kernel
theorem dX11_findGroups_59 : decode cX11_findGroups 59 = .ok (.getfield 76, 3) := by decide +kernel
theorem dX11_findGroups_62 : decode cX11_findGroups 62 = .ok (.iload_n 3, 1) := by decide +kernel
theorem dX11_findGroups_63 : decode cX11_findGroups 63 = .ok (.iaload, 1) := by decide +kernel
theorem dX11_findGroups_64 : decode cX11_findGroups 64 = .ok (.if_icmp .eq 62, 3) := by decide +kernel
theorem dX11_findGroups_67 : decode cX11_findGroups 67 = .ok (.aload_n 0, 1) := by decide +kernel
theorem dX11_findGroups_68 : decode cX11_findGroups 68 = .ok (.iload_n 2, 1) := by decide +kernel
theorem dX11_findGroups_69 : decode cX11_findGroups 69 = .ok (.iload_n 3, 1) := by decide +kernel
theorem dX11_findGroups_70 : decode cX11_findGroups 70 = .ok (.invokevirtual 286, 3) := by decide +kernel
theorem dX11_findGroups_73 : decode cX11_findGroups 73 = .ok (.ifCond .eq 53, 3) := by decide +kernel
theorem dX11_findGroups_76 : decode cX11_findGroups 76 = .ok (.aload_n 0, 1) := by decide +kernel
theorem dX11_findGroups_77 : decode cX11_findGroups 77 = .ok (.getfield 76, 3) := by decide +kernel
theorem dX11_findGroups_80 : decode cX11_findGroups 80 = .ok (.iload_n 2, 1) := by decide +kernel
theorem dX11_findGroups_81 : decode cX11_findGroups 81 = .ok (.iaload, 1) := by decide +kernel
theorem dX11_findGroups_82 : decode cX11_findGroups 82 = .ok (.aload_n 0, 1) := by decide +kernel
theorem dX11_findGroups_83 : decode cX11_findGroups 83 = .ok (.getfield 76, 3) := by decide +kernel
theorem dX11_findGroups_86 : decode cX11_findGroups 86 = .ok (.iload_n 3, 1) := by decide +kernel
theorem dX11_findGroups_87 : decode cX11_findGroups 87 = .ok (.iaload, 1) := by decide +kernel
theorem dX11_findGroups_88 : decode cX11_findGroups 88 = .ok (.if_icmp .ge 12, 3) := by decide +kernel
theorem dX11_findGroups_91 : decode cX11_findGroups 91 = .ok (.aload_n 0, 1) := by decide +kernel
theorem dX11_findGroups_92 : decode cX11_findGroups 92 = .ok (.getfield 76, 3) := by decide +kernel
theorem dX11_findGroups_95 : decode cX11_findGroups 95 = .ok (.iload_n 2, 1) := by decide +kernel
theorem dX11_findGroups_96 : decode cX11_findGroups 96 = .ok (.iaload, 1) := by decide +kernel
theorem dX11_findGroups_97 : decode cX11_findGroups 97 = .ok (.goto 9, 3) := by decide +kernel
theorem dX11_findGroups_100 : decode cX11_findGroups 100 = .ok (.aload_n 0, 1) := by decide +kernel
theorem dX11_findGroups_101 : decode cX11_findGroups 101 = .ok (.getfield 76, 3) := by decide +kernel
theorem dX11_findGroups_104 : decode cX11_findGroups 104 = .ok (.iload_n 3, 1) := by decide +kernel
theorem dX11_findGroups_105 : decode cX11_findGroups 105 = .ok (.iaload, 1) := by decide +kernel
theorem dX11_findGroups_106 : decode cX11_findGroups 106 = .ok (.istore 4, 2) := by decide +kernel
theorem dX11_findGroups_108 : decode cX11_findGroups 108 = .ok (.aload_n 0, 1) := by decide +kernel
theorem dX11_findGroups_109 : decode cX11_findGroups 109 = .ok (.getfield 76, 3) := by decide +kernel
theorem dX11_findGroups_112 : decode cX11_findGroups 112 = .ok (.iload_n 2, 1) := by decide +kernel
theorem dX11_findGroups_113 : decode cX11_findGroups 113 = .ok (.iload 4, 2) := by decide +kernel
theorem dX11_findGroups_115 : decode cX11_findGroups 115 = .ok (.iastore, 1) := by decide +kernel
theorem dX11_findGroups_116 : decode cX11_findGroups 116 = .ok (.aload_n 0, 1) := by decide +kernel
theorem dX11_findGroups_117 : decode cX11_findGroups 117 = .ok (.getfield 76, 3) := by decide +kernel
theorem dX11_findGroups_120 : decode cX11_findGroups 120 = .ok (.iload_n 3, 1) := by decide +kernel
theorem dX11_findGroups_121 : decode cX11_findGroups 121 = .ok (.iload 4, 2) := by decide +kernel
theorem dX11_findGroups_123 : decode cX11_findGroups 123 = .ok (.iastore, 1) := by decide +kernel
theorem dX11_findGroups_124 : decode cX11_findGroups 124 = .ok (.iconst 1, 1) := by decide +kernel
theorem dX11_findGroups_125 : decode cX11_findGroups 125 = .ok (.istore_n 1, 1) := by decide +kernel
theorem dX11_findGroups_126 : decode cX11_findGroups 126 = .ok (.iinc 3 1, 3) := by decide +kernel
theorem dX11_findGroups_129 : decode cX11_findGroups 129 = .ok (.goto (-82), 3) := by decide +kernel
theorem dX11_findGroups_132 : decode cX11_findGroups 132 = .ok (.iinc 2 1, 3) := by decide +kernel
theorem dX11_findGroups_135 : decode cX11_findGroups 135 = .ok (.goto (-100), 3) := by decide +kernel
theorem dX11_findGroups_138 : decode cX11_findGroups 138 = .ok (.goto (-111), 3) := by decide +kernel
theorem dX11_findGroups_141 : decode cX11_findGroups 141 = .ok (.return_, 1) := by decide +kernel
theorem dX11_complaint_0 : decode cX11_complaint 0 = .ok (.aload_n 0, 1) := by decide +kernel
theorem dX11_complaint_1 : decode cX11_complaint 1 = .ok (.iload_n 1, 1) := by decide +kernel
theorem dX11_complaint_2 : decode cX11_complaint 2 = .ok (.invokevirtual 289, 3) := by decide +kernel
theorem dX11_complaint_5 : decode cX11_complaint 5 = .ok (.ifCond .eq 12, 3) := by decide +kernel
theorem dX11_complaint_8 : decode cX11_complaint 8 = .ok (.iload_n 2, 1) := by decide +kernel
theorem dX11_complaint_9 : decode cX11_complaint 9 = .ok (.iconst 0, 1) := by decide +kernel
theorem dX11_complaint_10 : decode cX11_complaint 10 = .ok (.iconst 3, 1) := by decide +kernel
theorem dX11_complaint_11 : decode cX11_complaint 11 = .ok (.invokestatic 97, 3) := by decide +kernel
theorem dX11_complaint_14 : decode cX11_complaint 14 = .ok (.ifCond .ne 10, 3) := by decide +kernel
theorem dX11_complaint_17 : decode cX11_complaint 17 = .ok (.aload_n 0, 1) := by decide +kernel
theorem dX11_complaint_18 : decode cX11_complaint 18 = .ok (.ldc 92, 2) := by decide +kernel
theorem dX11_complaint_20 : decode cX11_complaint 20 = .ok (.invokevirtual 109, 3) := by decide +kernel
theorem dX11_complaint_23 : decode cX11_complaint 23 = .ok (.ireturn, 1) := by decide +kernel
theorem dX11_complaint_24 : decode cX11_complaint 24 = .ok (.iload_n 2, 1) := by decide +kernel
theorem dX11_complaint_25 : decode cX11_complaint 25 = .ok (.iconst 3, 1) := by decide +kernel
theorem dX11_complaint_26 : decode cX11_complaint 26 = .ok (.if_icmp .ge 10, 3) := by decide +kernel
theorem dX11_complaint_29 : decode cX11_complaint 29 = .ok (.aload_n 0, 1) := by decide +kernel
theorem dX11_complaint_30 : decode cX11_complaint 30 = .ok (.iload_n 1, 1) := by decide +kernel
theorem dX11_complaint_31 : decode cX11_complaint 31 = .ok (.iload_n 2, 1) := by decide +kernel
theorem dX11_complaint_32 : decode cX11_complaint 32 = .ok (.invokevirtual 280, 3) := by decide +kernel
theorem dX11_complaint_35 : decode cX11_complaint 35 = .ok (.ireturn, 1) := by decide +kernel
theorem dX11_complaint_36 : decode cX11_complaint 36 = .ok (.aload_n 0, 1) := by decide +kernel
theorem dX11_complaint_37 : decode cX11_complaint 37 = .ok (.invokevirtual 292, 3) := by decide +kernel
theorem dX11_complaint_40 : decode cX11_complaint 40 = .ok (.aload_n 0, 1) := by decide +kernel
theorem dX11_complaint_41 : decode cX11_complaint 41 = .ok (.getfield 76, 3) := by decide +kernel
theorem dX11_complaint_44 : decode cX11_complaint 44 = .ok (.iload_n 1, 1) := by decide +kernel
theorem dX11_complaint_45 : decode cX11_complaint 45 = .ok (.iaload, 1) := by decide +kernel
theorem dX11_complaint_46 : decode cX11_complaint 46 = .ok (.ireturn, 1) := by decide +kernel
theorem dX11_joined_0 : decode cX11_joined 0 = .ok (.aload_n 0, 1) := by decide +kernel
theorem dX11_joined_1 : decode cX11_joined 1 = .ok (.iload_n 1, 1) := by decide +kernel
theorem dX11_joined_2 : decode cX11_joined 2 = .ok (.invokevirtual 289, 3) := by decide +kernel
theorem dX11_joined_5 : decode cX11_joined 5 = .ok (.ifCond .eq 11, 3) := by decide +kernel
theorem dX11_joined_8 : decode cX11_joined 8 = .ok (.aload_n 0, 1) := by decide +kernel
theorem dX11_joined_9 : decode cX11_joined 9 = .ok (.iload_n 2, 1) := by decide +kernel
theorem dX11_joined_10 : decode cX11_joined 10 = .ok (.invokevirtual 289, 3) := by decide +kernel
theorem dX11_joined_13 : decode cX11_joined 13 = .ok (.ifCond .ne 10, 3) := by decide +kernel
theorem dX11_joined_16 : decode cX11_joined 16 = .ok (.aload_n 0, 1) := by decide +kernel
theorem dX11_joined_17 : decode cX11_joined 17 = .ok (.ldc 92, 2) := by decide +kernel
theorem dX11_joined_19 : decode cX11_joined 19 = .ok (.invokevirtual 109, 3) := by decide +kernel
theorem dX11_joined_22 : decode cX11_joined 22 = .ok (.ireturn, 1) := by decide +kernel
theorem dX11_joined_23 : decode cX11_joined 23 = .ok (.aload_n 0, 1) := by decide +kernel
theorem dX11_joined_24 : decode cX11_joined 24 = .ok (.invokevirtual 292, 3) := by decide +kernel
theorem dX11_joined_27 : decode cX11_joined 27 = .ok (.aload_n 0, 1) := by decide +kernel
theorem dX11_joined_28 : decode cX11_joined 28 = .ok (.getfield 76, 3) := by decide +kernel
theorem dX11_joined_31 : decode cX11_joined 31 = .ok (.iload_n 1, 1) := by decide +kernel
theorem dX11_joined_32 : decode cX11_joined 32 = .ok (.iaload, 1) := by decide +kernel
theorem dX11_joined_33 : decode cX11_joined 33 = .ok (.aload_n 0, 1) := by decide +kernel
theorem dX11_joined_34 : decode cX11_joined 34 = .ok (.getfield 76, 3) := by decide +kernel
theorem dX11_joined_37 : decode cX11_joined 37 = .ok (.iload_n 2, 1) := by decide +kernel
theorem dX11_joined_38 : decode cX11_joined 38 = .ok (.iaload, 1) := by decide +kernel
theorem dX11_joined_39 : decode cX11_joined 39 = .ok (.if_icmp .ne 7, 3) := by decide +kernel
theorem dX11_joined_42 : decode cX11_joined 42 = .ok (.iconst 1, 1) := by decide +kernel
theorem dX11_joined_43 : decode cX11_joined 43 = .ok (.goto 4, 3) := by decide +kernel
theorem dX11_joined_46 : decode cX11_joined 46 = .ok (.iconst 0, 1) := by decide +kernel
theorem dX11_joined_47 : decode cX11_joined 47 = .ok (.ireturn, 1) := by decide +kernel
theorem dX11_groups_0 : decode cX11_groups 0 = .ok (.iload_n 1, 1) := by decide +kernel
theorem dX11_groups_1 : decode cX11_groups 1 = .ok (.iconst 0, 1) := by decide +kernel
theorem dX11_groups_2 : decode cX11_groups 2 = .ok (.iconst 2, 1) := by decide +kernel
theorem dX11_groups_3 : decode cX11_groups 3 = .ok (.invokestatic 97, 3) := by decide +kernel
theorem dX11_groups_6 : decode cX11_groups 6 = .ok (.ifCond .ne 10, 3) := by decide +kernel
theorem dX11_groups_9 : decode cX11_groups 9 = .ok (.aload_n 0, 1) := by decide +kernel
theorem dX11_groups_10 : decode cX11_groups 10 = .ok (.ldc 92, 2) := by decide +kernel
theorem dX11_groups_12 : decode cX11_groups 12 = .ok (.invokevirtual 109, 3) := by decide +kernel
theorem dX11_groups_15 : decode cX11_groups 15 = .ok (.ireturn, 1) := by decide +kernel
theorem dX11_groups_16 : decode cX11_groups 16 = .ok (.aload_n 0, 1) := by decide +kernel
theorem dX11_groups_17 : decode cX11_groups 17 = .ok (.invokevirtual 292, 3) := by decide +kernel
theorem dX11_groups_20 : decode cX11_groups 20 = .ok (.iconst 0, 1) := by decide +kernel
theorem dX11_groups_21 : decode cX11_groups 21 = .ok (.istore_n 2, 1) := by decide +kernel
theorem dX11_groups_22 : decode cX11_groups 22 = .ok (.iconst 0, 1) := by decide +kernel
theorem dX11_groups_23 : decode cX11_groups 23 = .ok (.istore_n 3, 1) := by decide +kernel
theorem dX11_groups_24 : decode cX11_groups 24 = .ok (.iload_n 3, 1) := by decide +kernel
theorem dX11_groups_25 : decode cX11_groups 25 = .ok (.aload_n 0, 1) := by decide +kernel
theorem dX11_groups_26 : decode cX11_groups 26 = .ok (.getfield 9, 3) := by decide +kernel
theorem dX11_groups_29 : decode cX11_groups 29 = .ok (.iconst 5, 1) := by decide +kernel
theorem dX11_groups_30 : decode cX11_groups 30 = .ok (.iaload, 1) := by decide +kernel
theorem dX11_groups_31 : decode cX11_groups 31 = .ok (.if_icmp .ge 41, 3) := by decide +kernel
theorem dX11_groups_34 : decode cX11_groups 34 = .ok (.iload_n 2, 1) := by decide +kernel
theorem dX11_groups_35 : decode cX11_groups 35 = .ok (.aload_n 0, 1) := by decide +kernel
theorem dX11_groups_36 : decode cX11_groups 36 = .ok (.getfield 76, 3) := by decide +kernel
theorem dX11_groups_39 : decode cX11_groups 39 = .ok (.iload_n 3, 1) := by decide +kernel
theorem dX11_groups_40 : decode cX11_groups 40 = .ok (.iaload, 1) := by decide +kernel
theorem dX11_groups_41 : decode cX11_groups 41 = .ok (.iload_n 3, 1) := by decide +kernel
theorem dX11_groups_42 : decode cX11_groups 42 = .ok (.if_icmp .ne 21, 3) := by decide +kernel
theorem dX11_groups_45 : decode cX11_groups 45 = .ok (.iload_n 1, 1) := by decide +kernel
theorem dX11_groups_46 : decode cX11_groups 46 = .ok (.ifCond .eq 13, 3) := by decide +kernel
theorem dX11_groups_49 : decode cX11_groups 49 = .ok (.aload_n 0, 1) := by decide +kernel
theorem dX11_groups_50 : decode cX11_groups 50 = .ok (.iload_n 3, 1) := by decide +kernel
theorem dX11_groups_51 : decode cX11_groups 51 = .ok (.iconst 1, 1) := by decide +kernel
theorem dX11_groups_52 : decode cX11_groups 52 = .ok (.invokevirtual 280, 3) := by decide +kernel
theorem dX11_groups_55 : decode cX11_groups 55 = .ok (.iload_n 1, 1) := by decide +kernel
theorem dX11_groups_56 : decode cX11_groups 56 = .ok (.if_icmp .ne 7, 3) := by decide +kernel
theorem dX11_groups_59 : decode cX11_groups 59 = .ok (.iconst 1, 1) := by decide +kernel
theorem dX11_groups_60 : decode cX11_groups 60 = .ok (.goto 4, 3) := by decide +kernel
theorem dX11_groups_63 : decode cX11_groups 63 = .ok (.iconst 0, 1) := by decide +kernel
theorem dX11_groups_64 : decode cX11_groups 64 = .ok (.iadd, 1) := by decide +kernel
theorem dX11_groups_65 : decode cX11_groups 65 = .ok (.istore_n 2, 1) := by decide +kernel
theorem dX11_groups_66 : decode cX11_groups 66 = .ok (.iinc 3 1, 3) := by decide +kernel
theorem dX11_groups_69 : decode cX11_groups 69 = .ok (.goto (-45), 3) := by decide +kernel
theorem dX11_groups_72 : decode cX11_groups 72 = .ok (.iload_n 2, 1) := by decide +kernel
theorem dX11_groups_73 : decode cX11_groups 73 = .ok (.ireturn, 1) := by decide +kernel
theorem dX11_isSheet_0 : decode cX11_isSheet 0 = .ok (.iload_n 0, 1) := by decide +kernel
theorem dX11_isSheet_1 : decode cX11_isSheet 1 = .ok (.iconst 0, 1) := by decide +kernel
theorem dX11_isSheet_2 : decode cX11_isSheet 2 = .ok (.iconst 3, 1) := by decide +kernel
theorem dX11_isSheet_3 : decode cX11_isSheet 3 = .ok (.invokestatic 97, 3) := by decide +kernel
theorem dX11_isSheet_6 : decode cX11_isSheet 6 = .ok (.ireturn, 1) := by decide +kernel
theorem dX11_sheet_0 : decode cX11_sheet 0 = .ok (.iload_n 1, 1) := by decide +kernel
theorem dX11_sheet_1 : decode cX11_sheet 1 = .ok (.invokestatic 295, 3) := by decide +kernel
theorem dX11_sheet_4 : decode cX11_sheet 4 = .ok (.ifCond .eq 25, 3) := by decide +kernel
theorem dX11_sheet_7 : decode cX11_sheet 7 = .ok (.iload_n 2, 1) := by decide +kernel
theorem dX11_sheet_8 : decode cX11_sheet 8 = .ok (.ifCond .eq 28, 3) := by decide +kernel
theorem dX11_sheet_11 : decode cX11_sheet 11 = .ok (.iload_n 2, 1) := by decide +kernel
theorem dX11_sheet_12 : decode cX11_sheet 12 = .ok (.bipush 8, 2) := by decide +kernel
theorem dX11_sheet_14 : decode cX11_sheet 14 = .ok (.if_icmp .eq 22, 3) := by decide +kernel
theorem dX11_sheet_17 : decode cX11_sheet 17 = .ok (.iload_n 2, 1) := by decide +kernel
theorem dX11_sheet_18 : decode cX11_sheet 18 = .ok (.bipush 16, 2) := by decide +kernel
theorem dX11_sheet_20 : decode cX11_sheet 20 = .ok (.if_icmp .eq 16, 3) := by decide +kernel
theorem dX11_sheet_23 : decode cX11_sheet 23 = .ok (.iload_n 2, 1) := by decide +kernel
theorem dX11_sheet_24 : decode cX11_sheet 24 = .ok (.bipush 64, 2) := by decide +kernel
theorem dX11_sheet_26 : decode cX11_sheet 26 = .ok (.if_icmp .eq 10, 3) := by decide +kernel
theorem dX11_sheet_29 : decode cX11_sheet 29 = .ok (.aload_n 0, 1) := by decide +kernel
theorem dX11_sheet_30 : decode cX11_sheet 30 = .ok (.ldc 92, 2) := by decide +kernel
theorem dX11_sheet_32 : decode cX11_sheet 32 = .ok (.invokevirtual 109, 3) := by decide +kernel
theorem dX11_sheet_35 : decode cX11_sheet 35 = .ok (.ireturn, 1) := by decide +kernel
theorem dX11_sheet_36 : decode cX11_sheet 36 = .ok (.iload_n 3, 1) := by decide +kernel
theorem dX11_sheet_37 : decode cX11_sheet 37 = .ok (.ifCond .ge 11, 3) := by decide +kernel
theorem dX11_sheet_40 : decode cX11_sheet 40 = .ok (.aload_n 0, 1) := by decide +kernel
theorem dX11_sheet_41 : decode cX11_sheet 41 = .ok (.ldc_w 298, 3) := by decide +kernel
theorem dX11_sheet_44 : decode cX11_sheet 44 = .ok (.invokevirtual 109, 3) := by decide +kernel
theorem dX11_sheet_47 : decode cX11_sheet 47 = .ok (.ireturn, 1) := by decide +kernel
theorem dX11_sheet_48 : decode cX11_sheet 48 = .ok (.iload_n 3, 1) := by decide +kernel
theorem dX11_sheet_49 : decode cX11_sheet 49 = .ok (.bipush 40, 2) := by decide +kernel
theorem dX11_sheet_51 : decode cX11_sheet 51 = .ok (.if_icmp .le 10, 3) := by decide +kernel
theorem dX11_sheet_54 : decode cX11_sheet 54 = .ok (.aload_n 0, 1) := by decide +kernel
theorem dX11_sheet_55 : decode cX11_sheet 55 = .ok (.ldc 92, 2) := by decide +kernel
theorem dX11_sheet_57 : decode cX11_sheet 57 = .ok (.invokevirtual 109, 3) := by decide +kernel
theorem dX11_sheet_60 : decode cX11_sheet 60 = .ok (.ireturn, 1) := by decide +kernel
theorem dX11_sheet_61 : decode cX11_sheet 61 = .ok (.aload_n 0, 1) := by decide +kernel
theorem dX11_sheet_62 : decode cX11_sheet 62 = .ok (.getfield 79, 3) := by decide +kernel
theorem dX11_sheet_65 : decode cX11_sheet 65 = .ok (.iload_n 1, 1) := by decide +kernel
theorem dX11_sheet_66 : decode cX11_sheet 66 = .ok (.iload_n 2, 1) := by decide +kernel
theorem dX11_sheet_67 : decode cX11_sheet 67 = .ok (.iastore, 1) := by decide +kernel
theorem dX11_sheet_68 : decode cX11_sheet 68 = .ok (.aload_n 0, 1) := by decide +kernel
theorem dX11_sheet_69 : decode cX11_sheet 69 = .ok (.getfield 82, 3) := by decide +kernel
theorem dX11_sheet_72 : decode cX11_sheet 72 = .ok (.iload_n 1, 1) := by decide +kernel
theorem dX11_sheet_73 : decode cX11_sheet 73 = .ok (.iload_n 2, 1) := by decide +kernel
theorem dX11_sheet_74 : decode cX11_sheet 74 = .ok (.ifCond .ne 7, 3) := by decide +kernel
theorem dX11_sheet_77 : decode cX11_sheet 77 = .ok (.iconst 0, 1) := by decide +kernel
theorem dX11_sheet_78 : decode cX11_sheet 78 = .ok (.goto 4, 3) := by decide +kernel
theorem dX11_sheet_81 : decode cX11_sheet 81 = .ok (.iload_n 3, 1) := by decide +kernel
theorem dX11_sheet_82 : decode cX11_sheet 82 = .ok (.iastore, 1) := by decide +kernel
theorem dX11_sheet_83 : decode cX11_sheet 83 = .ok (.iconst 0, 1) := by decide +kernel
theorem dX11_sheet_84 : decode cX11_sheet 84 = .ok (.istore 4, 2) := by decide +kernel
theorem dX11_sheet_86 : decode cX11_sheet 86 = .ok (.iload 4, 2) := by decide +kernel
theorem dX11_sheet_88 : decode cX11_sheet 88 = .ok (.bipush 40, 2) := by decide +kernel
theorem dX11_sheet_90 : decode cX11_sheet 90 = .ok (.if_icmp .ge 22, 3) := by decide +kernel
theorem dX11_sheet_93 : decode cX11_sheet 93 = .ok (.aload_n 0, 1) := by decide +kernel
theorem dX11_sheet_94 : decode cX11_sheet 94 = .ok (.getfield 85, 3) := by decide +kernel
theorem dX11_sheet_97 : decode cX11_sheet 97 = .ok (.bipush 40, 2) := by decide +kernel
theorem dX11_sheet_99 : decode cX11_sheet 99 = .ok (.iload_n 1, 1) := by decide +kernel
theorem dX11_sheet_100 : decode cX11_sheet 100 = .ok (.imul, 1) := by decide +kernel
theorem dX11_sheet_101 : decode cX11_sheet 101 = .ok (.iload 4, 2) := by decide +kernel
theorem dX11_sheet_103 : decode cX11_sheet 103 = .ok (.iadd, 1) := by decide +kernel
theorem dX11_sheet_104 : decode cX11_sheet 104 = .ok (.lconst 0, 1) := by decide +kernel
theorem dX11_sheet_105 : decode cX11_sheet 105 = .ok (.lastore, 1) := by decide +kernel
theorem dX11_sheet_106 : decode cX11_sheet 106 = .ok (.iinc 4 1, 3) := by decide +kernel
theorem dX11_sheet_109 : decode cX11_sheet 109 = .ok (.goto (-23), 3) := by decide +kernel
theorem dX11_sheet_112 : decode cX11_sheet 112 = .ok (.aload_n 0, 1) := by decide +kernel
theorem dX11_sheet_113 : decode cX11_sheet 113 = .ok (.getfield 82, 3) := by decide +kernel
theorem dX11_sheet_116 : decode cX11_sheet 116 = .ok (.iload_n 1, 1) := by decide +kernel
theorem dX11_sheet_117 : decode cX11_sheet 117 = .ok (.iaload, 1) := by decide +kernel
theorem dX11_sheet_118 : decode cX11_sheet 118 = .ok (.ireturn, 1) := by decide +kernel
theorem dX11_write_0 : decode cX11_write 0 = .ok (.iload_n 1, 1) := by decide +kernel
theorem dX11_write_1 : decode cX11_write 1 = .ok (.invokestatic 295, 3) := by decide +kernel
theorem dX11_write_4 : decode cX11_write 4 = .ok (.ifCond .ne 11, 3) := by decide +kernel
theorem dX11_write_7 : decode cX11_write 7 = .ok (.aload_n 0, 1) := by decide +kernel
theorem dX11_write_8 : decode cX11_write 8 = .ok (.ldc 92, 2) := by decide +kernel
theorem dX11_write_10 : decode cX11_write 10 = .ok (.invokevirtual 109, 3) := by decide +kernel
theorem dX11_write_13 : decode cX11_write 13 = .ok (.i2l, 1) := by decide +kernel
theorem dX11_write_14 : decode cX11_write 14 = .ok (.lreturn, 1) := by decide +kernel
theorem dX11_write_15 : decode cX11_write 15 = .ok (.aload_n 0, 1) := by decide +kernel
theorem dX11_write_16 : decode cX11_write 16 = .ok (.getfield 79, 3) := by decide +kernel
theorem dX11_write_19 : decode cX11_write 19 = .ok (.iload_n 1, 1) := by decide +kernel
theorem dX11_write_20 : decode cX11_write 20 = .ok (.iaload, 1) := by decide +kernel
theorem dX11_write_21 : decode cX11_write 21 = .ok (.ifCond .ne 12, 3) := by decide +kernel
theorem dX11_write_24 : decode cX11_write 24 = .ok (.aload_n 0, 1) := by decide +kernel
theorem dX11_write_25 : decode cX11_write 25 = .ok (.ldc_w 299, 3) := by decide +kernel
theorem dX11_write_28 : decode cX11_write 28 = .ok (.invokevirtual 109, 3) := by decide +kernel
theorem dX11_write_31 : decode cX11_write 31 = .ok (.i2l, 1) := by decide +kernel
theorem dX11_write_32 : decode cX11_write 32 = .ok (.lreturn, 1) := by decide +kernel
theorem dX11_write_33 : decode cX11_write 33 = .ok (.iload_n 2, 1) := by decide +kernel
theorem dX11_write_34 : decode cX11_write 34 = .ok (.iconst 0, 1) := by decide +kernel
theorem dX11_write_35 : decode cX11_write 35 = .ok (.aload_n 0, 1) := by decide +kernel
theorem dX11_write_36 : decode cX11_write 36 = .ok (.getfield 82, 3) := by decide +kernel
theorem dX11_write_39 : decode cX11_write 39 = .ok (.iload_n 1, 1) := by decide +kernel
theorem dX11_write_40 : decode cX11_write 40 = .ok (.iaload, 1) := by decide +kernel
theorem dX11_write_41 : decode cX11_write 41 = .ok (.iconst 1, 1) := by decide +kernel
theorem dX11_write_42 : decode cX11_write 42 = .ok (.isub, 1) := by decide +kernel
theorem dX11_write_43 : decode cX11_write 43 = .ok (.invokestatic 97, 3) := by decide +kernel
theorem dX11_write_46 : decode cX11_write 46 = .ok (.ifCond .ne 11, 3) := by decide +kernel
theorem dX11_write_49 : decode cX11_write 49 = .ok (.aload_n 0, 1) := by decide +kernel
theorem dX11_write_50 : decode cX11_write 50 = .ok (.ldc 92, 2) := by decide +kernel
theorem dX11_write_52 : decode cX11_write 52 = .ok (.invokevirtual 109, 3) := by decide +kernel
theorem dX11_write_55 : decode cX11_write 55 = .ok (.i2l, 1) := by decide +kernel
theorem dX11_write_56 : decode cX11_write 56 = .ok (.lreturn, 1) := by decide +kernel
theorem dX11_write_57 : decode cX11_write 57 = .ok (.aload_n 0, 1) := by decide +kernel
theorem dX11_write_58 : decode cX11_write 58 = .ok (.getfield 85, 3) := by decide +kernel
theorem dX11_write_61 : decode cX11_write 61 = .ok (.bipush 40, 2) := by decide +kernel
theorem dX11_write_63 : decode cX11_write 63 = .ok (.iload_n 1, 1) := by decide +kernel
theorem dX11_write_64 : decode cX11_write 64 = .ok (.imul, 1) := by decide +kernel
theorem dX11_write_65 : decode cX11_write 65 = .ok (.iload_n 2, 1) := by decide +kernel
theorem dX11_write_66 : decode cX11_write 66 = .ok (.iadd, 1) := by decide +kernel
theorem dX11_write_67 : decode cX11_write 67 = .ok (.laload, 1) := by decide +kernel
theorem dX11_write_68 : decode cX11_write 68 = .ok (.lstore 5, 2) := by decide +kernel
theorem dX11_write_70 : decode cX11_write 70 = .ok (.aload_n 0, 1) := by decide +kernel
theorem dX11_write_71 : decode cX11_write 71 = .ok (.getfield 85, 3) := by decide +kernel
theorem dX11_write_74 : decode cX11_write 74 = .ok (.bipush 40, 2) := by decide +kernel
theorem dX11_write_76 : decode cX11_write 76 = .ok (.iload_n 1, 1) := by decide +kernel
theorem dX11_write_77 : decode cX11_write 77 = .ok (.imul, 1) := by decide +kernel
theorem dX11_write_78 : decode cX11_write 78 = .ok (.iload_n 2, 1) := by decide +kernel
theorem dX11_write_79 : decode cX11_write 79 = .ok (.iadd, 1) := by decide +kernel
theorem dX11_write_80 : decode cX11_write 80 = .ok (.aload_n 0, 1) := by decide +kernel
theorem dX11_write_81 : decode cX11_write 81 = .ok (.getfield 79, 3) := by decide +kernel
theorem dX11_write_84 : decode cX11_write 84 = .ok (.iload_n 1, 1) := by decide +kernel
theorem dX11_write_85 : decode cX11_write 85 = .ok (.iaload, 1) := by decide +kernel
theorem dX11_write_86 : decode cX11_write 86 = .ok (.bipush 8, 2) := by decide +kernel
theorem dX11_write_88 : decode cX11_write 88 = .ok (.if_icmp .ne 10, 3) := by decide +kernel
theorem dX11_write_91 : decode cX11_write 91 = .ok (.lload_n 3, 1) := by decide +kernel
theorem dX11_write_92 : decode cX11_write 92 = .ok (.l2i, 1) := by decide +kernel
theorem dX11_write_93 : decode cX11_write 93 = .ok (.i2b, 1) := by decide +kernel
theorem dX11_write_94 : decode cX11_write 94 = .ok (.i2l, 1) := by decide +kernel
theorem dX11_write_95 : decode cX11_write 95 = .ok (.goto 22, 3) := by decide +kernel
theorem dX11_write_98 : decode cX11_write 98 = .ok (.aload_n 0, 1) := by decide +kernel
theorem dX11_write_99 : decode cX11_write 99 = .ok (.getfield 79, 3) := by decide +kernel
theorem dX11_write_102 : decode cX11_write 102 = .ok (.iload_n 1, 1) := by decide +kernel
theorem dX11_write_103 : decode cX11_write 103 = .ok (.iaload, 1) := by decide +kernel
theorem dX11_write_104 : decode cX11_write 104 = .ok (.bipush 16, 2) := by decide +kernel
theorem dX11_write_106 : decode cX11_write 106 = .ok (.if_icmp .ne 10, 3) := by decide +kernel
theorem dX11_write_109 : decode cX11_write 109 = .ok (.lload_n 3, 1) := by decide +kernel
theorem dX11_write_110 : decode cX11_write 110 = .ok (.l2i, 1) := by decide +kernel
theorem dX11_write_111 : decode cX11_write 111 = .ok (.i2s, 1) := by decide +kernel
theorem dX11_write_112 : decode cX11_write 112 = .ok (.i2l, 1) := by decide +kernel
theorem dX11_write_113 : decode cX11_write 113 = .ok (.goto 4, 3) := by decide +kernel
theorem dX11_write_116 : decode cX11_write 116 = .ok (.lload_n 3, 1) := by decide +kernel
theorem dX11_write_117 : decode cX11_write 117 = .ok (.lastore, 1) := by decide +kernel
theorem dX11_write_118 : decode cX11_write 118 = .ok (.lload 5, 2) := by decide +kernel
theorem dX11_write_120 : decode cX11_write 120 = .ok (.lreturn, 1) := by decide +kernel
theorem dX11_has_0 : decode cX11_has 0 = .ok (.iload_n 2, 1) := by decide +kernel
theorem dX11_has_1 : decode cX11_has 1 = .ok (.ifCond .lt 23, 3) := by decide +kernel
theorem dX11_has_4 : decode cX11_has 4 = .ok (.iload_n 3, 1) := by decide +kernel
theorem dX11_has_5 : decode cX11_has 5 = .ok (.ifCond .lt 19, 3) := by decide +kernel
theorem dX11_has_8 : decode cX11_has 8 = .ok (.iload_n 2, 1) := by decide +kernel
theorem dX11_has_9 : decode cX11_has 9 = .ok (.aload_n 0, 1) := by decide +kernel
theorem dX11_has_10 : decode cX11_has 10 = .ok (.getfield 82, 3) := by decide +kernel
theorem dX11_has_13 : decode cX11_has 13 = .ok (.iload_n 1, 1) := by decide +kernel
theorem dX11_has_14 : decode cX11_has 14 = .ok (.iaload, 1) := by decide +kernel
theorem dX11_has_15 : decode cX11_has 15 = .ok (.iload_n 3, 1) := by decide +kernel
theorem dX11_has_16 : decode cX11_has 16 = .ok (.isub, 1) := by decide +kernel
theorem dX11_has_17 : decode cX11_has 17 = .ok (.if_icmp .gt 7, 3) := by decide +kernel
theorem dX11_has_20 : decode cX11_has 20 = .ok (.iconst 1, 1) := by decide +kernel
theorem dX11_has_21 : decode cX11_has 21 = .ok (.goto 4, 3) := by decide +kernel
theorem dX11_has_24 : decode cX11_has 24 = .ok (.iconst 0, 1) := by decide +kernel
theorem dX11_has_25 : decode cX11_has 25 = .ok (.ireturn, 1) := by decide +kernel
theorem dX11_copy_0 : decode cX11_copy 0 = .ok (.iload_n 1, 1) := by decide +kernel
theorem dX11_copy_1 : decode cX11_copy 1 = .ok (.invokestatic 295, 3) := by decide +kernel
theorem dX11_copy_4 : decode cX11_copy 4 = .ok (.ifCond .eq 10, 3) := by decide +kernel
theorem dX11_copy_7 : decode cX11_copy 7 = .ok (.iload_n 3, 1) := by decide +kernel
theorem dX11_copy_8 : decode cX11_copy 8 = .ok (.invokestatic 295, 3) := by decide +kernel
theorem dX11_copy_11 : decode cX11_copy 11 = .ok (.ifCond .ne 10, 3) := by decide +kernel
theorem dX11_copy_14 : decode cX11_copy 14 = .ok (.aload_n 0, 1) := by decide +kernel
theorem dX11_copy_15 : decode cX11_copy 15 = .ok (.ldc 92, 2) := by decide +kernel
theorem dX11_copy_17 : decode cX11_copy 17 = .ok (.invokevirtual 109, 3) := by decide +kernel
theorem dX11_copy_20 : decode cX11_copy 20 = .ok (.ireturn, 1) := by decide +kernel
theorem dX11_copy_21 : decode cX11_copy 21 = .ok (.aload_n 0, 1) := by decide +kernel
theorem dX11_copy_22 : decode cX11_copy 22 = .ok (.getfield 79, 3) := by decide +kernel
theorem dX11_copy_25 : decode cX11_copy 25 = .ok (.iload_n 1, 1) := by decide +kernel
theorem dX11_copy_26 : decode cX11_copy 26 = .ok (.iaload, 1) := by decide +kernel
theorem dX11_copy_27 : decode cX11_copy 27 = .ok (.ifCond .eq 12, 3) := by decide +kernel
theorem dX11_copy_30 : decode cX11_copy 30 = .ok (.aload_n 0, 1) := by decide +kernel
theorem dX11_copy_31 : decode cX11_copy 31 = .ok (.getfield 79, 3) := by decide +kernel
theorem dX11_copy_34 : decode cX11_copy 34 = .ok (.iload_n 3, 1) := by decide +kernel
theorem dX11_copy_35 : decode cX11_copy 35 = .ok (.iaload, 1) := by decide +kernel
theorem dX11_copy_36 : decode cX11_copy 36 = .ok (.ifCond .ne 11, 3) := by decide +kernel
theorem dX11_copy_39 : decode cX11_copy 39 = .ok (.aload_n 0, 1) := by decide +kernel
theorem dX11_copy_40 : decode cX11_copy 40 = .ok (.ldc_w 299, 3) := by decide +kernel
theorem dX11_copy_43 : decode cX11_copy 43 = .ok (.invokevirtual 109, 3) := by decide +kernel
theorem dX11_copy_46 : decode cX11_copy 46 = .ok (.ireturn, 1) := by decide +kernel
theorem dX11_copy_47 : decode cX11_copy 47 = .ok (.aload_n 0, 1) := by decide +kernel
theorem dX11_copy_48 : decode cX11_copy 48 = .ok (.getfield 79, 3) := by decide +kernel
theorem dX11_copy_51 : decode cX11_copy 51 = .ok (.iload_n 1, 1) := by decide +kernel
theorem dX11_copy_52 : decode cX11_copy 52 = .ok (.iaload, 1) := by decide +kernel
theorem dX11_copy_53 : decode cX11_copy 53 = .ok (.aload_n 0, 1) := by decide +kernel
theorem dX11_copy_54 : decode cX11_copy 54 = .ok (.getfield 79, 3) := by decide +kernel
theorem dX11_copy_57 : decode cX11_copy 57 = .ok (.iload_n 3, 1) := by decide +kernel
theorem dX11_copy_58 : decode cX11_copy 58 = .ok (.iaload, 1) := by decide +kernel
theorem dX11_copy_59 : decode cX11_copy 59 = .ok (.if_icmp .eq 10, 3) := by decide +kernel
theorem dX11_copy_62 : decode cX11_copy 62 = .ok (.aload_n 0, 1) := by decide +kernel
theorem dX11_copy_63 : decode cX11_copy 63 = .ok (.ldc 152, 2) := by decide +kernel
theorem dX11_copy_65 : decode cX11_copy 65 = .ok (.invokevirtual 109, 3) := by decide +kernel
theorem dX11_copy_68 : decode cX11_copy 68 = .ok (.ireturn, 1) := by decide +kernel
theorem dX11_copy_69 : decode cX11_copy 69 = .ok (.aload_n 0, 1) := by decide +kernel
theorem dX11_copy_70 : decode cX11_copy 70 = .ok (.iload_n 1, 1) := by decide +kernel
theorem dX11_copy_71 : decode cX11_copy 71 = .ok (.iload_n 2, 1) := by decide +kernel
theorem dX11_copy_72 : decode cX11_copy 72 = .ok (.iload 5, 2) := by decide +kernel
theorem dX11_copy_74 : decode cX11_copy 74 = .ok (.invokevirtual 300, 3) := by decide +kernel
theorem dX11_copy_77 : decode cX11_copy 77 = .ok (.ifCond .eq 15, 3) := by decide +kernel
theorem dX11_copy_80 : decode cX11_copy 80 = .ok (.aload_n 0, 1) := by decide +kernel
theorem dX11_copy_81 : decode cX11_copy 81 = .ok (.iload_n 3, 1) := by decide +kernel
theorem dX11_copy_82 : decode cX11_copy 82 = .ok (.iload 4, 2) := by decide +kernel
theorem dX11_copy_84 : decode cX11_copy 84 = .ok (.iload 5, 2) := by decide +kernel
theorem dX11_copy_86 : decode cX11_copy 86 = .ok (.invokevirtual 300, 3) := by decide +kernel
theorem dX11_copy_89 : decode cX11_copy 89 = .ok (.ifCond .ne 10, 3) := by decide +kernel
theorem dX11_copy_92 : decode cX11_copy 92 = .ok (.aload_n 0, 1) := by decide +kernel
theorem dX11_copy_93 : decode cX11_copy 93 = .ok (.ldc 92, 2) := by decide +kernel
theorem dX11_copy_95 : decode cX11_copy 95 = .ok (.invokevirtual 109, 3) := by decide +kernel
theorem dX11_copy_98 : decode cX11_copy 98 = .ok (.ireturn, 1) := by decide +kernel
theorem dX11_copy_99 : decode cX11_copy 99 = .ok (.iconst 0, 1) := by decide +kernel
theorem dX11_copy_100 : decode cX11_copy 100 = .ok (.istore 6, 2) := by decide +kernel
theorem dX11_copy_102 : decode cX11_copy 102 = .ok (.iload 6, 2) := by decide +kernel
theorem dX11_copy_104 : decode cX11_copy 104 = .ok (.iload 5, 2) := by decide +kernel
theorem dX11_copy_106 : decode cX11_copy 106 = .ok (.if_icmp .ge 30, 3) := by decide +kernel
theorem dX11_copy_109 : decode cX11_copy 109 = .ok (.aload_n 0, 1) := by decide +kernel
theorem dX11_copy_110 : decode cX11_copy 110 = .ok (.getfield 89, 3) := by decide +kernel
theorem dX11_copy_113 : decode cX11_copy 113 = .ok (.iload 6, 2) := by decide +kernel
theorem dX11_copy_115 : decode cX11_copy 115 = .ok (.aload_n 0, 1) := by decide +kernel
theorem dX11_copy_116 : decode cX11_copy 116 = .ok (.getfield 85, 3) := by decide +kernel
theorem dX11_copy_119 : decode cX11_copy 119 = .ok (.bipush 40, 2) := by decide +kernel
theorem dX11_copy_121 : decode cX11_copy 121 = .ok (.iload_n 1, 1) := by decide +kernel
theorem dX11_copy_122 : decode cX11_copy 122 = .ok (.imul, 1) := by decide +kernel
theorem dX11_copy_123 : decode cX11_copy 123 = .ok (.iload_n 2, 1) := by decide +kernel
theorem dX11_copy_124 : decode cX11_copy 124 = .ok (.iadd, 1) := by decide +kernel
theorem dX11_copy_125 : decode cX11_copy 125 = .ok (.iload 6, 2) := by decide +kernel
theorem dX11_copy_127 : decode cX11_copy 127 = .ok (.iadd, 1) := by decide +kernel
theorem dX11_copy_128 : decode cX11_copy 128 = .ok (.laload, 1) := by decide +kernel
theorem dX11_copy_129 : decode cX11_copy 129 = .ok (.lastore, 1) := by decide +kernel
theorem dX11_copy_130 : decode cX11_copy 130 = .ok (.iinc 6 1, 3) := by decide +kernel
theorem dX11_copy_133 : decode cX11_copy 133 = .ok (.goto (-31), 3) := by decide +kernel
theorem dX11_copy_136 : decode cX11_copy 136 = .ok (.iconst 0, 1) := by decide +kernel
theorem dX11_copy_137 : decode cX11_copy 137 = .ok (.istore 6, 2) := by decide +kernel
theorem dX11_copy_139 : decode cX11_copy 139 = .ok (.iload 6, 2) := by decide +kernel
theorem dX11_copy_141 : decode cX11_copy 141 = .ok (.iload 5, 2) := by decide +kernel
theorem dX11_copy_143 : decode cX11_copy 143 = .ok (.if_icmp .ge 31, 3) := by decide +kernel
theorem dX11_copy_146 : decode cX11_copy 146 = .ok (.aload_n 0, 1) := by decide +kernel
theorem dX11_copy_147 : decode cX11_copy 147 = .ok (.getfield 85, 3) := by decide +kernel
theorem dX11_copy_150 : decode cX11_copy 150 = .ok (.bipush 40, 2) := by decide +kernel
theorem dX11_copy_152 : decode cX11_copy 152 = .ok (.iload_n 3, 1) := by decide +kernel
theorem dX11_copy_153 : decode cX11_copy 153 = .ok (.imul, 1) := by decide +kernel
theorem dX11_copy_154 : decode cX11_copy 154 = .ok (.iload 4, 2) := by decide +kernel
theorem dX11_copy_156 : decode cX11_copy 156 = .ok (.iadd, 1) := by decide +kernel
theorem dX11_copy_157 : decode cX11_copy 157 = .ok (.iload 6, 2) := by decide +kernel
theorem dX11_copy_159 : decode cX11_copy 159 = .ok (.iadd, 1) := by decide +kernel
theorem dX11_copy_160 : decode cX11_copy 160 = .ok (.aload_n 0, 1) := by decide +kernel
theorem dX11_copy_161 : decode cX11_copy 161 = .ok (.getfield 89, 3) := by decide +kernel
theorem dX11_copy_164 : decode cX11_copy 164 = .ok (.iload 6, 2) := by decide +kernel
theorem dX11_copy_166 : decode cX11_copy 166 = .ok (.laload, 1) := by decide +kernel
theorem dX11_copy_167 : decode cX11_copy 167 = .ok (.lastore, 1) := by decide +kernel
theorem dX11_copy_168 : decode cX11_copy 168 = .ok (.iinc 6 1, 3) := by decide +kernel
theorem dX11_copy_171 : decode cX11_copy 171 = .ok (.goto (-32), 3) := by decide +kernel
theorem dX11_copy_174 : decode cX11_copy 174 = .ok (.iload 5, 2) := by decide +kernel
theorem dX11_copy_176 : decode cX11_copy 176 = .ok (.ireturn, 1) := by decide +kernel
theorem dX11_weather_0 : decode cX11_weather 0 = .ok (.iload_n 1, 1) := by decide +kernel
theorem dX11_weather_1 : decode cX11_weather 1 = .ok (.invokestatic 295, 3) := by decide +kernel
theorem dX11_weather_4 : decode cX11_weather 4 = .ok (.ifCond .ne 10, 3) := by decide +kernel
theorem dX11_weather_7 : decode cX11_weather 7 = .ok (.aload_n 0, 1) := by decide +kernel
theorem dX11_weather_8 : decode cX11_weather 8 = .ok (.ldc 92, 2) := by decide +kernel
theorem dX11_weather_10 : decode cX11_weather 10 = .ok (.invokevirtual 109, 3) := by decide +kernel
theorem dX11_weather_13 : decode cX11_weather 13 = .ok (.ireturn, 1) := by decide +kernel
theorem dX11_weather_14 : decode cX11_weather 14 = .ok (.aload_n 0, 1) := by decide +kernel
theorem dX11_weather_15 : decode cX11_weather 15 = .ok (.getfield 79, 3) := by decide +kernel
theorem dX11_weather_18 : decode cX11_weather 18 = .ok (.iload_n 1, 1) := by decide +kernel
theorem dX11_weather_19 : decode cX11_weather 19 = .ok (.iaload, 1) := by decide +kernel
theorem dX11_weather_20 : decode cX11_weather 20 = .ok (.ifCond .ne 11, 3) := by decide +kernel
theorem dX11_weather_23 : decode cX11_weather 23 = .ok (.aload_n 0, 1) := by decide +kernel
theorem dX11_weather_24 : decode cX11_weather 24 = .ok (.ldc_w 299, 3) := by decide +kernel
theorem dX11_weather_27 : decode cX11_weather 27 = .ok (.invokevirtual 109, 3) := by decide +kernel
theorem dX11_weather_30 : decode cX11_weather 30 = .ok (.ireturn, 1) := by decide +kernel
theorem dX11_weather_31 : decode cX11_weather 31 = .ok (.aload_n 0, 1) := by decide +kernel
theorem dX11_weather_32 : decode cX11_weather 32 = .ok (.invokevirtual 145, 3) := by decide +kernel
theorem dX11_weather_35 : decode cX11_weather 35 = .ok (.iconst 0, 1) := by decide +kernel
theorem dX11_weather_36 : decode cX11_weather 36 = .ok (.istore_n 2, 1) := by decide +kernel
theorem dX11_weather_37 : decode cX11_weather 37 = .ok (.iconst 0, 1) := by decide +kernel
theorem dX11_weather_38 : decode cX11_weather 38 = .ok (.istore_n 3, 1) := by decide +kernel
theorem dX11_weather_39 : decode cX11_weather 39 = .ok (.iload_n 3, 1) := by decide +kernel
theorem dX11_weather_40 : decode cX11_weather 40 = .ok (.aload_n 0, 1) := by decide +kernel
theorem dX11_weather_41 : decode cX11_weather 41 = .ok (.getfield 82, 3) := by decide +kernel
theorem dX11_weather_44 : decode cX11_weather 44 = .ok (.iload_n 1, 1) := by decide +kernel
theorem dX11_weather_45 : decode cX11_weather 45 = .ok (.iaload, 1) := by decide +kernel
theorem dX11_weather_46 : decode cX11_weather 46 = .ok (.if_icmp .ge 68, 3) := by decide +kernel
theorem dX11_weather_49 : decode cX11_weather 49 = .ok (.aload_n 0, 1) := by decide +kernel
theorem dX11_weather_50 : decode cX11_weather 50 = .ok (.getfield 9, 3) := by decide +kernel
theorem dX11_weather_53 : decode cX11_weather 53 = .ok (.iconst 0, 1) := by decide +kernel
theorem dX11_weather_54 : decode cX11_weather 54 = .ok (.iaload, 1) := by decide +kernel
theorem dX11_weather_55 : decode cX11_weather 55 = .ok (.sipush 2000, 3) := by decide +kernel
theorem dX11_weather_58 : decode cX11_weather 58 = .ok (.if_icmp .ge 56, 3) := by decide +kernel
theorem dX11_weather_61 : decode cX11_weather 61 = .ok (.aload_n 0, 1) := by decide +kernel
theorem dX11_weather_62 : decode cX11_weather 62 = .ok (.getfield 85, 3) := by decide +kernel
theorem dX11_weather_65 : decode cX11_weather 65 = .ok (.bipush 40, 2) := by decide +kernel
theorem dX11_weather_67 : decode cX11_weather 67 = .ok (.iload_n 1, 1) := by decide +kernel
theorem dX11_weather_68 : decode cX11_weather 68 = .ok (.imul, 1) := by decide +kernel
theorem dX11_weather_69 : decode cX11_weather 69 = .ok (.iload_n 3, 1) := by decide +kernel
theorem dX11_weather_70 : decode cX11_weather 70 = .ok (.iadd, 1) := by decide +kernel
theorem dX11_weather_71 : decode cX11_weather 71 = .ok (.laload, 1) := by decide +kernel
theorem dX11_weather_72 : decode cX11_weather 72 = .ok (.lstore 4, 2) := by decide +kernel
theorem dX11_weather_74 : decode cX11_weather 74 = .ok (.lload 4, 2) := by decide +kernel
theorem dX11_weather_76 : decode cX11_weather 76 = .ok (.ldc2_w 303, 3) := by decide +kernel
theorem dX11_weather_79 : decode cX11_weather 79 = .ok (.lcmp, 1) := by decide +kernel
theorem dX11_weather_80 : decode cX11_weather 80 = .ok (.ifCond .lt 28, 3) := by decide +kernel
theorem dX11_weather_83 : decode cX11_weather 83 = .ok (.lload 4, 2) := by decide +kernel
theorem dX11_weather_85 : decode cX11_weather 85 = .ok (.ldc2_w 305, 3) := by decide +kernel
theorem dX11_weather_88 : decode cX11_weather 88 = .ok (.lcmp, 1) := by decide +kernel
theorem dX11_weather_89 : decode cX11_weather 89 = .ok (.ifCond .gt 19, 3) := by decide +kernel
theorem dX11_weather_92 : decode cX11_weather 92 = .ok (.aload_n 0, 1) := by decide +kernel
theorem dX11_weather_93 : decode cX11_weather 93 = .ok (.getfield 9, 3) := by decide +kernel
theorem dX11_weather_96 : decode cX11_weather 96 = .ok (.iconst 1, 1) := by decide +kernel
theorem dX11_weather_97 : decode cX11_weather 97 = .ok (.lload 4, 2) := by decide +kernel
theorem dX11_weather_99 : decode cX11_weather 99 = .ok (.l2i, 1) := by decide +kernel
theorem dX11_weather_100 : decode cX11_weather 100 = .ok (.iastore, 1) := by decide +kernel
theorem dX11_weather_101 : decode cX11_weather 101 = .ok (.aload_n 0, 1) := by decide +kernel
theorem dX11_weather_102 : decode cX11_weather 102 = .ok (.invokevirtual 158, 3) := by decide +kernel
theorem dX11_weather_105 : decode cX11_weather 105 = .ok (.iinc 2 1, 3) := by decide +kernel
theorem dX11_weather_108 : decode cX11_weather 108 = .ok (.iinc 3 1, 3) := by decide +kernel
theorem dX11_weather_111 : decode cX11_weather 111 = .ok (.goto (-72), 3) := by decide +kernel
theorem dX11_weather_114 : decode cX11_weather 114 = .ok (.iload_n 2, 1) := by decide +kernel
theorem dX11_weather_115 : decode cX11_weather 115 = .ok (.ireturn, 1) := by decide +kernel
theorem dX11_read_0 : decode cX11_read 0 = .ok (.iload_n 1, 1) := by decide +kernel
theorem dX11_read_1 : decode cX11_read 1 = .ok (.invokestatic 295, 3) := by decide +kernel
theorem dX11_read_4 : decode cX11_read 4 = .ok (.ifCond .ne 10, 3) := by decide +kernel
theorem dX11_read_7 : decode cX11_read 7 = .ok (.aload_n 0, 1) := by decide +kernel
theorem dX11_read_8 : decode cX11_read 8 = .ok (.ldc 92, 2) := by decide +kernel
theorem dX11_read_10 : decode cX11_read 10 = .ok (.invokevirtual 109, 3) := by decide +kernel
theorem dX11_read_13 : decode cX11_read 13 = .ok (.ireturn, 1) := by decide +kernel
theorem dX11_read_14 : decode cX11_read 14 = .ok (.aload_n 0, 1) := by decide +kernel
theorem dX11_read_15 : decode cX11_read 15 = .ok (.getfield 79, 3) := by decide +kernel
theorem dX11_read_18 : decode cX11_read 18 = .ok (.iload_n 1, 1) := by decide +kernel
theorem dX11_read_19 : decode cX11_read 19 = .ok (.iaload, 1) := by decide +kernel
theorem dX11_read_20 : decode cX11_read 20 = .ok (.ifCond .ne 11, 3) := by decide +kernel
theorem dX11_read_23 : decode cX11_read 23 = .ok (.aload_n 0, 1) := by decide +kernel
theorem dX11_read_24 : decode cX11_read 24 = .ok (.ldc_w 299, 3) := by decide +kernel
theorem dX11_read_27 : decode cX11_read 27 = .ok (.invokevirtual 109, 3) := by decide +kernel
theorem dX11_read_30 : decode cX11_read 30 = .ok (.ireturn, 1) := by decide +kernel
theorem dX11_read_31 : decode cX11_read 31 = .ok (.iconst 0, 1) := by decide +kernel
theorem dX11_read_32 : decode cX11_read 32 = .ok (.istore_n 2, 1) := by decide +kernel
theorem dX11_read_33 : decode cX11_read 33 = .ok (.iload_n 2, 1) := by decide +kernel
theorem dX11_read_34 : decode cX11_read 34 = .ok (.aload_n 0, 1) := by decide +kernel
theorem dX11_read_35 : decode cX11_read 35 = .ok (.getfield 82, 3) := by decide +kernel
theorem dX11_read_38 : decode cX11_read 38 = .ok (.iload_n 1, 1) := by decide +kernel
theorem dX11_read_39 : decode cX11_read 39 = .ok (.iaload, 1) := by decide +kernel
theorem dX11_read_40 : decode cX11_read 40 = .ok (.if_icmp .ge 44, 3) := by decide +kernel
theorem dX11_read_43 : decode cX11_read 43 = .ok (.aload_n 0, 1) := by decide +kernel
theorem dX11_read_44 : decode cX11_read 44 = .ok (.iload_n 2, 1) := by decide +kernel
theorem dX11_read_45 : decode cX11_read 45 = .ok (.invokevirtual 141, 3) := by decide +kernel
theorem dX11_read_48 : decode cX11_read 48 = .ok (.ifCond .eq 26, 3) := by decide +kernel
theorem dX11_read_51 : decode cX11_read 51 = .ok (.aload_n 0, 1) := by decide +kernel
theorem dX11_read_52 : decode cX11_read 52 = .ok (.getfield 85, 3) := by decide +kernel
theorem dX11_read_55 : decode cX11_read 55 = .ok (.bipush 40, 2) := by decide +kernel
theorem dX11_read_57 : decode cX11_read 57 = .ok (.iload_n 1, 1) := by decide +kernel
theorem dX11_read_58 : decode cX11_read 58 = .ok (.imul, 1) := by decide +kernel
theorem dX11_read_59 : decode cX11_read 59 = .ok (.iload_n 2, 1) := by decide +kernel
theorem dX11_read_60 : decode cX11_read 60 = .ok (.iadd, 1) := by decide +kernel
theorem dX11_read_61 : decode cX11_read 61 = .ok (.laload, 1) := by decide +kernel
theorem dX11_read_62 : decode cX11_read 62 = .ok (.aload_n 0, 1) := by decide +kernel
theorem dX11_read_63 : decode cX11_read 63 = .ok (.iload_n 2, 1) := by decide +kernel
theorem dX11_read_64 : decode cX11_read 64 = .ok (.bipush 6, 2) := by decide +kernel
theorem dX11_read_66 : decode cX11_read 66 = .ok (.invokevirtual 101, 3) := by decide +kernel
theorem dX11_read_69 : decode cX11_read 69 = .ok (.i2l, 1) := by decide +kernel
theorem dX11_read_70 : decode cX11_read 70 = .ok (.lcmp, 1) := by decide +kernel
theorem dX11_read_71 : decode cX11_read 71 = .ok (.ifCond .eq 7, 3) := by decide +kernel
theorem dX11_read_74 : decode cX11_read 74 = .ok (.iconst 1, 1) := by decide +kernel
theorem dX11_read_75 : decode cX11_read 75 = .ok (.iload_n 2, 1) := by decide +kernel
theorem dX11_read_76 : decode cX11_read 76 = .ok (.iadd, 1) := by decide +kernel
theorem dX11_read_77 : decode cX11_read 77 = .ok (.ireturn, 1) := by decide +kernel
theorem dX11_read_78 : decode cX11_read 78 = .ok (.iinc 2 1, 3) := by decide +kernel
theorem dX11_read_81 : decode cX11_read 81 = .ok (.goto (-48), 3) := by decide +kernel
theorem dX11_read_84 : decode cX11_read 84 = .ok (.iconst 0, 1) := by decide +kernel
theorem dX11_read_85 : decode cX11_read 85 = .ok (.ireturn, 1) := by decide +kernel
theorem dX11_image_0 : decode cX11_image 0 = .ok (.iconst 0, 1) := by decide +kernel
theorem dX11_image_1 : decode cX11_image 1 = .ok (.istore_n 1, 1) := by decide +kernel
theorem dX11_image_2 : decode cX11_image 2 = .ok (.iload_n 1, 1) := by decide +kernel
theorem dX11_image_3 : decode cX11_image 3 = .ok (.sipush 291, 3) := by decide +kernel
theorem dX11_image_6 : decode cX11_image 6 = .ok (.if_icmp .ge 21, 3) := by decide +kernel
theorem dX11_image_9 : decode cX11_image 9 = .ok (.aload_n 0, 1) := by decide +kernel
theorem dX11_image_10 : decode cX11_image 10 = .ok (.getfield 13, 3) := by decide +kernel
theorem dX11_image_13 : decode cX11_image 13 = .ok (.iload_n 1, 1) := by decide +kernel
theorem dX11_image_14 : decode cX11_image 14 = .ok (.aload_n 0, 1) := by decide +kernel
theorem dX11_image_15 : decode cX11_image 15 = .ok (.getfield 9, 3) := by decide +kernel
theorem dX11_image_18 : decode cX11_image 18 = .ok (.iload_n 1, 1) := by decide +kernel
theorem dX11_image_19 : decode cX11_image 19 = .ok (.iaload, 1) := by decide +kernel
theorem dX11_image_20 : decode cX11_image 20 = .ok (.iastore, 1) := by decide +kernel
theorem dX11_image_21 : decode cX11_image 21 = .ok (.iinc 1 1, 3) := by decide +kernel
theorem dX11_image_24 : decode cX11_image 24 = .ok (.goto (-22), 3) := by decide +kernel
theorem dX11_image_27 : decode cX11_image 27 = .ok (.aload_n 0, 1) := by decide +kernel
theorem dX11_image_28 : decode cX11_image 28 = .ok (.iconst 1, 1) := by decide +kernel
theorem dX11_image_29 : decode cX11_image 29 = .ok (.putfield 307, 3) := by decide +kernel
theorem dX11_image_32 : decode cX11_image 32 = .ok (.iconst 1, 1) := by decide +kernel
theorem dX11_image_33 : decode cX11_image 33 = .ok (.ireturn, 1) := by decide +kernel
theorem dX11_undo_0 : decode cX11_undo 0 = .ok (.aload_n 0, 1) := by decide +kernel
theorem dX11_undo_1 : decode cX11_undo 1 = .ok (.getfield 307, 3) := by decide +kernel
theorem dX11_undo_4 : decode cX11_undo 4 = .ok (.ifCond .ne 10, 3) := by decide +kernel
theorem dX11_undo_7 : decode cX11_undo 7 = .ok (.aload_n 0, 1) := by decide +kernel
theorem dX11_undo_8 : decode cX11_undo 8 = .ok (.ldc 225, 2) := by decide +kernel
theorem dX11_undo_10 : decode cX11_undo 10 = .ok (.invokevirtual 109, 3) := by decide +kernel
theorem dX11_undo_13 : decode cX11_undo 13 = .ok (.ireturn, 1) := by decide +kernel
theorem dX11_undo_14 : decode cX11_undo 14 = .ok (.iconst 0, 1) := by decide +kernel
theorem dX11_undo_15 : decode cX11_undo 15 = .ok (.istore_n 1, 1) := by decide +kernel
theorem dX11_undo_16 : decode cX11_undo 16 = .ok (.iload_n 1, 1) := by decide +kernel
theorem dX11_undo_17 : decode cX11_undo 17 = .ok (.sipush 291, 3) := by decide +kernel
theorem dX11_undo_20 : decode cX11_undo 20 = .ok (.if_icmp .ge 21, 3) := by decide +kernel
theorem dX11_undo_23 : decode cX11_undo 23 = .ok (.aload_n 0, 1) := by decide +kernel
theorem dX11_undo_24 : decode cX11_undo 24 = .ok (.getfield 9, 3) := by decide +kernel
theorem dX11_undo_27 : decode cX11_undo 27 = .ok (.iload_n 1, 1) := by decide +kernel
theorem dX11_undo_28 : decode cX11_undo 28 = .ok (.aload_n 0, 1) := by decide +kernel
theorem dX11_undo_29 : decode cX11_undo 29 = .ok (.getfield 13, 3) := by decide +kernel
theorem dX11_undo_32 : decode cX11_undo 32 = .ok (.iload_n 1, 1) := by decide +kernel
theorem dX11_undo_33 : decode cX11_undo 33 = .ok (.iaload, 1) := by decide +kernel
theorem dX11_undo_34 : decode cX11_undo 34 = .ok (.iastore, 1) := by decide +kernel
theorem dX11_undo_35 : decode cX11_undo 35 = .ok (.iinc 1 1, 3) := by decide +kernel
theorem dX11_undo_38 : decode cX11_undo 38 = .ok (.goto (-22), 3) := by decide +kernel
theorem dX11_undo_41 : decode cX11_undo 41 = .ok (.aload_n 0, 1) := by decide +kernel
theorem dX11_undo_42 : decode cX11_undo 42 = .ok (.iconst 0, 1) := by decide +kernel
theorem dX11_undo_43 : decode cX11_undo 43 = .ok (.putfield 105, 3) := by decide +kernel
theorem dX11_undo_46 : decode cX11_undo 46 = .ok (.aload_n 0, 1) := by decide +kernel
theorem dX11_undo_47 : decode cX11_undo 47 = .ok (.getfield 9, 3) := by decide +kernel
theorem dX11_undo_50 : decode cX11_undo 50 = .ok (.iconst 0, 1) := by decide +kernel
theorem dX11_undo_51 : decode cX11_undo 51 = .ok (.iaload, 1) := by decide +kernel
theorem dX11_undo_52 : decode cX11_undo 52 = .ok (.ireturn, 1) := by decide +kernel
theorem dX11_tear_0 : decode cX11_tear 0 = .ok (.aload_n 0, 1) := by decide +kernel
theorem dX11_tear_1 : decode cX11_tear 1 = .ok (.getfield 307, 3) := by decide +kernel
theorem dX11_tear_4 : decode cX11_tear 4 = .ok (.istore_n 1, 1) := by decide +kernel
theorem dX11_tear_5 : decode cX11_tear 5 = .ok (.aload_n 0, 1) := by decide +kernel
theorem dX11_tear_6 : decode cX11_tear 6 = .ok (.iconst 0, 1) := by decide +kernel
theorem dX11_tear_7 : decode cX11_tear 7 = .ok (.putfield 307, 3) := by decide +kernel
theorem dX11_tear_10 : decode cX11_tear 10 = .ok (.iload_n 1, 1) := by decide +kernel
theorem dX11_tear_11 : decode cX11_tear 11 = .ok (.ifCond .eq 7, 3) := by decide +kernel
theorem dX11_tear_14 : decode cX11_tear 14 = .ok (.iconst 1, 1) := by decide +kernel
theorem dX11_tear_15 : decode cX11_tear 15 = .ok (.goto 4, 3) := by decide +kernel
theorem dX11_tear_18 : decode cX11_tear 18 = .ok (.iconst 0, 1) := by decide +kernel
theorem dX11_tear_19 : decode cX11_tear 19 = .ok (.ireturn, 1) := by decide +kernel
theorem dX11_fullest_0 : decode cX11_fullest 0 = .ok (.iconst 0, 1) := by decide +kernel
theorem dX11_fullest_1 : decode cX11_fullest 1 = .ok (.istore_n 1, 1) := by decide +kernel
theorem dX11_fullest_2 : decode cX11_fullest 2 = .ok (.iconst 0, 1) := by decide +kernel
theorem dX11_fullest_3 : decode cX11_fullest 3 = .ok (.istore_n 2, 1) := by decide +kernel
theorem dX11_fullest_4 : decode cX11_fullest 4 = .ok (.iconst 0, 1) := by decide +kernel
theorem dX11_fullest_5 : decode cX11_fullest 5 = .ok (.istore_n 3, 1) := by decide +kernel
theorem dX11_fullest_6 : decode cX11_fullest 6 = .ok (.iload_n 3, 1) := by decide +kernel
theorem dX11_fullest_7 : decode cX11_fullest 7 = .ok (.iconst 4, 1) := by decide +kernel
theorem dX11_fullest_8 : decode cX11_fullest 8 = .ok (.if_icmp .ge 78, 3) := by decide +kernel
theorem dX11_fullest_11 : decode cX11_fullest 11 = .ok (.iconst 0, 1) := by decide +kernel
theorem dX11_fullest_12 : decode cX11_fullest 12 = .ok (.istore 4, 2) := by decide +kernel
theorem dX11_fullest_14 : decode cX11_fullest 14 = .ok (.iconst 0, 1) := by decide +kernel
theorem dX11_fullest_15 : decode cX11_fullest 15 = .ok (.istore 5, 2) := by decide +kernel
theorem dX11_fullest_17 : decode cX11_fullest 17 = .ok (.iload 5, 2) := by decide +kernel
theorem dX11_fullest_19 : decode cX11_fullest 19 = .ok (.aload_n 0, 1) := by decide +kernel
theorem dX11_fullest_20 : decode cX11_fullest 20 = .ok (.getfield 9, 3) := by decide +kernel
theorem dX11_fullest_23 : decode cX11_fullest 23 = .ok (.iconst 4, 1) := by decide +kernel
theorem dX11_fullest_24 : decode cX11_fullest 24 = .ok (.iaload, 1) := by decide +kernel
theorem dX11_fullest_25 : decode cX11_fullest 25 = .ok (.if_icmp .ge 30, 3) := by decide +kernel
theorem dX11_fullest_28 : decode cX11_fullest 28 = .ok (.iload 4, 2) := by decide +kernel
theorem dX11_fullest_30 : decode cX11_fullest 30 = .ok (.aload_n 0, 1) := by decide +kernel
theorem dX11_fullest_31 : decode cX11_fullest 31 = .ok (.iload 5, 2) := by decide +kernel
theorem dX11_fullest_33 : decode cX11_fullest 33 = .ok (.iconst 1, 1) := by decide +kernel
theorem dX11_fullest_34 : decode cX11_fullest 34 = .ok (.invokevirtual 101, 3) := by decide +kernel
theorem dX11_fullest_37 : decode cX11_fullest 37 = .ok (.iload_n 3, 1) := by decide +kernel
theorem dX11_fullest_38 : decode cX11_fullest 38 = .ok (.if_icmp .ne 7, 3) := by decide +kernel
theorem dX11_fullest_41 : decode cX11_fullest 41 = .ok (.iconst 1, 1) := by decide +kernel
theorem dX11_fullest_42 : decode cX11_fullest 42 = .ok (.goto 4, 3) := by decide +kernel
theorem dX11_fullest_45 : decode cX11_fullest 45 = .ok (.iconst 0, 1) := by decide +kernel
theorem dX11_fullest_46 : decode cX11_fullest 46 = .ok (.iadd, 1) := by decide +kernel
theorem dX11_fullest_47 : decode cX11_fullest 47 = .ok (.istore 4, 2) := by decide +kernel
theorem dX11_fullest_49 : decode cX11_fullest 49 = .ok (.iinc 5 1, 3) := by decide +kernel
theorem dX11_fullest_52 : decode cX11_fullest 52 = .ok (.goto (-35), 3) := by decide +kernel
theorem dX11_fullest_55 : decode cX11_fullest 55 = .ok (.iload 4, 2) := by decide +kernel
theorem dX11_fullest_57 : decode cX11_fullest 57 = .ok (.iload_n 2, 1) := by decide +kernel
theorem dX11_fullest_58 : decode cX11_fullest 58 = .ok (.if_icmp .le 7, 3) := by decide +kernel
theorem dX11_fullest_61 : decode cX11_fullest 61 = .ok (.iload_n 3, 1) := by decide +kernel
theorem dX11_fullest_62 : decode cX11_fullest 62 = .ok (.goto 4, 3) := by decide +kernel
theorem dX11_fullest_65 : decode cX11_fullest 65 = .ok (.iload_n 1, 1) := by decide +kernel
theorem dX11_fullest_66 : decode cX11_fullest 66 = .ok (.istore_n 1, 1) := by decide +kernel
theorem dX11_fullest_67 : decode cX11_fullest 67 = .ok (.iload 4, 2) := by decide +kernel
theorem dX11_fullest_69 : decode cX11_fullest 69 = .ok (.iload_n 2, 1) := by decide +kernel
theorem dX11_fullest_70 : decode cX11_fullest 70 = .ok (.if_icmp .le 8, 3) := by decide +kernel
theorem dX11_fullest_73 : decode cX11_fullest 73 = .ok (.iload 4, 2) := by decide +kernel
theorem dX11_fullest_75 : decode cX11_fullest 75 = .ok (.goto 4, 3) := by decide +kernel
theorem dX11_fullest_78 : decode cX11_fullest 78 = .ok (.iload_n 2, 1) := by decide +kernel
theorem dX11_fullest_79 : decode cX11_fullest 79 = .ok (.istore_n 2, 1) := by decide +kernel
theorem dX11_fullest_80 : decode cX11_fullest 80 = .ok (.iinc 3 1, 3) := by decide +kernel
theorem dX11_fullest_83 : decode cX11_fullest 83 = .ok (.goto (-77), 3) := by decide +kernel
theorem dX11_fullest_86 : decode cX11_fullest 86 = .ok (.iload_n 1, 1) := by decide +kernel
theorem dX11_fullest_87 : decode cX11_fullest 87 = .ok (.ireturn, 1) := by decide +kernel
theorem dX11_flowAll_0 : decode cX11_flowAll 0 = .ok (.aload_n 0, 1) := by decide +kernel
theorem dX11_flowAll_1 : decode cX11_flowAll 1 = .ok (.invokevirtual 145, 3) := by decide +kernel
theorem dX11_flowAll_4 : decode cX11_flowAll 4 = .ok (.iconst 0, 1) := by decide +kernel
theorem dX11_flowAll_5 : decode cX11_flowAll 5 = .ok (.istore_n 1, 1) := by decide +kernel
theorem dX11_flowAll_6 : decode cX11_flowAll 6 = .ok (.iconst 0, 1) := by decide +kernel
theorem dX11_flowAll_7 : decode cX11_flowAll 7 = .ok (.istore_n 2, 1) := by decide +kernel
theorem dX11_flowAll_8 : decode cX11_flowAll 8 = .ok (.iload_n 2, 1) := by decide +kernel
theorem dX11_flowAll_9 : decode cX11_flowAll 9 = .ok (.aload_n 0, 1) := by decide +kernel
theorem dX11_flowAll_10 : decode cX11_flowAll 10 = .ok (.getfield 9, 3) := by decide +kernel
theorem dX11_flowAll_13 : decode cX11_flowAll 13 = .ok (.iconst 4, 1) := by decide +kernel
theorem dX11_flowAll_14 : decode cX11_flowAll 14 = .ok (.iaload, 1) := by decide +kernel
theorem dX11_flowAll_15 : decode cX11_flowAll 15 = .ok (.if_icmp .ge 18, 3) := by decide +kernel
theorem dX11_flowAll_18 : decode cX11_flowAll 18 = .ok (.iload_n 1, 1) := by decide +kernel
theorem dX11_flowAll_19 : decode cX11_flowAll 19 = .ok (.aload_n 0, 1) := by decide +kernel
theorem dX11_flowAll_20 : decode cX11_flowAll 20 = .ok (.getfield 37, 3) := by decide +kernel
theorem dX11_flowAll_23 : decode cX11_flowAll 23 = .ok (.iload_n 2, 1) := by decide +kernel
theorem dX11_flowAll_24 : decode cX11_flowAll 24 = .ok (.iaload, 1) := by decide +kernel
theorem dX11_flowAll_25 : decode cX11_flowAll 25 = .ok (.iadd, 1) := by decide +kernel
theorem dX11_flowAll_26 : decode cX11_flowAll 26 = .ok (.istore_n 1, 1) := by decide +kernel
theorem dX11_flowAll_27 : decode cX11_flowAll 27 = .ok (.iinc 2 1, 3) := by decide +kernel
theorem dX11_flowAll_30 : decode cX11_flowAll 30 = .ok (.goto (-22), 3) := by decide +kernel
theorem dX11_flowAll_33 : decode cX11_flowAll 33 = .ok (.iload_n 1, 1) := by decide +kernel
theorem dX11_flowAll_34 : decode cX11_flowAll 34 = .ok (.ireturn, 1) := by decide +kernel
theorem dX11_count_0 : decode cX11_count 0 = .ok (.iload_n 1, 1) := by decide +kernel
theorem dX11_count_1 : decode cX11_count 1 = .ok (.tableswitch 107 0 8 #[51, 58, 65, 71, 78, 83, 90, 97, 102], 51) := by decide +kernel
theorem dX11_count_52 : decode cX11_count 52 = .ok (.aload_n 0, 1) := by decide +kernel
theorem dX11_count_53 : decode cX11_count 53 = .ok (.getfield 9, 3) := by decide +kernel
theorem dX11_count_56 : decode cX11_count 56 = .ok (.iconst 0, 1) := by decide +kernel
theorem dX11_count_57 : decode cX11_count 57 = .ok (.iaload, 1) := by decide +kernel
theorem dX11_count_58 : decode cX11_count 58 = .ok (.ireturn, 1) := by decide +kernel
theorem dX11_count_59 : decode cX11_count 59 = .ok (.aload_n 0, 1) := by decide +kernel
theorem dX11_count_60 : decode cX11_count 60 = .ok (.getfield 9, 3) := by decide +kernel
theorem dX11_count_63 : decode cX11_count 63 = .ok (.iconst 4, 1) := by decide +kernel
theorem dX11_count_64 : decode cX11_count 64 = .ok (.iaload, 1) := by decide +kernel
theorem dX11_count_65 : decode cX11_count 65 = .ok (.ireturn, 1) := by decide +kernel
theorem dX11_count_66 : decode cX11_count 66 = .ok (.aload_n 0, 1) := by decide +kernel
theorem dX11_count_67 : decode cX11_count 67 = .ok (.iconst 4, 1) := by decide +kernel
theorem dX11_count_68 : decode cX11_count 68 = .ok (.invokevirtual 226, 3) := by decide +kernel
theorem dX11_count_71 : decode cX11_count 71 = .ok (.ireturn, 1) := by decide +kernel
theorem dX11_count_72 : decode cX11_count 72 = .ok (.aload_n 0, 1) := by decide +kernel
theorem dX11_count_73 : decode cX11_count 73 = .ok (.getfield 9, 3) := by decide +kernel
theorem dX11_count_76 : decode cX11_count 76 = .ok (.iconst 5, 1) := by decide +kernel
theorem dX11_count_77 : decode cX11_count 77 = .ok (.iaload, 1) := by decide +kernel
theorem dX11_count_78 : decode cX11_count 78 = .ok (.ireturn, 1) := by decide +kernel
theorem dX11_count_79 : decode cX11_count 79 = .ok (.aload_n 0, 1) := by decide +kernel
theorem dX11_count_80 : decode cX11_count 80 = .ok (.getfield 161, 3) := by decide +kernel
theorem dX11_count_83 : decode cX11_count 83 = .ok (.ireturn, 1) := by decide +kernel
theorem dX11_count_84 : decode cX11_count 84 = .ok (.aload_n 0, 1) := by decide +kernel
theorem dX11_count_85 : decode cX11_count 85 = .ok (.bipush 7, 2) := by decide +kernel
theorem dX11_count_87 : decode cX11_count 87 = .ok (.invokevirtual 226, 3) := by decide +kernel
theorem dX11_count_90 : decode cX11_count 90 = .ok (.ireturn, 1) := by decide +kernel
theorem dX11_count_91 : decode cX11_count 91 = .ok (.aload_n 0, 1) := by decide +kernel
theorem dX11_count_92 : decode cX11_count 92 = .ok (.bipush 8, 2) := by decide +kernel
theorem dX11_count_94 : decode cX11_count 94 = .ok (.invokevirtual 226, 3) := by decide +kernel
theorem dX11_count_97 : decode cX11_count 97 = .ok (.ireturn, 1) := by decide +kernel
theorem dX11_count_98 : decode cX11_count 98 = .ok (.aload_n 0, 1) := by decide +kernel
theorem dX11_count_99 : decode cX11_count 99 = .ok (.invokevirtual 310, 3) := by decide +kernel
theorem dX11_count_102 : decode cX11_count 102 = .ok (.ireturn, 1) := by decide +kernel
theorem dX11_count_103 : decode cX11_count 103 = .ok (.aload_n 0, 1) := by decide +kernel
theorem dX11_count_104 : decode cX11_count 104 = .ok (.invokevirtual 313, 3) := by decide +kernel
theorem dX11_count_107 : decode cX11_count 107 = .ok (.ireturn, 1) := by decide +kernel
theorem dX11_count_108 : decode cX11_count 108 = .ok (.aload_n 0, 1) := by decide +kernel
theorem dX11_count_109 : decode cX11_count 109 = .ok (.ldc 92, 2) := by decide +kernel
theorem dX11_count_111 : decode cX11_count 111 = .ok (.invokevirtual 109, 3) := by decide +kernel
theorem dX11_count_114 : decode cX11_count 114 = .ok (.ireturn, 1) := by decide +kernel
theorem dX11_status_0 : decode cX11_status 0 = .ok (.iload_n 1, 1) := by decide +kernel
theorem dX11_status_1 : decode cX11_status 1 = .ok (.iconst (-1), 1) := by decide +kernel
theorem dX11_status_2 : decode cX11_status 2 = .ok (.bipush 6, 2) := by decide +kernel
theorem dX11_status_4 : decode cX11_status 4 = .ok (.invokestatic 97, 3) := by decide +kernel
theorem dX11_status_7 : decode cX11_status 7 = .ok (.ifCond .ne 10, 3) := by decide +kernel
theorem dX11_status_10 : decode cX11_status 10 = .ok (.aload_n 0, 1) := by decide +kernel
theorem dX11_status_11 : decode cX11_status 11 = .ok (.ldc 92, 2) := by decide +kernel
theorem dX11_status_13 : decode cX11_status 13 = .ok (.invokevirtual 109, 3) := by decide +kernel
theorem dX11_status_16 : decode cX11_status 16 = .ok (.ireturn, 1) := by decide +kernel
theorem dX11_status_17 : decode cX11_status 17 = .ok (.iload_n 1, 1) := by decide +kernel
theorem dX11_status_18 : decode cX11_status 18 = .ok (.ifCond .ge 10, 3) := by decide +kernel
theorem dX11_status_21 : decode cX11_status 21 = .ok (.aload_n 0, 1) := by decide +kernel
theorem dX11_status_22 : decode cX11_status 22 = .ok (.getfield 93, 3) := by decide +kernel
theorem dX11_status_25 : decode cX11_status 25 = .ok (.goto 9, 3) := by decide +kernel
theorem dX11_status_28 : decode cX11_status 28 = .ok (.aload_n 0, 1) := by decide +kernel
theorem dX11_status_29 : decode cX11_status 29 = .ok (.getfield 16, 3) := by decide +kernel
theorem dX11_status_32 : decode cX11_status 32 = .ok (.iload_n 1, 1) := by decide +kernel
theorem dX11_status_33 : decode cX11_status 33 = .ok (.iaload, 1) := by decide +kernel
theorem dX11_status_34 : decode cX11_status 34 = .ok (.ireturn, 1) := by decide +kernel
theorem dJ11_isValidCodePoint_9a6ad_0 : decode cJ11_isValidCodePoint_9a6ad 0 = .ok (.iload_n 0, 1) := by decide +kernel
theorem dJ11_isValidCodePoint_9a6ad_1 : decode cJ11_isValidCodePoint_9a6ad 1 = .ok (.bipush 16, 2) := by decide +kernel
theorem dJ11_isValidCodePoint_9a6ad_3 : decode cJ11_isValidCodePoint_9a6ad 3 = .ok (.iushr, 1) := by decide +kernel
theorem dJ11_isValidCodePoint_9a6ad_4 : decode cJ11_isValidCodePoint_9a6ad 4 = .ok (.istore_n 1, 1) := by decide +kernel
theorem dJ11_isValidCodePoint_9a6ad_5 : decode cJ11_isValidCodePoint_9a6ad 5 = .ok (.iload_n 1, 1) := by decide +kernel
theorem dJ11_isValidCodePoint_9a6ad_6 : decode cJ11_isValidCodePoint_9a6ad 6 = .ok (.bipush 17, 2) := by decide +kernel
theorem dJ11_isValidCodePoint_9a6ad_8 : decode cJ11_isValidCodePoint_9a6ad 8 = .ok (.if_icmp .ge 7, 3) := by decide +kernel
theorem dJ11_isValidCodePoint_9a6ad_11 : decode cJ11_isValidCodePoint_9a6ad 11 = .ok (.iconst 1, 1) := by decide +kernel
theorem dJ11_isValidCodePoint_9a6ad_12 : decode cJ11_isValidCodePoint_9a6ad 12 = .ok (.goto 4, 3) := by decide +kernel
theorem dJ11_isValidCodePoint_9a6ad_15 : decode cJ11_isValidCodePoint_9a6ad 15 = .ok (.iconst 0, 1) := by decide +kernel
theorem dJ11_isValidCodePoint_9a6ad_16 : decode cJ11_isValidCodePoint_9a6ad 16 = .ok (.ireturn, 1) := by decide +kernel
theorem dJ11_highSurrogate_5068e_0 : decode cJ11_highSurrogate_5068e 0 = .ok (.iload_n 0, 1) := by decide +kernel
theorem dJ11_highSurrogate_5068e_1 : decode cJ11_highSurrogate_5068e 1 = .ok (.bipush 10, 2) := by decide +kernel
theorem dJ11_highSurrogate_5068e_3 : decode cJ11_highSurrogate_5068e 3 = .ok (.iushr, 1) := by decide +kernel
theorem dJ11_highSurrogate_5068e_4 : decode cJ11_highSurrogate_5068e 4 = .ok (.ldc 110, 2) := by decide +kernel
theorem dJ11_highSurrogate_5068e_6 : decode cJ11_highSurrogate_5068e 6 = .ok (.iadd, 1) := by decide +kernel
