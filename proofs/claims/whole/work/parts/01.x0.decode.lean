theorem dX0_init_0 : decode cX0_init 0 = .ok (.aload_n 0, 1) := by decide +kernel
theorem dX0_init_1 : decode cX0_init 1 = .ok (.invokespecial 3, 3) := by decide +kernel
theorem dX0_init_4 : decode cX0_init 4 = .ok (.aload_n 0, 1) := by decide +kernel
theorem dX0_init_5 : decode cX0_init 5 = .ok (.bipush 12, 2) := by decide +kernel
theorem dX0_init_7 : decode cX0_init 7 = .ok (.anewarray 9, 3) := by decide +kernel
theorem dX0_init_10 : decode cX0_init 10 = .ok (.putfield 11, 3) := by decide +kernel
theorem dX0_init_13 : decode cX0_init 13 = .ok (.aload_n 0, 1) := by decide +kernel
theorem dX0_init_14 : decode cX0_init 14 = .ok (.iconst 0, 1) := by decide +kernel
theorem dX0_init_15 : decode cX0_init 15 = .ok (.putfield 17, 3) := by decide +kernel
theorem dX0_init_18 : decode cX0_init 18 = .ok (.aload_n 0, 1) := by decide +kernel
theorem dX0_init_19 : decode cX0_init 19 = .ok (.iconst 4, 1) := by decide +kernel
theorem dX0_init_20 : decode cX0_init 20 = .ok (.newarray .int, 2) := by decide +kernel
theorem dX0_init_22 : decode cX0_init 22 = .ok (.putfield 21, 3) := by decide +kernel
theorem dX0_init_25 : decode cX0_init 25 = .ok (.aload_n 0, 1) := by decide +kernel
theorem dX0_init_26 : decode cX0_init 26 = .ok (.iconst 0, 1) := by decide +kernel
theorem dX0_init_27 : decode cX0_init 27 = .ok (.putfield 25, 3) := by decide +kernel
theorem dX0_init_30 : decode cX0_init 30 = .ok (.aload_n 0, 1) := by decide +kernel
theorem dX0_init_31 : decode cX0_init 31 = .ok (.bipush 50, 2) := by decide +kernel
theorem dX0_init_33 : decode cX0_init 33 = .ok (.putfield 28, 3) := by decide +kernel
theorem dX0_init_36 : decode cX0_init 36 = .ok (.aload_n 0, 1) := by decide +kernel
theorem dX0_init_37 : decode cX0_init 37 = .ok (.bipush 100, 2) := by decide +kernel
theorem dX0_init_39 : decode cX0_init 39 = .ok (.putfield 31, 3) := by decide +kernel
theorem dX0_init_42 : decode cX0_init 42 = .ok (.aload_n 0, 1) := by decide +kernel
theorem dX0_init_43 : decode cX0_init 43 = .ok (.sipush 600, 3) := by decide +kernel
theorem dX0_init_46 : decode cX0_init 46 = .ok (.putfield 34, 3) := by decide +kernel
theorem dX0_init_49 : decode cX0_init 49 = .ok (.iconst 0, 1) := by decide +kernel
theorem dX0_init_50 : decode cX0_init 50 = .ok (.istore_n 1, 1) := by decide +kernel
theorem dX0_init_51 : decode cX0_init 51 = .ok (.iload_n 1, 1) := by decide +kernel
theorem dX0_init_52 : decode cX0_init 52 = .ok (.bipush 12, 2) := by decide +kernel
theorem dX0_init_54 : decode cX0_init 54 = .ok (.if_icmp .ge 22, 3) := by decide +kernel
theorem dX0_init_57 : decode cX0_init 57 = .ok (.aload_n 0, 1) := by decide +kernel
theorem dX0_init_58 : decode cX0_init 58 = .ok (.getfield 11, 3) := by decide +kernel
theorem dX0_init_61 : decode cX0_init 61 = .ok (.iload_n 1, 1) := by decide +kernel
theorem dX0_init_62 : decode cX0_init 62 = .ok (.new 9, 3) := by decide +kernel
theorem dX0_init_65 : decode cX0_init 65 = .ok (.dup, 1) := by decide +kernel
theorem dX0_init_66 : decode cX0_init 66 = .ok (.invokespecial 37, 3) := by decide +kernel
theorem dX0_init_69 : decode cX0_init 69 = .ok (.aastore, 1) := by decide +kernel
theorem dX0_init_70 : decode cX0_init 70 = .ok (.iinc 1 1, 3) := by decide +kernel
theorem dX0_init_73 : decode cX0_init 73 = .ok (.goto (-22), 3) := by decide +kernel
theorem dX0_init_76 : decode cX0_init 76 = .ok (.return_, 1) := by decide +kernel
theorem dX0_become_0 : decode cX0_become 0 = .ok (.aload_n 0, 1) := by decide +kernel
theorem dX0_become_1 : decode cX0_become 1 = .ok (.aload_n 1, 1) := by decide +kernel
theorem dX0_become_2 : decode cX0_become 2 = .ok (.getfield 17, 3) := by decide +kernel
theorem dX0_become_5 : decode cX0_become 5 = .ok (.putfield 17, 3) := by decide +kernel
theorem dX0_become_8 : decode cX0_become 8 = .ok (.iconst 0, 1) := by decide +kernel
theorem dX0_become_9 : decode cX0_become 9 = .ok (.istore_n 2, 1) := by decide +kernel
theorem dX0_become_10 : decode cX0_become 10 = .ok (.iload_n 2, 1) := by decide +kernel
theorem dX0_become_11 : decode cX0_become 11 = .ok (.bipush 12, 2) := by decide +kernel
theorem dX0_become_13 : decode cX0_become 13 = .ok (.if_icmp .ge 24, 3) := by decide +kernel
theorem dX0_become_16 : decode cX0_become 16 = .ok (.aload_n 0, 1) := by decide +kernel
theorem dX0_become_17 : decode cX0_become 17 = .ok (.getfield 11, 3) := by decide +kernel
theorem dX0_become_20 : decode cX0_become 20 = .ok (.iload_n 2, 1) := by decide +kernel
theorem dX0_become_21 : decode cX0_become 21 = .ok (.aaload, 1) := by decide +kernel
theorem dX0_become_22 : decode cX0_become 22 = .ok (.aload_n 1, 1) := by decide +kernel
theorem dX0_become_23 : decode cX0_become 23 = .ok (.getfield 11, 3) := by decide +kernel
theorem dX0_become_26 : decode cX0_become 26 = .ok (.iload_n 2, 1) := by decide +kernel
theorem dX0_become_27 : decode cX0_become 27 = .ok (.aaload, 1) := by decide +kernel
theorem dX0_become_28 : decode cX0_become 28 = .ok (.invokevirtual 38, 3) := by decide +kernel
theorem dX0_become_31 : decode cX0_become 31 = .ok (.iinc 2 1, 3) := by decide +kernel
theorem dX0_become_34 : decode cX0_become 34 = .ok (.goto (-24), 3) := by decide +kernel
theorem dX0_become_37 : decode cX0_become 37 = .ok (.iconst 0, 1) := by decide +kernel
theorem dX0_become_38 : decode cX0_become 38 = .ok (.istore_n 2, 1) := by decide +kernel
theorem dX0_become_39 : decode cX0_become 39 = .ok (.iload_n 2, 1) := by decide +kernel
theorem dX0_become_40 : decode cX0_become 40 = .ok (.iconst 4, 1) := by decide +kernel
theorem dX0_become_41 : decode cX0_become 41 = .ok (.if_icmp .ge 21, 3) := by decide +kernel
theorem dX0_become_44 : decode cX0_become 44 = .ok (.aload_n 0, 1) := by decide +kernel
theorem dX0_become_45 : decode cX0_become 45 = .ok (.getfield 21, 3) := by decide +kernel
theorem dX0_become_48 : decode cX0_become 48 = .ok (.iload_n 2, 1) := by decide +kernel
theorem dX0_become_49 : decode cX0_become 49 = .ok (.aload_n 1, 1) := by decide +kernel
theorem dX0_become_50 : decode cX0_become 50 = .ok (.getfield 21, 3) := by decide +kernel
theorem dX0_become_53 : decode cX0_become 53 = .ok (.iload_n 2, 1) := by decide +kernel
theorem dX0_become_54 : decode cX0_become 54 = .ok (.iaload, 1) := by decide +kernel
theorem dX0_become_55 : decode cX0_become 55 = .ok (.iastore, 1) := by decide +kernel
theorem dX0_become_56 : decode cX0_become 56 = .ok (.iinc 2 1, 3) := by decide +kernel
theorem dX0_become_59 : decode cX0_become 59 = .ok (.goto (-20), 3) := by decide +kernel
theorem dX0_become_62 : decode cX0_become 62 = .ok (.aload_n 0, 1) := by decide +kernel
theorem dX0_become_63 : decode cX0_become 63 = .ok (.aload_n 1, 1) := by decide +kernel
theorem dX0_become_64 : decode cX0_become 64 = .ok (.getfield 25, 3) := by decide +kernel
theorem dX0_become_67 : decode cX0_become 67 = .ok (.putfield 25, 3) := by decide +kernel
theorem dX0_become_70 : decode cX0_become 70 = .ok (.aload_n 0, 1) := by decide +kernel
theorem dX0_become_71 : decode cX0_become 71 = .ok (.aload_n 1, 1) := by decide +kernel
theorem dX0_become_72 : decode cX0_become 72 = .ok (.getfield 28, 3) := by decide +kernel
theorem dX0_become_75 : decode cX0_become 75 = .ok (.putfield 28, 3) := by decide +kernel
theorem dX0_become_78 : decode cX0_become 78 = .ok (.aload_n 0, 1) := by decide +kernel
theorem dX0_become_79 : decode cX0_become 79 = .ok (.aload_n 1, 1) := by decide +kernel
theorem dX0_become_80 : decode cX0_become 80 = .ok (.getfield 31, 3) := by decide +kernel
theorem dX0_become_83 : decode cX0_become 83 = .ok (.putfield 31, 3) := by decide +kernel
theorem dX0_become_86 : decode cX0_become 86 = .ok (.aload_n 0, 1) := by decide +kernel
theorem dX0_become_87 : decode cX0_become 87 = .ok (.aload_n 1, 1) := by decide +kernel
theorem dX0_become_88 : decode cX0_become 88 = .ok (.getfield 34, 3) := by decide +kernel
theorem dX0_become_91 : decode cX0_become 91 = .ok (.putfield 34, 3) := by decide +kernel
theorem dX0_become_94 : decode cX0_become 94 = .ok (.return_, 1) := by decide +kernel
theorem dX0_has_0 : decode cX0_has 0 = .ok (.iload_n 1, 1) := by decide +kernel
theorem dX0_has_1 : decode cX0_has 1 = .ok (.iconst 0, 1) := by decide +kernel
theorem dX0_has_2 : decode cX0_has 2 = .ok (.aload_n 0, 1) := by decide +kernel
theorem dX0_has_3 : decode cX0_has 3 = .ok (.getfield 17, 3) := by decide +kernel
theorem dX0_has_6 : decode cX0_has 6 = .ok (.iconst 1, 1) := by decide +kernel
theorem dX0_has_7 : decode cX0_has 7 = .ok (.isub, 1) := by decide +kernel
theorem dX0_has_8 : decode cX0_has 8 = .ok (.invokestatic 42, 3) := by decide +kernel
theorem dX0_has_11 : decode cX0_has 11 = .ok (.ireturn, 1) := by decide +kernel
theorem dX0_add_0 : decode cX0_add 0 = .ok (.aload_n 0, 1) := by decide +kernel
theorem dX0_add_1 : decode cX0_add 1 = .ok (.getfield 11, 3) := by decide +kernel
theorem dX0_add_4 : decode cX0_add 4 = .ok (.aload_n 0, 1) := by decide +kernel
theorem dX0_add_5 : decode cX0_add 5 = .ok (.getfield 17, 3) := by decide +kernel
theorem dX0_add_8 : decode cX0_add 8 = .ok (.aaload, 1) := by decide +kernel
theorem dX0_add_9 : decode cX0_add 9 = .ok (.iload_n 1, 1) := by decide +kernel
theorem dX0_add_10 : decode cX0_add 10 = .ok (.iload_n 2, 1) := by decide +kernel
theorem dX0_add_11 : decode cX0_add 11 = .ok (.aload_n 0, 1) := by decide +kernel
theorem dX0_add_12 : decode cX0_add 12 = .ok (.getfield 21, 3) := by decide +kernel
theorem dX0_add_15 : decode cX0_add 15 = .ok (.iload_n 2, 1) := by decide +kernel
theorem dX0_add_16 : decode cX0_add 16 = .ok (.iaload, 1) := by decide +kernel
theorem dX0_add_17 : decode cX0_add 17 = .ok (.iload_n 3, 1) := by decide +kernel
theorem dX0_add_18 : decode cX0_add 18 = .ok (.invokevirtual 46, 3) := by decide +kernel
theorem dX0_add_21 : decode cX0_add 21 = .ok (.aload_n 0, 1) := by decide +kernel
theorem dX0_add_22 : decode cX0_add 22 = .ok (.getfield 21, 3) := by decide +kernel
theorem dX0_add_25 : decode cX0_add 25 = .ok (.iload_n 2, 1) := by decide +kernel
theorem dX0_add_26 : decode cX0_add 26 = .ok (.dup2, 1) := by decide +kernel
theorem dX0_add_27 : decode cX0_add 27 = .ok (.iaload, 1) := by decide +kernel
theorem dX0_add_28 : decode cX0_add 28 = .ok (.iconst 1, 1) := by decide +kernel
theorem dX0_add_29 : decode cX0_add 29 = .ok (.iadd, 1) := by decide +kernel
theorem dX0_add_30 : decode cX0_add 30 = .ok (.iastore, 1) := by decide +kernel
theorem dX0_add_31 : decode cX0_add 31 = .ok (.aload_n 0, 1) := by decide +kernel
theorem dX0_add_32 : decode cX0_add 32 = .ok (.dup, 1) := by decide +kernel
theorem dX0_add_33 : decode cX0_add 33 = .ok (.getfield 17, 3) := by decide +kernel
theorem dX0_add_36 : decode cX0_add 36 = .ok (.iconst 1, 1) := by decide +kernel
theorem dX0_add_37 : decode cX0_add 37 = .ok (.iadd, 1) := by decide +kernel
theorem dX0_add_38 : decode cX0_add 38 = .ok (.putfield 17, 3) := by decide +kernel
theorem dX0_add_41 : decode cX0_add 41 = .ok (.aload_n 0, 1) := by decide +kernel
theorem dX0_add_42 : decode cX0_add 42 = .ok (.getfield 17, 3) := by decide +kernel
theorem dX0_add_45 : decode cX0_add 45 = .ok (.iconst 1, 1) := by decide +kernel
theorem dX0_add_46 : decode cX0_add 46 = .ok (.isub, 1) := by decide +kernel
theorem dX0_add_47 : decode cX0_add 47 = .ok (.ireturn, 1) := by decide +kernel
theorem dX0_weight_0 : decode cX0_weight 0 = .ok (.aload_n 0, 1) := by decide +kernel
theorem dX0_weight_1 : decode cX0_weight 1 = .ok (.getfield 11, 3) := by decide +kernel
theorem dX0_weight_4 : decode cX0_weight 4 = .ok (.iload_n 1, 1) := by decide +kernel
theorem dX0_weight_5 : decode cX0_weight 5 = .ok (.aaload, 1) := by decide +kernel
theorem dX0_weight_6 : decode cX0_weight 6 = .ok (.astore_n 3, 1) := by decide +kernel
theorem dX0_weight_7 : decode cX0_weight 7 = .ok (.aload_n 0, 1) := by decide +kernel
theorem dX0_weight_8 : decode cX0_weight 8 = .ok (.getfield 21, 3) := by decide +kernel
theorem dX0_weight_11 : decode cX0_weight 11 = .ok (.aload_n 3, 1) := by decide +kernel
theorem dX0_weight_12 : decode cX0_weight 12 = .ok (.getfield 50, 3) := by decide +kernel
theorem dX0_weight_15 : decode cX0_weight 15 = .ok (.iaload, 1) := by decide +kernel
theorem dX0_weight_16 : decode cX0_weight 16 = .ok (.iconst 1, 1) := by decide +kernel
theorem dX0_weight_17 : decode cX0_weight 17 = .ok (.isub, 1) := by decide +kernel
theorem dX0_weight_18 : decode cX0_weight 18 = .ok (.aload_n 3, 1) := by decide +kernel
theorem dX0_weight_19 : decode cX0_weight 19 = .ok (.getfield 53, 3) := by decide +kernel
theorem dX0_weight_22 : decode cX0_weight 22 = .ok (.isub, 1) := by decide +kernel
theorem dX0_weight_23 : decode cX0_weight 23 = .ok (.istore 4, 2) := by decide +kernel
theorem dX0_weight_25 : decode cX0_weight 25 = .ok (.iconst 0, 1) := by decide +kernel
theorem dX0_weight_26 : decode cX0_weight 26 = .ok (.bipush 10, 2) := by decide +kernel
theorem dX0_weight_28 : decode cX0_weight 28 = .ok (.aload_n 3, 1) := by decide +kernel
theorem dX0_weight_29 : decode cX0_weight 29 = .ok (.iload_n 2, 1) := by decide +kernel
theorem dX0_weight_30 : decode cX0_weight 30 = .ok (.invokevirtual 56, 3) := by decide +kernel
theorem dX0_weight_33 : decode cX0_weight 33 = .ok (.imul, 1) := by decide +kernel
theorem dX0_weight_34 : decode cX0_weight 34 = .ok (.iconst 2, 1) := by decide +kernel
theorem dX0_weight_35 : decode cX0_weight 35 = .ok (.iload 4, 2) := by decide +kernel
theorem dX0_weight_37 : decode cX0_weight 37 = .ok (.imul, 1) := by decide +kernel
theorem dX0_weight_38 : decode cX0_weight 38 = .ok (.isub, 1) := by decide +kernel
theorem dX0_weight_39 : decode cX0_weight 39 = .ok (.invokestatic 60, 3) := by decide +kernel
theorem dX0_weight_42 : decode cX0_weight 42 = .ok (.ireturn, 1) := by decide +kernel
theorem dX0_flow_0 : decode cX0_flow 0 = .ok (.iconst 0, 1) := by decide +kernel
theorem dX0_flow_1 : decode cX0_flow 1 = .ok (.istore_n 2, 1) := by decide +kernel
theorem dX0_flow_2 : decode cX0_flow 2 = .ok (.iconst 0, 1) := by decide +kernel
theorem dX0_flow_3 : decode cX0_flow 3 = .ok (.istore_n 3, 1) := by decide +kernel
theorem dX0_flow_4 : decode cX0_flow 4 = .ok (.iload_n 3, 1) := by decide +kernel
theorem dX0_flow_5 : decode cX0_flow 5 = .ok (.aload_n 0, 1) := by decide +kernel
theorem dX0_flow_6 : decode cX0_flow 6 = .ok (.getfield 17, 3) := by decide +kernel
theorem dX0_flow_9 : decode cX0_flow 9 = .ok (.if_icmp .ge 26, 3) := by decide +kernel
theorem dX0_flow_12 : decode cX0_flow 12 = .ok (.iload_n 2, 1) := by decide +kernel
theorem dX0_flow_13 : decode cX0_flow 13 = .ok (.aload_n 0, 1) := by decide +kernel
theorem dX0_flow_14 : decode cX0_flow 14 = .ok (.iload_n 3, 1) := by decide +kernel
theorem dX0_flow_15 : decode cX0_flow 15 = .ok (.aload_n 0, 1) := by decide +kernel
theorem dX0_flow_16 : decode cX0_flow 16 = .ok (.getfield 11, 3) := by decide +kernel
theorem dX0_flow_19 : decode cX0_flow 19 = .ok (.iload_n 3, 1) := by decide +kernel
theorem dX0_flow_20 : decode cX0_flow 20 = .ok (.aaload, 1) := by decide +kernel
theorem dX0_flow_21 : decode cX0_flow 21 = .ok (.getfield 66, 3) := by decide +kernel
theorem dX0_flow_24 : decode cX0_flow 24 = .ok (.invokevirtual 69, 3) := by decide +kernel
theorem dX0_flow_27 : decode cX0_flow 27 = .ok (.iadd, 1) := by decide +kernel
theorem dX0_flow_28 : decode cX0_flow 28 = .ok (.istore_n 2, 1) := by decide +kernel
theorem dX0_flow_29 : decode cX0_flow 29 = .ok (.iinc 3 1, 3) := by decide +kernel
theorem dX0_flow_32 : decode cX0_flow 32 = .ok (.goto (-28), 3) := by decide +kernel
theorem dX0_flow_35 : decode cX0_flow 35 = .ok (.aload_n 0, 1) := by decide +kernel
theorem dX0_flow_36 : decode cX0_flow 36 = .ok (.getfield 31, 3) := by decide +kernel
theorem dX0_flow_39 : decode cX0_flow 39 = .ok (.aload_n 0, 1) := by decide +kernel
theorem dX0_flow_40 : decode cX0_flow 40 = .ok (.iload_n 1, 1) := by decide +kernel
theorem dX0_flow_41 : decode cX0_flow 41 = .ok (.aload_n 0, 1) := by decide +kernel
theorem dX0_flow_42 : decode cX0_flow 42 = .ok (.getfield 11, 3) := by decide +kernel
theorem dX0_flow_45 : decode cX0_flow 45 = .ok (.iload_n 1, 1) := by decide +kernel
theorem dX0_flow_46 : decode cX0_flow 46 = .ok (.aaload, 1) := by decide +kernel
theorem dX0_flow_47 : decode cX0_flow 47 = .ok (.getfield 66, 3) := by decide +kernel
theorem dX0_flow_50 : decode cX0_flow 50 = .ok (.invokevirtual 69, 3) := by decide +kernel
theorem dX0_flow_53 : decode cX0_flow 53 = .ok (.iload_n 2, 1) := by decide +kernel
theorem dX0_flow_54 : decode cX0_flow 54 = .ok (.invokestatic 72, 3) := by decide +kernel
theorem dX0_flow_57 : decode cX0_flow 57 = .ok (.ireturn, 1) := by decide +kernel
theorem dX0_flowOf_0 : decode cX0_flowOf 0 = .ok (.iload_n 2, 1) := by decide +kernel
theorem dX0_flowOf_1 : decode cX0_flowOf 1 = .ok (.ifCond .ne 7, 3) := by decide +kernel
theorem dX0_flowOf_4 : decode cX0_flowOf 4 = .ok (.iconst 0, 1) := by decide +kernel
theorem dX0_flowOf_5 : decode cX0_flowOf 5 = .ok (.goto 8, 3) := by decide +kernel
theorem dX0_flowOf_8 : decode cX0_flowOf 8 = .ok (.iload_n 0, 1) := by decide +kernel
theorem dX0_flowOf_9 : decode cX0_flowOf 9 = .ok (.iload_n 1, 1) := by decide +kernel
theorem dX0_flowOf_10 : decode cX0_flowOf 10 = .ok (.imul, 1) := by decide +kernel
theorem dX0_flowOf_11 : decode cX0_flowOf 11 = .ok (.iload_n 2, 1) := by decide +kernel
theorem dX0_flowOf_12 : decode cX0_flowOf 12 = .ok (.idiv, 1) := by decide +kernel
theorem dX0_flowOf_13 : decode cX0_flowOf 13 = .ok (.ireturn, 1) := by decide +kernel
theorem dX0_live_0 : decode cX0_live 0 = .ok (.aload_n 1, 1) := by decide +kernel
theorem dX0_live_1 : decode cX0_live 1 = .ok (.invokevirtual 76, 3) := by decide +kernel
theorem dX0_live_4 : decode cX0_live 4 = .ok (.iconst 0, 1) := by decide +kernel
theorem dX0_live_5 : decode cX0_live 5 = .ok (.istore_n 2, 1) := by decide +kernel
theorem dX0_live_6 : decode cX0_live 6 = .ok (.iload_n 2, 1) := by decide +kernel
theorem dX0_live_7 : decode cX0_live 7 = .ok (.aload_n 0, 1) := by decide +kernel
theorem dX0_live_8 : decode cX0_live 8 = .ok (.getfield 17, 3) := by decide +kernel
theorem dX0_live_11 : decode cX0_live 11 = .ok (.if_icmp .ge 79, 3) := by decide +kernel
theorem dX0_live_14 : decode cX0_live 14 = .ok (.aload_n 0, 1) := by decide +kernel
theorem dX0_live_15 : decode cX0_live 15 = .ok (.getfield 11, 3) := by decide +kernel
theorem dX0_live_18 : decode cX0_live 18 = .ok (.iload_n 2, 1) := by decide +kernel
theorem dX0_live_19 : decode cX0_live 19 = .ok (.aaload, 1) := by decide +kernel
theorem dX0_live_20 : decode cX0_live 20 = .ok (.astore_n 3, 1) := by decide +kernel
theorem dX0_live_21 : decode cX0_live 21 = .ok (.aload_n 3, 1) := by decide +kernel
theorem dX0_live_22 : decode cX0_live 22 = .ok (.aload_n 1, 1) := by decide +kernel
theorem dX0_live_23 : decode cX0_live 23 = .ok (.getfield 81, 3) := by decide +kernel
theorem dX0_live_26 : decode cX0_live 26 = .ok (.iload_n 2, 1) := by decide +kernel
theorem dX0_live_27 : decode cX0_live 27 = .ok (.iaload, 1) := by decide +kernel
theorem dX0_live_28 : decode cX0_live 28 = .ok (.putfield 84, 3) := by decide +kernel
theorem dX0_live_31 : decode cX0_live 31 = .ok (.aload_n 3, 1) := by decide +kernel
theorem dX0_live_32 : decode cX0_live 32 = .ok (.dup, 1) := by decide +kernel
theorem dX0_live_33 : decode cX0_live 33 = .ok (.getfield 86, 3) := by decide +kernel
theorem dX0_live_36 : decode cX0_live 36 = .ok (.aload_n 1, 1) := by decide +kernel
theorem dX0_live_37 : decode cX0_live 37 = .ok (.getfield 89, 3) := by decide +kernel
theorem dX0_live_40 : decode cX0_live 40 = .ok (.iload_n 2, 1) := by decide +kernel
theorem dX0_live_41 : decode cX0_live 41 = .ok (.iaload, 1) := by decide +kernel
theorem dX0_live_42 : decode cX0_live 42 = .ok (.aload_n 3, 1) := by decide +kernel
theorem dX0_live_43 : decode cX0_live 43 = .ok (.getfield 92, 3) := by decide +kernel
theorem dX0_live_46 : decode cX0_live 46 = .ok (.imul, 1) := by decide +kernel
theorem dX0_live_47 : decode cX0_live 47 = .ok (.bipush 100, 2) := by decide +kernel
theorem dX0_live_49 : decode cX0_live 49 = .ok (.idiv, 1) := by decide +kernel
theorem dX0_live_50 : decode cX0_live 50 = .ok (.iadd, 1) := by decide +kernel
theorem dX0_live_51 : decode cX0_live 51 = .ok (.putfield 86, 3) := by decide +kernel
theorem dX0_live_54 : decode cX0_live 54 = .ok (.aload_n 3, 1) := by decide +kernel
theorem dX0_live_55 : decode cX0_live 55 = .ok (.dup, 1) := by decide +kernel
theorem dX0_live_56 : decode cX0_live 56 = .ok (.getfield 95, 3) := by decide +kernel
theorem dX0_live_59 : decode cX0_live 59 = .ok (.aload_n 1, 1) := by decide +kernel
theorem dX0_live_60 : decode cX0_live 60 = .ok (.getfield 89, 3) := by decide +kernel
theorem dX0_live_63 : decode cX0_live 63 = .ok (.iload_n 2, 1) := by decide +kernel
theorem dX0_live_64 : decode cX0_live 64 = .ok (.iaload, 1) := by decide +kernel
theorem dX0_live_65 : decode cX0_live 65 = .ok (.iadd, 1) := by decide +kernel
theorem dX0_live_66 : decode cX0_live 66 = .ok (.putfield 95, 3) := by decide +kernel
theorem dX0_live_69 : decode cX0_live 69 = .ok (.aload_n 3, 1) := by decide +kernel
theorem dX0_live_70 : decode cX0_live 70 = .ok (.dup, 1) := by decide +kernel
theorem dX0_live_71 : decode cX0_live 71 = .ok (.getfield 98, 3) := by decide +kernel
theorem dX0_live_74 : decode cX0_live 74 = .ok (.aload_n 1, 1) := by decide +kernel
theorem dX0_live_75 : decode cX0_live 75 = .ok (.getfield 101, 3) := by decide +kernel
theorem dX0_live_78 : decode cX0_live 78 = .ok (.iload_n 2, 1) := by decide +kernel
theorem dX0_live_79 : decode cX0_live 79 = .ok (.iaload, 1) := by decide +kernel
theorem dX0_live_80 : decode cX0_live 80 = .ok (.iadd, 1) := by decide +kernel
theorem dX0_live_81 : decode cX0_live 81 = .ok (.putfield 98, 3) := by decide +kernel
theorem dX0_live_84 : decode cX0_live 84 = .ok (.iinc 2 1, 3) := by decide +kernel
theorem dX0_live_87 : decode cX0_live 87 = .ok (.goto (-81), 3) := by decide +kernel
theorem dX0_live_90 : decode cX0_live 90 = .ok (.aload_n 0, 1) := by decide +kernel
theorem dX0_live_91 : decode cX0_live 91 = .ok (.dup, 1) := by decide +kernel
theorem dX0_live_92 : decode cX0_live 92 = .ok (.getfield 25, 3) := by decide +kernel
theorem dX0_live_95 : decode cX0_live 95 = .ok (.iconst 1, 1) := by decide +kernel
theorem dX0_live_96 : decode cX0_live 96 = .ok (.iadd, 1) := by decide +kernel
theorem dX0_live_97 : decode cX0_live 97 = .ok (.putfield 25, 3) := by decide +kernel
theorem dX0_live_100 : decode cX0_live 100 = .ok (.return_, 1) := by decide +kernel
theorem dX0_usedOfAll_0 : decode cX0_usedOfAll 0 = .ok (.iconst 0, 1) := by decide +kernel
theorem dX0_usedOfAll_1 : decode cX0_usedOfAll 1 = .ok (.istore_n 1, 1) := by decide +kernel
theorem dX0_usedOfAll_2 : decode cX0_usedOfAll 2 = .ok (.iconst 0, 1) := by decide +kernel
theorem dX0_usedOfAll_3 : decode cX0_usedOfAll 3 = .ok (.istore_n 2, 1) := by decide +kernel
theorem dX0_usedOfAll_4 : decode cX0_usedOfAll 4 = .ok (.iload_n 2, 1) := by decide +kernel
theorem dX0_usedOfAll_5 : decode cX0_usedOfAll 5 = .ok (.aload_n 0, 1) := by decide +kernel
theorem dX0_usedOfAll_6 : decode cX0_usedOfAll 6 = .ok (.getfield 17, 3) := by decide +kernel
theorem dX0_usedOfAll_9 : decode cX0_usedOfAll 9 = .ok (.if_icmp .ge 21, 3) := by decide +kernel
theorem dX0_usedOfAll_12 : decode cX0_usedOfAll 12 = .ok (.iload_n 1, 1) := by decide +kernel
theorem dX0_usedOfAll_13 : decode cX0_usedOfAll 13 = .ok (.aload_n 0, 1) := by decide +kernel
theorem dX0_usedOfAll_14 : decode cX0_usedOfAll 14 = .ok (.getfield 11, 3) := by decide +kernel
theorem dX0_usedOfAll_17 : decode cX0_usedOfAll 17 = .ok (.iload_n 2, 1) := by decide +kernel
theorem dX0_usedOfAll_18 : decode cX0_usedOfAll 18 = .ok (.aaload, 1) := by decide +kernel
theorem dX0_usedOfAll_19 : decode cX0_usedOfAll 19 = .ok (.getfield 86, 3) := by decide +kernel
theorem dX0_usedOfAll_22 : decode cX0_usedOfAll 22 = .ok (.iadd, 1) := by decide +kernel
theorem dX0_usedOfAll_23 : decode cX0_usedOfAll 23 = .ok (.istore_n 1, 1) := by decide +kernel
theorem dX0_usedOfAll_24 : decode cX0_usedOfAll 24 = .ok (.iinc 2 1, 3) := by decide +kernel
theorem dX0_usedOfAll_27 : decode cX0_usedOfAll 27 = .ok (.goto (-23), 3) := by decide +kernel
theorem dX0_usedOfAll_30 : decode cX0_usedOfAll 30 = .ok (.iload_n 1, 1) := by decide +kernel
theorem dX0_usedOfAll_31 : decode cX0_usedOfAll 31 = .ok (.ireturn, 1) := by decide +kernel
theorem dX0_takenOfAll_0 : decode cX0_takenOfAll 0 = .ok (.iconst 0, 1) := by decide +kernel
theorem dX0_takenOfAll_1 : decode cX0_takenOfAll 1 = .ok (.istore_n 1, 1) := by decide +kernel
theorem dX0_takenOfAll_2 : decode cX0_takenOfAll 2 = .ok (.iconst 0, 1) := by decide +kernel
theorem dX0_takenOfAll_3 : decode cX0_takenOfAll 3 = .ok (.istore_n 2, 1) := by decide +kernel
theorem dX0_takenOfAll_4 : decode cX0_takenOfAll 4 = .ok (.iload_n 2, 1) := by decide +kernel
theorem dX0_takenOfAll_5 : decode cX0_takenOfAll 5 = .ok (.aload_n 0, 1) := by decide +kernel
theorem dX0_takenOfAll_6 : decode cX0_takenOfAll 6 = .ok (.getfield 17, 3) := by decide +kernel
theorem dX0_takenOfAll_9 : decode cX0_takenOfAll 9 = .ok (.if_icmp .ge 21, 3) := by decide +kernel
theorem dX0_takenOfAll_12 : decode cX0_takenOfAll 12 = .ok (.iload_n 1, 1) := by decide +kernel
theorem dX0_takenOfAll_13 : decode cX0_takenOfAll 13 = .ok (.aload_n 0, 1) := by decide +kernel
theorem dX0_takenOfAll_14 : decode cX0_takenOfAll 14 = .ok (.getfield 11, 3) := by decide +kernel
theorem dX0_takenOfAll_17 : decode cX0_takenOfAll 17 = .ok (.iload_n 2, 1) := by decide +kernel
theorem dX0_takenOfAll_18 : decode cX0_takenOfAll 18 = .ok (.aaload, 1) := by decide +kernel
theorem dX0_takenOfAll_19 : decode cX0_takenOfAll 19 = .ok (.getfield 95, 3) := by decide +kernel
theorem dX0_takenOfAll_22 : decode cX0_takenOfAll 22 = .ok (.iadd, 1) := by decide +kernel
theorem dX0_takenOfAll_23 : decode cX0_takenOfAll 23 = .ok (.istore_n 1, 1) := by decide +kernel
theorem dX0_takenOfAll_24 : decode cX0_takenOfAll 24 = .ok (.iinc 2 1, 3) := by decide +kernel
theorem dX0_takenOfAll_27 : decode cX0_takenOfAll 27 = .ok (.goto (-23), 3) := by decide +kernel
theorem dX0_takenOfAll_30 : decode cX0_takenOfAll 30 = .ok (.iload_n 1, 1) := by decide +kernel
theorem dX0_takenOfAll_31 : decode cX0_takenOfAll 31 = .ok (.ireturn, 1) := by decide +kernel
theorem dX0_heldOfAll_0 : decode cX0_heldOfAll 0 = .ok (.iconst 0, 1) := by decide +kernel
theorem dX0_heldOfAll_1 : decode cX0_heldOfAll 1 = .ok (.istore_n 1, 1) := by decide +kernel
theorem dX0_heldOfAll_2 : decode cX0_heldOfAll 2 = .ok (.iconst 0, 1) := by decide +kernel
theorem dX0_heldOfAll_3 : decode cX0_heldOfAll 3 = .ok (.istore_n 2, 1) := by decide +kernel
theorem dX0_heldOfAll_4 : decode cX0_heldOfAll 4 = .ok (.iload_n 2, 1) := by decide +kernel
theorem dX0_heldOfAll_5 : decode cX0_heldOfAll 5 = .ok (.aload_n 0, 1) := by decide +kernel
theorem dX0_heldOfAll_6 : decode cX0_heldOfAll 6 = .ok (.getfield 17, 3) := by decide +kernel
theorem dX0_heldOfAll_9 : decode cX0_heldOfAll 9 = .ok (.if_icmp .ge 24, 3) := by decide +kernel
theorem dX0_heldOfAll_12 : decode cX0_heldOfAll 12 = .ok (.iload_n 1, 1) := by decide +kernel
theorem dX0_heldOfAll_13 : decode cX0_heldOfAll 13 = .ok (.aload_n 0, 1) := by decide +kernel
theorem dX0_heldOfAll_14 : decode cX0_heldOfAll 14 = .ok (.getfield 11, 3) := by decide +kernel
theorem dX0_heldOfAll_17 : decode cX0_heldOfAll 17 = .ok (.iload_n 2, 1) := by decide +kernel
theorem dX0_heldOfAll_18 : decode cX0_heldOfAll 18 = .ok (.aaload, 1) := by decide +kernel
theorem dX0_heldOfAll_19 : decode cX0_heldOfAll 19 = .ok (.getfield 104, 3) := by decide +kernel
theorem dX0_heldOfAll_22 : decode cX0_heldOfAll 22 = .ok (.invokestatic 108, 3) := by decide +kernel
theorem dX0_heldOfAll_25 : decode cX0_heldOfAll 25 = .ok (.iadd, 1) := by decide +kernel
theorem dX0_heldOfAll_26 : decode cX0_heldOfAll 26 = .ok (.istore_n 1, 1) := by decide +kernel
theorem dX0_heldOfAll_27 : decode cX0_heldOfAll 27 = .ok (.iinc 2 1, 3) := by decide +kernel
theorem dX0_heldOfAll_30 : decode cX0_heldOfAll 30 = .ok (.goto (-26), 3) := by decide +kernel
theorem dX0_heldOfAll_33 : decode cX0_heldOfAll 33 = .ok (.iload_n 1, 1) := by decide +kernel
theorem dX0_heldOfAll_34 : decode cX0_heldOfAll 34 = .ok (.ireturn, 1) := by decide +kernel
theorem dX0_flowOfAll_0 : decode cX0_flowOfAll 0 = .ok (.iconst 0, 1) := by decide +kernel
theorem dX0_flowOfAll_1 : decode cX0_flowOfAll 1 = .ok (.istore_n 1, 1) := by decide +kernel
theorem dX0_flowOfAll_2 : decode cX0_flowOfAll 2 = .ok (.iconst 0, 1) := by decide +kernel
theorem dX0_flowOfAll_3 : decode cX0_flowOfAll 3 = .ok (.istore_n 2, 1) := by decide +kernel
theorem dX0_flowOfAll_4 : decode cX0_flowOfAll 4 = .ok (.iload_n 2, 1) := by decide +kernel
theorem dX0_flowOfAll_5 : decode cX0_flowOfAll 5 = .ok (.aload_n 0, 1) := by decide +kernel
theorem dX0_flowOfAll_6 : decode cX0_flowOfAll 6 = .ok (.getfield 17, 3) := by decide +kernel
theorem dX0_flowOfAll_9 : decode cX0_flowOfAll 9 = .ok (.if_icmp .ge 17, 3) := by decide +kernel
theorem dX0_flowOfAll_12 : decode cX0_flowOfAll 12 = .ok (.iload_n 1, 1) := by decide +kernel
theorem dX0_flowOfAll_13 : decode cX0_flowOfAll 13 = .ok (.aload_n 0, 1) := by decide +kernel
theorem dX0_flowOfAll_14 : decode cX0_flowOfAll 14 = .ok (.iload_n 2, 1) := by decide +kernel
theorem dX0_flowOfAll_15 : decode cX0_flowOfAll 15 = .ok (.invokevirtual 112, 3) := by decide +kernel
theorem dX0_flowOfAll_18 : decode cX0_flowOfAll 18 = .ok (.iadd, 1) := by decide +kernel
theorem dX0_flowOfAll_19 : decode cX0_flowOfAll 19 = .ok (.istore_n 1, 1) := by decide +kernel
theorem dX0_flowOfAll_20 : decode cX0_flowOfAll 20 = .ok (.iinc 2 1, 3) := by decide +kernel
theorem dX0_flowOfAll_23 : decode cX0_flowOfAll 23 = .ok (.goto (-19), 3) := by decide +kernel
theorem dX0_flowOfAll_26 : decode cX0_flowOfAll 26 = .ok (.iload_n 1, 1) := by decide +kernel
theorem dX0_flowOfAll_27 : decode cX0_flowOfAll 27 = .ok (.ireturn, 1) := by decide +kernel
theorem dX0_highestRiser_0 : decode cX0_highestRiser 0 = .ok (.iconst 0, 1) := by decide +kernel
theorem dX0_highestRiser_1 : decode cX0_highestRiser 1 = .ok (.istore_n 1, 1) := by decide +kernel
theorem dX0_highestRiser_2 : decode cX0_highestRiser 2 = .ok (.iconst 1, 1) := by decide +kernel
theorem dX0_highestRiser_3 : decode cX0_highestRiser 3 = .ok (.istore_n 2, 1) := by decide +kernel
theorem dX0_highestRiser_4 : decode cX0_highestRiser 4 = .ok (.iload_n 2, 1) := by decide +kernel
theorem dX0_highestRiser_5 : decode cX0_highestRiser 5 = .ok (.iconst 4, 1) := by decide +kernel
theorem dX0_highestRiser_6 : decode cX0_highestRiser 6 = .ok (.if_icmp .ge 26, 3) := by decide +kernel
theorem dX0_highestRiser_9 : decode cX0_highestRiser 9 = .ok (.aload_n 0, 1) := by decide +kernel
theorem dX0_highestRiser_10 : decode cX0_highestRiser 10 = .ok (.getfield 21, 3) := by decide +kernel
theorem dX0_highestRiser_13 : decode cX0_highestRiser 13 = .ok (.iload_n 2, 1) := by decide +kernel
theorem dX0_highestRiser_14 : decode cX0_highestRiser 14 = .ok (.iaload, 1) := by decide +kernel
theorem dX0_highestRiser_15 : decode cX0_highestRiser 15 = .ok (.aload_n 0, 1) := by decide +kernel
theorem dX0_highestRiser_16 : decode cX0_highestRiser 16 = .ok (.getfield 21, 3) := by decide +kernel
theorem dX0_highestRiser_19 : decode cX0_highestRiser 19 = .ok (.iload_n 1, 1) := by decide +kernel
theorem dX0_highestRiser_20 : decode cX0_highestRiser 20 = .ok (.iaload, 1) := by decide +kernel
theorem dX0_highestRiser_21 : decode cX0_highestRiser 21 = .ok (.if_icmp .le 5, 3) := by decide +kernel
theorem dX0_highestRiser_24 : decode cX0_highestRiser 24 = .ok (.iload_n 2, 1) := by decide +kernel
theorem dX0_highestRiser_25 : decode cX0_highestRiser 25 = .ok (.istore_n 1, 1) := by decide +kernel
theorem dX0_highestRiser_26 : decode cX0_highestRiser 26 = .ok (.iinc 2 1, 3) := by decide +kernel
theorem dX0_highestRiser_29 : decode cX0_highestRiser 29 = .ok (.goto (-25), 3) := by decide +kernel
theorem dX0_highestRiser_32 : decode cX0_highestRiser 32 = .ok (.iload_n 1, 1) := by decide +kernel
theorem dX0_highestRiser_33 : decode cX0_highestRiser 33 = .ok (.ireturn, 1) := by decide +kernel
theorem dX0_farthestMeter_0 : decode cX0_farthestMeter 0 = .ok (.iconst 0, 1) := by decide +kernel
theorem dX0_farthestMeter_1 : decode cX0_farthestMeter 1 = .ok (.istore_n 1, 1) := by decide +kernel
theorem dX0_farthestMeter_2 : decode cX0_farthestMeter 2 = .ok (.iconst (-1), 1) := by decide +kernel
theorem dX0_farthestMeter_3 : decode cX0_farthestMeter 3 = .ok (.istore_n 2, 1) := by decide +kernel
theorem dX0_farthestMeter_4 : decode cX0_farthestMeter 4 = .ok (.iconst 0, 1) := by decide +kernel
theorem dX0_farthestMeter_5 : decode cX0_farthestMeter 5 = .ok (.istore_n 3, 1) := by decide +kernel
theorem dX0_farthestMeter_6 : decode cX0_farthestMeter 6 = .ok (.iload_n 3, 1) := by decide +kernel
theorem dX0_farthestMeter_7 : decode cX0_farthestMeter 7 = .ok (.aload_n 0, 1) := by decide +kernel
theorem dX0_farthestMeter_8 : decode cX0_farthestMeter 8 = .ok (.getfield 17, 3) := by decide +kernel
theorem dX0_farthestMeter_11 : decode cX0_farthestMeter 11 = .ok (.if_icmp .ge 44, 3) := by decide +kernel
theorem dX0_farthestMeter_14 : decode cX0_farthestMeter 14 = .ok (.aload_n 0, 1) := by decide +kernel
theorem dX0_farthestMeter_15 : decode cX0_farthestMeter 15 = .ok (.getfield 11, 3) := by decide +kernel
theorem dX0_farthestMeter_18 : decode cX0_farthestMeter 18 = .ok (.iload_n 3, 1) := by decide +kernel
theorem dX0_farthestMeter_19 : decode cX0_farthestMeter 19 = .ok (.aaload, 1) := by decide +kernel
theorem dX0_farthestMeter_20 : decode cX0_farthestMeter 20 = .ok (.getfield 86, 3) := by decide +kernel
theorem dX0_farthestMeter_23 : decode cX0_farthestMeter 23 = .ok (.aload_n 0, 1) := by decide +kernel
theorem dX0_farthestMeter_24 : decode cX0_farthestMeter 24 = .ok (.getfield 11, 3) := by decide +kernel
theorem dX0_farthestMeter_27 : decode cX0_farthestMeter 27 = .ok (.iload_n 3, 1) := by decide +kernel
theorem dX0_farthestMeter_28 : decode cX0_farthestMeter 28 = .ok (.aaload, 1) := by decide +kernel
theorem dX0_farthestMeter_29 : decode cX0_farthestMeter 29 = .ok (.getfield 95, 3) := by decide +kernel
theorem dX0_farthestMeter_32 : decode cX0_farthestMeter 32 = .ok (.isub, 1) := by decide +kernel
theorem dX0_farthestMeter_33 : decode cX0_farthestMeter 33 = .ok (.invokestatic 115, 3) := by decide +kernel
theorem dX0_farthestMeter_36 : decode cX0_farthestMeter 36 = .ok (.istore 4, 2) := by decide +kernel
theorem dX0_farthestMeter_38 : decode cX0_farthestMeter 38 = .ok (.iload 4, 2) := by decide +kernel
theorem dX0_farthestMeter_40 : decode cX0_farthestMeter 40 = .ok (.iload_n 2, 1) := by decide +kernel
theorem dX0_farthestMeter_41 : decode cX0_farthestMeter 41 = .ok (.if_icmp .le 8, 3) := by decide +kernel
theorem dX0_farthestMeter_44 : decode cX0_farthestMeter 44 = .ok (.iload_n 3, 1) := by decide +kernel
theorem dX0_farthestMeter_45 : decode cX0_farthestMeter 45 = .ok (.istore_n 1, 1) := by decide +kernel
theorem dX0_farthestMeter_46 : decode cX0_farthestMeter 46 = .ok (.iload 4, 2) := by decide +kernel
theorem dX0_farthestMeter_48 : decode cX0_farthestMeter 48 = .ok (.istore_n 2, 1) := by decide +kernel
theorem dX0_farthestMeter_49 : decode cX0_farthestMeter 49 = .ok (.iinc 3 1, 3) := by decide +kernel
theorem dX0_farthestMeter_52 : decode cX0_farthestMeter 52 = .ok (.goto (-46), 3) := by decide +kernel
theorem dX0_farthestMeter_55 : decode cX0_farthestMeter 55 = .ok (.iload_n 1, 1) := by decide +kernel
theorem dX0_farthestMeter_56 : decode cX0_farthestMeter 56 = .ok (.ireturn, 1) := by decide +kernel
theorem dX1_init_0 : decode cX1_init 0 = .ok (.aload_n 0, 1) := by decide +kernel
theorem dX1_init_1 : decode cX1_init 1 = .ok (.invokespecial 3, 3) := by decide +kernel
theorem dX1_init_4 : decode cX1_init 4 = .ok (.aload_n 0, 1) := by decide +kernel
theorem dX1_init_5 : decode cX1_init 5 = .ok (.bipush 24, 2) := by decide +kernel
theorem dX1_init_7 : decode cX1_init 7 = .ok (.newarray .int, 2) := by decide +kernel
theorem dX1_init_9 : decode cX1_init 9 = .ok (.putfield 9, 3) := by decide +kernel
theorem dX1_init_12 : decode cX1_init 12 = .ok (.aload_n 0, 1) := by decide +kernel
theorem dX1_init_13 : decode cX1_init 13 = .ok (.bipush 24, 2) := by decide +kernel
theorem dX1_init_15 : decode cX1_init 15 = .ok (.newarray .int, 2) := by decide +kernel
theorem dX1_init_17 : decode cX1_init 17 = .ok (.putfield 15, 3) := by decide +kernel
theorem dX1_init_20 : decode cX1_init 20 = .ok (.aload_n 0, 1) := by decide +kernel
theorem dX1_init_21 : decode cX1_init 21 = .ok (.bipush 24, 2) := by decide +kernel
theorem dX1_init_23 : decode cX1_init 23 = .ok (.newarray .int, 2) := by decide +kernel
theorem dX1_init_25 : decode cX1_init 25 = .ok (.putfield 18, 3) := by decide +kernel
theorem dX1_init_28 : decode cX1_init 28 = .ok (.aload_n 0, 1) := by decide +kernel
theorem dX1_init_29 : decode cX1_init 29 = .ok (.bipush 24, 2) := by decide +kernel
theorem dX1_init_31 : decode cX1_init 31 = .ok (.newarray .int, 2) := by decide +kernel
theorem dX1_init_33 : decode cX1_init 33 = .ok (.putfield 21, 3) := by decide +kernel
theorem dX1_init_36 : decode cX1_init 36 = .ok (.aload_n 0, 1) := by decide +kernel
theorem dX1_init_37 : decode cX1_init 37 = .ok (.iconst 0, 1) := by decide +kernel
theorem dX1_init_38 : decode cX1_init 38 = .ok (.putfield 24, 3) := by decide +kernel
theorem dX1_init_41 : decode cX1_init 41 = .ok (.return_, 1) := by decide +kernel
theorem dX1_become_0 : decode cX1_become 0 = .ok (.iconst 0, 1) := by decide +kernel
theorem dX1_become_1 : decode cX1_become 1 = .ok (.istore_n 2, 1) := by decide +kernel
theorem dX1_become_2 : decode cX1_become 2 = .ok (.iload_n 2, 1) := by decide +kernel
theorem dX1_become_3 : decode cX1_become 3 = .ok (.aload_n 1, 1) := by decide +kernel
theorem dX1_become_4 : decode cX1_become 4 = .ok (.getfield 24, 3) := by decide +kernel
theorem dX1_become_7 : decode cX1_become 7 = .ok (.if_icmp .ge 57, 3) := by decide +kernel
theorem dX1_become_10 : decode cX1_become 10 = .ok (.aload_n 0, 1) := by decide +kernel
theorem dX1_become_11 : decode cX1_become 11 = .ok (.getfield 9, 3) := by decide +kernel
theorem dX1_become_14 : decode cX1_become 14 = .ok (.iload_n 2, 1) := by decide +kernel
theorem dX1_become_15 : decode cX1_become 15 = .ok (.aload_n 1, 1) := by decide +kernel
theorem dX1_become_16 : decode cX1_become 16 = .ok (.getfield 9, 3) := by decide +kernel
theorem dX1_become_19 : decode cX1_become 19 = .ok (.iload_n 2, 1) := by decide +kernel
theorem dX1_become_20 : decode cX1_become 20 = .ok (.iaload, 1) := by decide +kernel
theorem dX1_become_21 : decode cX1_become 21 = .ok (.iastore, 1) := by decide +kernel
theorem dX1_become_22 : decode cX1_become 22 = .ok (.aload_n 0, 1) := by decide +kernel
theorem dX1_become_23 : decode cX1_become 23 = .ok (.getfield 15, 3) := by decide +kernel
theorem dX1_become_26 : decode cX1_become 26 = .ok (.iload_n 2, 1) := by decide +kernel
theorem dX1_become_27 : decode cX1_become 27 = .ok (.aload_n 1, 1) := by decide +kernel
theorem dX1_become_28 : decode cX1_become 28 = .ok (.getfield 15, 3) := by decide +kernel
theorem dX1_become_31 : decode cX1_become 31 = .ok (.iload_n 2, 1) := by decide +kernel
theorem dX1_become_32 : decode cX1_become 32 = .ok (.iaload, 1) := by decide +kernel
theorem dX1_become_33 : decode cX1_become 33 = .ok (.iastore, 1) := by decide +kernel
theorem dX1_become_34 : decode cX1_become 34 = .ok (.aload_n 0, 1) := by decide +kernel
theorem dX1_become_35 : decode cX1_become 35 = .ok (.getfield 18, 3) := by decide +kernel
theorem dX1_become_38 : decode cX1_become 38 = .ok (.iload_n 2, 1) := by decide +kernel
theorem dX1_become_39 : decode cX1_become 39 = .ok (.aload_n 1, 1) := by decide +kernel
theorem dX1_become_40 : decode cX1_become 40 = .ok (.getfield 18, 3) := by decide +kernel
theorem dX1_become_43 : decode cX1_become 43 = .ok (.iload_n 2, 1) := by decide +kernel
theorem dX1_become_44 : decode cX1_become 44 = .ok (.iaload, 1) := by decide +kernel
theorem dX1_become_45 : decode cX1_become 45 = .ok (.iastore, 1) := by decide +kernel
theorem dX1_become_46 : decode cX1_become 46 = .ok (.aload_n 0, 1) := by decide +kernel
theorem dX1_become_47 : decode cX1_become 47 = .ok (.getfield 21, 3) := by decide +kernel
theorem dX1_become_50 : decode cX1_become 50 = .ok (.iload_n 2, 1) := by decide +kernel
theorem dX1_become_51 : decode cX1_become 51 = .ok (.aload_n 1, 1) := by decide +kernel
theorem dX1_become_52 : decode cX1_become 52 = .ok (.getfield 21, 3) := by decide +kernel
theorem dX1_become_55 : decode cX1_become 55 = .ok (.iload_n 2, 1) := by decide +kernel
theorem dX1_become_56 : decode cX1_become 56 = .ok (.iaload, 1) := by decide +kernel
theorem dX1_become_57 : decode cX1_become 57 = .ok (.iastore, 1) := by decide +kernel
theorem dX1_become_58 : decode cX1_become 58 = .ok (.iinc 2 1, 3) := by decide +kernel
theorem dX1_become_61 : decode cX1_become 61 = .ok (.goto (-59), 3) := by decide +kernel
theorem dX1_become_64 : decode cX1_become 64 = .ok (.aload_n 0, 1) := by decide +kernel
theorem dX1_become_65 : decode cX1_become 65 = .ok (.aload_n 1, 1) := by decide +kernel
theorem dX1_become_66 : decode cX1_become 66 = .ok (.getfield 24, 3) := by decide +kernel
theorem dX1_become_69 : decode cX1_become 69 = .ok (.putfield 24, 3) := by decide +kernel
theorem dX1_become_72 : decode cX1_become 72 = .ok (.return_, 1) := by decide +kernel
theorem dX1_add_0 : decode cX1_add 0 = .ok (.aload_n 0, 1) := by decide +kernel
theorem dX1_add_1 : decode cX1_add 1 = .ok (.getfield 24, 3) := by decide +kernel
theorem dX1_add_4 : decode cX1_add 4 = .ok (.istore 4, 2) := by decide +kernel
theorem dX1_add_6 : decode cX1_add 6 = .ok (.aload_n 0, 1) := by decide +kernel
theorem dX1_add_7 : decode cX1_add 7 = .ok (.getfield 9, 3) := by decide +kernel
theorem dX1_add_10 : decode cX1_add 10 = .ok (.iload 4, 2) := by decide +kernel
theorem dX1_add_12 : decode cX1_add 12 = .ok (.iload_n 2, 1) := by decide +kernel
theorem dX1_add_13 : decode cX1_add 13 = .ok (.iastore, 1) := by decide +kernel
theorem dX1_add_14 : decode cX1_add 14 = .ok (.aload_n 0, 1) := by decide +kernel
theorem dX1_add_15 : decode cX1_add 15 = .ok (.getfield 15, 3) := by decide +kernel
theorem dX1_add_18 : decode cX1_add 18 = .ok (.iload 4, 2) := by decide +kernel
theorem dX1_add_20 : decode cX1_add 20 = .ok (.iload_n 3, 1) := by decide +kernel
theorem dX1_add_21 : decode cX1_add 21 = .ok (.iastore, 1) := by decide +kernel
theorem dX1_add_22 : decode cX1_add 22 = .ok (.aload_n 0, 1) := by decide +kernel
theorem dX1_add_23 : decode cX1_add 23 = .ok (.getfield 18, 3) := by decide +kernel
theorem dX1_add_26 : decode cX1_add 26 = .ok (.iload 4, 2) := by decide +kernel
theorem dX1_add_28 : decode cX1_add 28 = .ok (.aload_n 1, 1) := by decide +kernel
theorem dX1_add_29 : decode cX1_add 29 = .ok (.getfield 28, 3) := by decide +kernel
theorem dX1_add_32 : decode cX1_add 32 = .ok (.iastore, 1) := by decide +kernel
theorem dX1_add_33 : decode cX1_add 33 = .ok (.aload_n 0, 1) := by decide +kernel
theorem dX1_add_34 : decode cX1_add 34 = .ok (.getfield 21, 3) := by decide +kernel
theorem dX1_add_37 : decode cX1_add 37 = .ok (.iload 4, 2) := by decide +kernel
theorem dX1_add_39 : decode cX1_add 39 = .ok (.iload 4, 2) := by decide +kernel
theorem dX1_add_41 : decode cX1_add 41 = .ok (.iastore, 1) := by decide +kernel
theorem dX1_add_42 : decode cX1_add 42 = .ok (.aload_n 0, 1) := by decide +kernel
theorem dX1_add_43 : decode cX1_add 43 = .ok (.dup, 1) := by decide +kernel
theorem dX1_add_44 : decode cX1_add 44 = .ok (.getfield 24, 3) := by decide +kernel
theorem dX1_add_47 : decode cX1_add 47 = .ok (.iconst 1, 1) := by decide +kernel
theorem dX1_add_48 : decode cX1_add 48 = .ok (.iadd, 1) := by decide +kernel
theorem dX1_add_49 : decode cX1_add 49 = .ok (.putfield 24, 3) := by decide +kernel
theorem dX1_add_52 : decode cX1_add 52 = .ok (.iconst 0, 1) := by decide +kernel
theorem dX1_add_53 : decode cX1_add 53 = .ok (.istore 5, 2) := by decide +kernel
theorem dX1_add_55 : decode cX1_add 55 = .ok (.iload 5, 2) := by decide +kernel
theorem dX1_add_57 : decode cX1_add 57 = .ok (.iload 4, 2) := by decide +kernel
theorem dX1_add_59 : decode cX1_add 59 = .ok (.if_icmp .ge 39, 3) := by decide +kernel
theorem dX1_add_62 : decode cX1_add 62 = .ok (.aload_n 0, 1) := by decide +kernel
theorem dX1_add_63 : decode cX1_add 63 = .ok (.aload_n 1, 1) := by decide +kernel
theorem dX1_add_64 : decode cX1_add 64 = .ok (.iload 5, 2) := by decide +kernel
theorem dX1_add_66 : decode cX1_add 66 = .ok (.iload 4, 2) := by decide +kernel
theorem dX1_add_68 : decode cX1_add 68 = .ok (.invokevirtual 33, 3) := by decide +kernel
theorem dX1_add_71 : decode cX1_add 71 = .ok (.ifCond .eq 21, 3) := by decide +kernel
theorem dX1_add_74 : decode cX1_add 74 = .ok (.aload_n 0, 1) := by decide +kernel
theorem dX1_add_75 : decode cX1_add 75 = .ok (.aload_n 0, 1) := by decide +kernel
theorem dX1_add_76 : decode cX1_add 76 = .ok (.getfield 21, 3) := by decide +kernel
theorem dX1_add_79 : decode cX1_add 79 = .ok (.iload 5, 2) := by decide +kernel
theorem dX1_add_81 : decode cX1_add 81 = .ok (.iaload, 1) := by decide +kernel
theorem dX1_add_82 : decode cX1_add 82 = .ok (.aload_n 0, 1) := by decide +kernel
theorem dX1_add_83 : decode cX1_add 83 = .ok (.getfield 21, 3) := by decide +kernel
theorem dX1_add_86 : decode cX1_add 86 = .ok (.iload 4, 2) := by decide +kernel
theorem dX1_add_88 : decode cX1_add 88 = .ok (.iaload, 1) := by decide +kernel
theorem dX1_add_89 : decode cX1_add 89 = .ok (.invokevirtual 37, 3) := by decide +kernel
theorem dX1_add_92 : decode cX1_add 92 = .ok (.iinc 5 1, 3) := by decide +kernel
theorem dX1_add_95 : decode cX1_add 95 = .ok (.goto (-40), 3) := by decide +kernel
theorem dX1_add_98 : decode cX1_add 98 = .ok (.iload 4, 2) := by decide +kernel
theorem dX1_add_100 : decode cX1_add 100 = .ok (.ireturn, 1) := by decide +kernel
theorem dX1_isNear_0 : decode cX1_isNear 0 = .ok (.aload_n 0, 1) := by decide +kernel
theorem dX1_isNear_1 : decode cX1_isNear 1 = .ok (.getfield 15, 3) := by decide +kernel
theorem dX1_isNear_4 : decode cX1_isNear 4 = .ok (.iload_n 2, 1) := by decide +kernel
theorem dX1_isNear_5 : decode cX1_isNear 5 = .ok (.iaload, 1) := by decide +kernel
theorem dX1_isNear_6 : decode cX1_isNear 6 = .ok (.aload_n 0, 1) := by decide +kernel
theorem dX1_isNear_7 : decode cX1_isNear 7 = .ok (.getfield 15, 3) := by decide +kernel
theorem dX1_isNear_10 : decode cX1_isNear 10 = .ok (.iload_n 3, 1) := by decide +kernel
theorem dX1_isNear_11 : decode cX1_isNear 11 = .ok (.iaload, 1) := by decide +kernel
theorem dX1_isNear_12 : decode cX1_isNear 12 = .ok (.if_icmp .ne 23, 3) := by decide +kernel
theorem dX1_isNear_15 : decode cX1_isNear 15 = .ok (.aload_n 0, 1) := by decide +kernel
theorem dX1_isNear_16 : decode cX1_isNear 16 = .ok (.getfield 18, 3) := by decide +kernel
theorem dX1_isNear_19 : decode cX1_isNear 19 = .ok (.iload_n 2, 1) := by decide +kernel
theorem dX1_isNear_20 : decode cX1_isNear 20 = .ok (.iaload, 1) := by decide +kernel
theorem dX1_isNear_21 : decode cX1_isNear 21 = .ok (.aload_n 0, 1) := by decide +kernel
theorem dX1_isNear_22 : decode cX1_isNear 22 = .ok (.getfield 18, 3) := by decide +kernel
theorem dX1_isNear_25 : decode cX1_isNear 25 = .ok (.iload_n 3, 1) := by decide +kernel
theorem dX1_isNear_26 : decode cX1_isNear 26 = .ok (.iaload, 1) := by decide +kernel
theorem dX1_isNear_27 : decode cX1_isNear 27 = .ok (.isub, 1) := by decide +kernel
theorem dX1_isNear_28 : decode cX1_isNear 28 = .ok (.invokestatic 41, 3) := by decide +kernel
theorem dX1_isNear_31 : decode cX1_isNear 31 = .ok (.iconst 3, 1) := by decide +kernel
theorem dX1_isNear_32 : decode cX1_isNear 32 = .ok (.if_icmp .le 5, 3) := by decide +kernel
theorem dX1_isNear_35 : decode cX1_isNear 35 = .ok (.iconst 0, 1) := by decide +kernel
theorem dX1_isNear_36 : decode cX1_isNear 36 = .ok (.ireturn, 1) := by decide +kernel
theorem dX1_isNear_37 : decode cX1_isNear 37 = .ok (.aload_n 0, 1) := by decide +kernel
theorem dX1_isNear_38 : decode cX1_isNear 38 = .ok (.getfield 9, 3) := by decide +kernel
theorem dX1_isNear_41 : decode cX1_isNear 41 = .ok (.iload_n 2, 1) := by decide +kernel
theorem dX1_isNear_42 : decode cX1_isNear 42 = .ok (.iaload, 1) := by decide +kernel
theorem dX1_isNear_43 : decode cX1_isNear 43 = .ok (.aload_n 0, 1) := by decide +kernel
theorem dX1_isNear_44 : decode cX1_isNear 44 = .ok (.getfield 9, 3) := by decide +kernel
theorem dX1_isNear_47 : decode cX1_isNear 47 = .ok (.iload_n 3, 1) := by decide +kernel
theorem dX1_isNear_48 : decode cX1_isNear 48 = .ok (.iaload, 1) := by decide +kernel
theorem dX1_isNear_49 : decode cX1_isNear 49 = .ok (.if_icmp .eq 31, 3) := by decide +kernel
theorem dX1_isNear_52 : decode cX1_isNear 52 = .ok (.aload_n 1, 1) := by decide +kernel
theorem dX1_isNear_53 : decode cX1_isNear 53 = .ok (.getfield 47, 3) := by decide +kernel
theorem dX1_isNear_56 : decode cX1_isNear 56 = .ok (.aload_n 0, 1) := by decide +kernel
theorem dX1_isNear_57 : decode cX1_isNear 57 = .ok (.getfield 9, 3) := by decide +kernel
theorem dX1_isNear_60 : decode cX1_isNear 60 = .ok (.iload_n 2, 1) := by decide +kernel
theorem dX1_isNear_61 : decode cX1_isNear 61 = .ok (.iaload, 1) := by decide +kernel
theorem dX1_isNear_62 : decode cX1_isNear 62 = .ok (.aaload, 1) := by decide +kernel
theorem dX1_isNear_63 : decode cX1_isNear 63 = .ok (.aload_n 1, 1) := by decide +kernel
theorem dX1_isNear_64 : decode cX1_isNear 64 = .ok (.getfield 47, 3) := by decide +kernel
theorem dX1_isNear_67 : decode cX1_isNear 67 = .ok (.aload_n 0, 1) := by decide +kernel
theorem dX1_isNear_68 : decode cX1_isNear 68 = .ok (.getfield 9, 3) := by decide +kernel
theorem dX1_isNear_71 : decode cX1_isNear 71 = .ok (.iload_n 3, 1) := by decide +kernel
theorem dX1_isNear_72 : decode cX1_isNear 72 = .ok (.iaload, 1) := by decide +kernel
theorem dX1_isNear_73 : decode cX1_isNear 73 = .ok (.aaload, 1) := by decide +kernel
theorem dX1_isNear_74 : decode cX1_isNear 74 = .ok (.invokevirtual 51, 3) := by decide +kernel
theorem dX1_isNear_77 : decode cX1_isNear 77 = .ok (.ifCond .eq 7, 3) := by decide +kernel
theorem dX1_isNear_80 : decode cX1_isNear 80 = .ok (.iconst 1, 1) := by decide +kernel
theorem dX1_isNear_81 : decode cX1_isNear 81 = .ok (.goto 4, 3) := by decide +kernel
theorem dX1_isNear_84 : decode cX1_isNear 84 = .ok (.iconst 0, 1) := by decide +kernel
theorem dX1_isNear_85 : decode cX1_isNear 85 = .ok (.ireturn, 1) := by decide +kernel
theorem dX1_merge_0 : decode cX1_merge 0 = .ok (.iload_n 1, 1) := by decide +kernel
theorem dX1_merge_1 : decode cX1_merge 1 = .ok (.iload_n 2, 1) := by decide +kernel
theorem dX1_merge_2 : decode cX1_merge 2 = .ok (.invokestatic 57, 3) := by decide +kernel
theorem dX1_merge_5 : decode cX1_merge 5 = .ok (.istore_n 3, 1) := by decide +kernel
theorem dX1_merge_6 : decode cX1_merge 6 = .ok (.iconst 0, 1) := by decide +kernel
theorem dX1_merge_7 : decode cX1_merge 7 = .ok (.istore 4, 2) := by decide +kernel
theorem dX1_merge_9 : decode cX1_merge 9 = .ok (.iload 4, 2) := by decide +kernel
theorem dX1_merge_11 : decode cX1_merge 11 = .ok (.aload_n 0, 1) := by decide +kernel
theorem dX1_merge_12 : decode cX1_merge 12 = .ok (.getfield 24, 3) := by decide +kernel
theorem dX1_merge_15 : decode cX1_merge 15 = .ok (.if_icmp .ge 39, 3) := by decide +kernel
theorem dX1_merge_18 : decode cX1_merge 18 = .ok (.aload_n 0, 1) := by decide +kernel
theorem dX1_merge_19 : decode cX1_merge 19 = .ok (.getfield 21, 3) := by decide +kernel
theorem dX1_merge_22 : decode cX1_merge 22 = .ok (.iload 4, 2) := by decide +kernel
theorem dX1_merge_24 : decode cX1_merge 24 = .ok (.iaload, 1) := by decide +kernel
theorem dX1_merge_25 : decode cX1_merge 25 = .ok (.iload_n 1, 1) := by decide +kernel
theorem dX1_merge_26 : decode cX1_merge 26 = .ok (.if_icmp .eq 14, 3) := by decide +kernel
theorem dX1_merge_29 : decode cX1_merge 29 = .ok (.aload_n 0, 1) := by decide +kernel
theorem dX1_merge_30 : decode cX1_merge 30 = .ok (.getfield 21, 3) := by decide +kernel
theorem dX1_merge_33 : decode cX1_merge 33 = .ok (.iload 4, 2) := by decide +kernel
theorem dX1_merge_35 : decode cX1_merge 35 = .ok (.iaload, 1) := by decide +kernel
theorem dX1_merge_36 : decode cX1_merge 36 = .ok (.iload_n 2, 1) := by decide +kernel
theorem dX1_merge_37 : decode cX1_merge 37 = .ok (.if_icmp .ne 11, 3) := by decide +kernel
theorem dX1_merge_40 : decode cX1_merge 40 = .ok (.aload_n 0, 1) := by decide +kernel
theorem dX1_merge_41 : decode cX1_merge 41 = .ok (.getfield 21, 3) := by decide +kernel
theorem dX1_merge_44 : decode cX1_merge 44 = .ok (.iload 4, 2) := by decide +kernel
theorem dX1_merge_46 : decode cX1_merge 46 = .ok (.iload_n 3, 1) := by decide +kernel
theorem dX1_merge_47 : decode cX1_merge 47 = .ok (.iastore, 1) := by decide +kernel
theorem dX1_merge_48 : decode cX1_merge 48 = .ok (.iinc 4 1, 3) := by decide +kernel
theorem dX1_merge_51 : decode cX1_merge 51 = .ok (.goto (-42), 3) := by decide +kernel
theorem dX1_merge_54 : decode cX1_merge 54 = .ok (.return_, 1) := by decide +kernel
theorem dX1_groupsOf_0 : decode cX1_groupsOf 0 = .ok (.iconst 0, 1) := by decide +kernel
theorem dX1_groupsOf_1 : decode cX1_groupsOf 1 = .ok (.istore_n 2, 1) := by decide +kernel
theorem dX1_groupsOf_2 : decode cX1_groupsOf 2 = .ok (.iconst 0, 1) := by decide +kernel
theorem dX1_groupsOf_3 : decode cX1_groupsOf 3 = .ok (.istore_n 3, 1) := by decide +kernel
theorem dX1_groupsOf_4 : decode cX1_groupsOf 4 = .ok (.iload_n 3, 1) := by decide +kernel
theorem dX1_groupsOf_5 : decode cX1_groupsOf 5 = .ok (.aload_n 0, 1) := by decide +kernel
theorem dX1_groupsOf_6 : decode cX1_groupsOf 6 = .ok (.getfield 24, 3) := by decide +kernel
theorem dX1_groupsOf_9 : decode cX1_groupsOf 9 = .ok (.if_icmp .ge 36, 3) := by decide +kernel
theorem dX1_groupsOf_12 : decode cX1_groupsOf 12 = .ok (.aload_n 0, 1) := by decide +kernel
theorem dX1_groupsOf_13 : decode cX1_groupsOf 13 = .ok (.getfield 21, 3) := by decide +kernel
theorem dX1_groupsOf_16 : decode cX1_groupsOf 16 = .ok (.iload_n 3, 1) := by decide +kernel
theorem dX1_groupsOf_17 : decode cX1_groupsOf 17 = .ok (.iaload, 1) := by decide +kernel
theorem dX1_groupsOf_18 : decode cX1_groupsOf 18 = .ok (.iload_n 3, 1) := by decide +kernel
theorem dX1_groupsOf_19 : decode cX1_groupsOf 19 = .ok (.if_icmp .ne 20, 3) := by decide +kernel
theorem dX1_groupsOf_22 : decode cX1_groupsOf 22 = .ok (.iload_n 1, 1) := by decide +kernel
theorem dX1_groupsOf_23 : decode cX1_groupsOf 23 = .ok (.ifCond .eq 13, 3) := by decide +kernel
theorem dX1_groupsOf_26 : decode cX1_groupsOf 26 = .ok (.aload_n 0, 1) := by decide +kernel
theorem dX1_groupsOf_27 : decode cX1_groupsOf 27 = .ok (.getfield 15, 3) := by decide +kernel
theorem dX1_groupsOf_30 : decode cX1_groupsOf 30 = .ok (.iload_n 3, 1) := by decide +kernel
theorem dX1_groupsOf_31 : decode cX1_groupsOf 31 = .ok (.iaload, 1) := by decide +kernel
theorem dX1_groupsOf_32 : decode cX1_groupsOf 32 = .ok (.iload_n 1, 1) := by decide +kernel
theorem dX1_groupsOf_33 : decode cX1_groupsOf 33 = .ok (.if_icmp .ne 6, 3) := by decide +kernel
theorem dX1_groupsOf_36 : decode cX1_groupsOf 36 = .ok (.iinc 2 1, 3) := by decide +kernel
theorem dX1_groupsOf_39 : decode cX1_groupsOf 39 = .ok (.iinc 3 1, 3) := by decide +kernel
theorem dX1_groupsOf_42 : decode cX1_groupsOf 42 = .ok (.goto (-38), 3) := by decide +kernel
theorem dX1_groupsOf_45 : decode cX1_groupsOf 45 = .ok (.iload_n 2, 1) := by decide +kernel
theorem dX1_groupsOf_46 : decode cX1_groupsOf 46 = .ok (.ireturn, 1) := by decide +kernel
theorem dX2_init_0 : decode cX2_init 0 = .ok (.aload_n 0, 1) := by decide +kernel
theorem dX2_init_1 : decode cX2_init 1 = .ok (.invokespecial 3, 3) := by decide +kernel
theorem dX2_init_4 : decode cX2_init 4 = .ok (.aload_n 0, 1) := by decide +kernel
theorem dX2_init_5 : decode cX2_init 5 = .ok (.bipush 12, 2) := by decide +kernel
theorem dX2_init_7 : decode cX2_init 7 = .ok (.newarray .int, 2) := by decide +kernel
theorem dX2_init_9 : decode cX2_init 9 = .ok (.putfield 9, 3) := by decide +kernel
theorem dX2_init_12 : decode cX2_init 12 = .ok (.aload_n 0, 1) := by decide +kernel
theorem dX2_init_13 : decode cX2_init 13 = .ok (.bipush 12, 2) := by decide +kernel
theorem dX2_init_15 : decode cX2_init 15 = .ok (.newarray .int, 2) := by decide +kernel
theorem dX2_init_17 : decode cX2_init 17 = .ok (.putfield 15, 3) := by decide +kernel
theorem dX2_init_20 : decode cX2_init 20 = .ok (.aload_n 0, 1) := by decide +kernel
theorem dX2_init_21 : decode cX2_init 21 = .ok (.bipush 12, 2) := by decide +kernel
theorem dX2_init_23 : decode cX2_init 23 = .ok (.newarray .int, 2) := by decide +kernel
theorem dX2_init_25 : decode cX2_init 25 = .ok (.putfield 18, 3) := by decide +kernel
theorem dX2_init_28 : decode cX2_init 28 = .ok (.aload_n 0, 1) := by decide +kernel
theorem dX2_init_29 : decode cX2_init 29 = .ok (.bipush 12, 2) := by decide +kernel
theorem dX2_init_31 : decode cX2_init 31 = .ok (.newarray .int, 2) := by decide +kernel
theorem dX2_init_33 : decode cX2_init 33 = .ok (.putfield 21, 3) := by decide +kernel
theorem dX2_init_36 : decode cX2_init 36 = .ok (.aload_n 0, 1) := by decide +kernel
theorem dX2_init_37 : decode cX2_init 37 = .ok (.bipush 12, 2) := by decide +kernel
theorem dX2_init_39 : decode cX2_init 39 = .ok (.newarray .int, 2) := by decide +kernel
theorem dX2_init_41 : decode cX2_init 41 = .ok (.putfield 24, 3) := by decide +kernel
theorem dX2_init_44 : decode cX2_init 44 = .ok (.aload_n 0, 1) := by decide +kernel
theorem dX2_init_45 : decode cX2_init 45 = .ok (.bipush 12, 2) := by decide +kernel
theorem dX2_init_47 : decode cX2_init 47 = .ok (.newarray .int, 2) := by decide +kernel
theorem dX2_init_49 : decode cX2_init 49 = .ok (.putfield 27, 3) := by decide +kernel
theorem dX2_init_52 : decode cX2_init 52 = .ok (.aload_n 0, 1) := by decide +kernel
theorem dX2_init_53 : decode cX2_init 53 = .ok (.bipush 12, 2) := by decide +kernel
theorem dX2_init_55 : decode cX2_init 55 = .ok (.newarray .int, 2) := by decide +kernel
theorem dX2_init_57 : decode cX2_init 57 = .ok (.putfield 30, 3) := by decide +kernel
theorem dX2_init_60 : decode cX2_init 60 = .ok (.aload_n 0, 1) := by decide +kernel
theorem dX2_init_61 : decode cX2_init 61 = .ok (.bipush 48, 2) := by decide +kernel
theorem dX2_init_63 : decode cX2_init 63 = .ok (.newarray .int, 2) := by decide +kernel
theorem dX2_init_65 : decode cX2_init 65 = .ok (.putfield 33, 3) := by decide +kernel
theorem dX2_init_68 : decode cX2_init 68 = .ok (.aload_n 0, 1) := by decide +kernel
theorem dX2_init_69 : decode cX2_init 69 = .ok (.bipush 48, 2) := by decide +kernel
theorem dX2_init_71 : decode cX2_init 71 = .ok (.newarray .int, 2) := by decide +kernel
theorem dX2_init_73 : decode cX2_init 73 = .ok (.putfield 36, 3) := by decide +kernel
theorem dX2_init_76 : decode cX2_init 76 = .ok (.return_, 1) := by decide +kernel
theorem dX2_begin_0 : decode cX2_begin 0 = .ok (.aload_n 0, 1) := by decide +kernel
theorem dX2_begin_1 : decode cX2_begin 1 = .ok (.aload_n 1, 1) := by decide +kernel
theorem dX2_begin_2 : decode cX2_begin 2 = .ok (.getfield 39, 3) := by decide +kernel
theorem dX2_begin_5 : decode cX2_begin 5 = .ok (.putfield 45, 3) := by decide +kernel
theorem dX2_begin_8 : decode cX2_begin 8 = .ok (.aload_n 0, 1) := by decide +kernel
theorem dX2_begin_9 : decode cX2_begin 9 = .ok (.aload_n 1, 1) := by decide +kernel
theorem dX2_begin_10 : decode cX2_begin 10 = .ok (.getfield 46, 3) := by decide +kernel
theorem dX2_begin_13 : decode cX2_begin 13 = .ok (.putfield 49, 3) := by decide +kernel
theorem dX2_begin_16 : decode cX2_begin 16 = .ok (.aload_n 0, 1) := by decide +kernel
theorem dX2_begin_17 : decode cX2_begin 17 = .ok (.aload_n 1, 1) := by decide +kernel
theorem dX2_begin_18 : decode cX2_begin 18 = .ok (.getfield 50, 3) := by decide +kernel
theorem dX2_begin_21 : decode cX2_begin 21 = .ok (.putfield 53, 3) := by decide +kernel
theorem dX2_begin_24 : decode cX2_begin 24 = .ok (.aload_n 0, 1) := by decide +kernel
theorem dX2_begin_25 : decode cX2_begin 25 = .ok (.aload_n 1, 1) := by decide +kernel
theorem dX2_begin_26 : decode cX2_begin 26 = .ok (.getfield 54, 3) := by decide +kernel
theorem dX2_begin_29 : decode cX2_begin 29 = .ok (.putfield 57, 3) := by decide +kernel
theorem dX2_begin_32 : decode cX2_begin 32 = .ok (.aload_n 0, 1) := by decide +kernel
theorem dX2_begin_33 : decode cX2_begin 33 = .ok (.iconst 0, 1) := by decide +kernel
theorem dX2_begin_34 : decode cX2_begin 34 = .ok (.putfield 58, 3) := by decide +kernel
theorem dX2_begin_37 : decode cX2_begin 37 = .ok (.iconst 0, 1) := by decide +kernel
theorem dX2_begin_38 : decode cX2_begin 38 = .ok (.istore_n 2, 1) := by decide +kernel
theorem dX2_begin_39 : decode cX2_begin 39 = .ok (.iload_n 2, 1) := by decide +kernel
theorem dX2_begin_40 : decode cX2_begin 40 = .ok (.aload_n 0, 1) := by decide +kernel
theorem dX2_begin_41 : decode cX2_begin 41 = .ok (.getfield 45, 3) := by decide +kernel
theorem dX2_begin_44 : decode cX2_begin 44 = .ok (.if_icmp .ge 105, 3) := by decide +kernel
theorem dX2_begin_47 : decode cX2_begin 47 = .ok (.aload_n 1, 1) := by decide +kernel
theorem dX2_begin_48 : decode cX2_begin 48 = .ok (.getfield 61, 3) := by decide +kernel
theorem dX2_begin_51 : decode cX2_begin 51 = .ok (.iload_n 2, 1) := by decide +kernel
theorem dX2_begin_52 : decode cX2_begin 52 = .ok (.aaload, 1) := by decide +kernel
theorem dX2_begin_53 : decode cX2_begin 53 = .ok (.astore_n 3, 1) := by decide +kernel
theorem dX2_begin_54 : decode cX2_begin 54 = .ok (.aload_n 0, 1) := by decide +kernel
theorem dX2_begin_55 : decode cX2_begin 55 = .ok (.getfield 9, 3) := by decide +kernel
theorem dX2_begin_58 : decode cX2_begin 58 = .ok (.iload_n 2, 1) := by decide +kernel
theorem dX2_begin_59 : decode cX2_begin 59 = .ok (.aload_n 3, 1) := by decide +kernel
theorem dX2_begin_60 : decode cX2_begin 60 = .ok (.getfield 65, 3) := by decide +kernel
theorem dX2_begin_63 : decode cX2_begin 63 = .ok (.iastore, 1) := by decide +kernel
theorem dX2_begin_64 : decode cX2_begin 64 = .ok (.aload_n 0, 1) := by decide +kernel
theorem dX2_begin_65 : decode cX2_begin 65 = .ok (.getfield 18, 3) := by decide +kernel
theorem dX2_begin_68 : decode cX2_begin 68 = .ok (.iload_n 2, 1) := by decide +kernel
theorem dX2_begin_69 : decode cX2_begin 69 = .ok (.aload_n 3, 1) := by decide +kernel
theorem dX2_begin_70 : decode cX2_begin 70 = .ok (.aload_n 3, 1) := by decide +kernel
theorem dX2_begin_71 : decode cX2_begin 71 = .ok (.getfield 69, 3) := by decide +kernel
theorem dX2_begin_74 : decode cX2_begin 74 = .ok (.invokevirtual 72, 3) := by decide +kernel
theorem dX2_begin_77 : decode cX2_begin 77 = .ok (.iastore, 1) := by decide +kernel
theorem dX2_begin_78 : decode cX2_begin 78 = .ok (.aload_n 0, 1) := by decide +kernel
theorem dX2_begin_79 : decode cX2_begin 79 = .ok (.getfield 21, 3) := by decide +kernel
theorem dX2_begin_82 : decode cX2_begin 82 = .ok (.iload_n 2, 1) := by decide +kernel
theorem dX2_begin_83 : decode cX2_begin 83 = .ok (.aload_n 1, 1) := by decide +kernel
theorem dX2_begin_84 : decode cX2_begin 84 = .ok (.iload_n 2, 1) := by decide +kernel
theorem dX2_begin_85 : decode cX2_begin 85 = .ok (.aload_n 3, 1) := by decide +kernel
theorem dX2_begin_86 : decode cX2_begin 86 = .ok (.getfield 75, 3) := by decide +kernel
theorem dX2_begin_89 : decode cX2_begin 89 = .ok (.invokevirtual 78, 3) := by decide +kernel
theorem dX2_begin_92 : decode cX2_begin 92 = .ok (.iastore, 1) := by decide +kernel
theorem dX2_begin_93 : decode cX2_begin 93 = .ok (.iconst 0, 1) := by decide +kernel
theorem dX2_begin_94 : decode cX2_begin 94 = .ok (.istore 4, 2) := by decide +kernel
theorem dX2_begin_96 : decode cX2_begin 96 = .ok (.iload 4, 2) := by decide +kernel
theorem dX2_begin_98 : decode cX2_begin 98 = .ok (.iload_n 2, 1) := by decide +kernel
theorem dX2_begin_99 : decode cX2_begin 99 = .ok (.if_icmp .ge 44, 3) := by decide +kernel
theorem dX2_begin_102 : decode cX2_begin 102 = .ok (.aload_n 3, 1) := by decide +kernel
theorem dX2_begin_103 : decode cX2_begin 103 = .ok (.aload_n 1, 1) := by decide +kernel
theorem dX2_begin_104 : decode cX2_begin 104 = .ok (.getfield 61, 3) := by decide +kernel
theorem dX2_begin_107 : decode cX2_begin 107 = .ok (.iload 4, 2) := by decide +kernel
theorem dX2_begin_109 : decode cX2_begin 109 = .ok (.aaload, 1) := by decide +kernel
theorem dX2_begin_110 : decode cX2_begin 110 = .ok (.invokevirtual 81, 3) := by decide +kernel
theorem dX2_begin_113 : decode cX2_begin 113 = .ok (.ifCond .ne 17, 3) := by decide +kernel
theorem dX2_begin_116 : decode cX2_begin 116 = .ok (.aload_n 3, 1) := by decide +kernel
theorem dX2_begin_117 : decode cX2_begin 117 = .ok (.aload_n 1, 1) := by decide +kernel
theorem dX2_begin_118 : decode cX2_begin 118 = .ok (.getfield 61, 3) := by decide +kernel
theorem dX2_begin_121 : decode cX2_begin 121 = .ok (.iload 4, 2) := by decide +kernel
theorem dX2_begin_123 : decode cX2_begin 123 = .ok (.aaload, 1) := by decide +kernel
theorem dX2_begin_124 : decode cX2_begin 124 = .ok (.invokevirtual 85, 3) := by decide +kernel
theorem dX2_begin_127 : decode cX2_begin 127 = .ok (.ifCond .eq 10, 3) := by decide +kernel
theorem dX2_begin_130 : decode cX2_begin 130 = .ok (.aload_n 0, 1) := by decide +kernel
theorem dX2_begin_131 : decode cX2_begin 131 = .ok (.iload 4, 2) := by decide +kernel
theorem dX2_begin_133 : decode cX2_begin 133 = .ok (.iload_n 2, 1) := by decide +kernel
theorem dX2_begin_134 : decode cX2_begin 134 = .ok (.invokevirtual 88, 3) := by decide +kernel
theorem dX2_begin_137 : decode cX2_begin 137 = .ok (.iinc 4 1, 3) := by decide +kernel
theorem dX2_begin_140 : decode cX2_begin 140 = .ok (.goto (-44), 3) := by decide +kernel
theorem dX2_begin_143 : decode cX2_begin 143 = .ok (.iinc 2 1, 3) := by decide +kernel
theorem dX2_begin_146 : decode cX2_begin 146 = .ok (.goto (-107), 3) := by decide +kernel
theorem dX2_begin_149 : decode cX2_begin 149 = .ok (.aload_n 0, 1) := by decide +kernel
theorem dX2_begin_150 : decode cX2_begin 150 = .ok (.invokevirtual 92, 3) := by decide +kernel
theorem dX2_begin_153 : decode cX2_begin 153 = .ok (.return_, 1) := by decide +kernel
theorem dX2_addWall_0 : decode cX2_addWall 0 = .ok (.aload_n 0, 1) := by decide +kernel
theorem dX2_addWall_1 : decode cX2_addWall 1 = .ok (.getfield 58, 3) := by decide +kernel
theorem dX2_addWall_4 : decode cX2_addWall 4 = .ok (.aload_n 0, 1) := by decide +kernel
theorem dX2_addWall_5 : decode cX2_addWall 5 = .ok (.getfield 33, 3) := by decide +kernel
theorem dX2_addWall_8 : decode cX2_addWall 8 = .ok (.arraylength, 1) := by decide +kernel
theorem dX2_addWall_9 : decode cX2_addWall 9 = .ok (.if_icmp .ge 33, 3) := by decide +kernel
theorem dX2_addWall_12 : decode cX2_addWall 12 = .ok (.aload_n 0, 1) := by decide +kernel
theorem dX2_addWall_13 : decode cX2_addWall 13 = .ok (.getfield 33, 3) := by decide +kernel
theorem dX2_addWall_16 : decode cX2_addWall 16 = .ok (.aload_n 0, 1) := by decide +kernel
theorem dX2_addWall_17 : decode cX2_addWall 17 = .ok (.getfield 58, 3) := by decide +kernel
theorem dX2_addWall_20 : decode cX2_addWall 20 = .ok (.iload_n 1, 1) := by decide +kernel
theorem dX2_addWall_21 : decode cX2_addWall 21 = .ok (.iastore, 1) := by decide +kernel
theorem dX2_addWall_22 : decode cX2_addWall 22 = .ok (.aload_n 0, 1) := by decide +kernel
theorem dX2_addWall_23 : decode cX2_addWall 23 = .ok (.getfield 36, 3) := by decide +kernel
theorem dX2_addWall_26 : decode cX2_addWall 26 = .ok (.aload_n 0, 1) := by decide +kernel
theorem dX2_addWall_27 : decode cX2_addWall 27 = .ok (.getfield 58, 3) := by decide +kernel
theorem dX2_addWall_30 : decode cX2_addWall 30 = .ok (.iload_n 2, 1) := by decide +kernel
theorem dX2_addWall_31 : decode cX2_addWall 31 = .ok (.iastore, 1) := by decide +kernel
theorem dX2_addWall_32 : decode cX2_addWall 32 = .ok (.aload_n 0, 1) := by decide +kernel
theorem dX2_addWall_33 : decode cX2_addWall 33 = .ok (.dup, 1) := by decide +kernel
theorem dX2_addWall_34 : decode cX2_addWall 34 = .ok (.getfield 58, 3) := by decide +kernel
theorem dX2_addWall_37 : decode cX2_addWall 37 = .ok (.iconst 1, 1) := by decide +kernel
theorem dX2_addWall_38 : decode cX2_addWall 38 = .ok (.iadd, 1) := by decide +kernel
theorem dX2_addWall_39 : decode cX2_addWall 39 = .ok (.putfield 58, 3) := by decide +kernel
theorem dX2_addWall_42 : decode cX2_addWall 42 = .ok (.return_, 1) := by decide +kernel
theorem dX2_restart_0 : decode cX2_restart 0 = .ok (.iconst 0, 1) := by decide +kernel
theorem dX2_restart_1 : decode cX2_restart 1 = .ok (.istore_n 1, 1) := by decide +kernel
theorem dX2_restart_2 : decode cX2_restart 2 = .ok (.iconst 0, 1) := by decide +kernel
theorem dX2_restart_3 : decode cX2_restart 3 = .ok (.istore_n 2, 1) := by decide +kernel
theorem dX2_restart_4 : decode cX2_restart 4 = .ok (.iload_n 2, 1) := by decide +kernel
theorem dX2_restart_5 : decode cX2_restart 5 = .ok (.aload_n 0, 1) := by decide +kernel
theorem dX2_restart_6 : decode cX2_restart 6 = .ok (.getfield 45, 3) := by decide +kernel
theorem dX2_restart_9 : decode cX2_restart 9 = .ok (.if_icmp .ge 18, 3) := by decide +kernel
theorem dX2_restart_12 : decode cX2_restart 12 = .ok (.iload_n 1, 1) := by decide +kernel
theorem dX2_restart_13 : decode cX2_restart 13 = .ok (.aload_n 0, 1) := by decide +kernel
theorem dX2_restart_14 : decode cX2_restart 14 = .ok (.getfield 21, 3) := by decide +kernel
theorem dX2_restart_17 : decode cX2_restart 17 = .ok (.iload_n 2, 1) := by decide +kernel
theorem dX2_restart_18 : decode cX2_restart 18 = .ok (.iaload, 1) := by decide +kernel
theorem dX2_restart_19 : decode cX2_restart 19 = .ok (.iadd, 1) := by decide +kernel
theorem dX2_restart_20 : decode cX2_restart 20 = .ok (.istore_n 1, 1) := by decide +kernel
theorem dX2_restart_21 : decode cX2_restart 21 = .ok (.iinc 2 1, 3) := by decide +kernel
theorem dX2_restart_24 : decode cX2_restart 24 = .ok (.goto (-20), 3) := by decide +kernel
theorem dX2_restart_27 : decode cX2_restart 27 = .ok (.iconst 0, 1) := by decide +kernel
theorem dX2_restart_28 : decode cX2_restart 28 = .ok (.istore_n 2, 1) := by decide +kernel
theorem dX2_restart_29 : decode cX2_restart 29 = .ok (.iload_n 2, 1) := by decide +kernel
theorem dX2_restart_30 : decode cX2_restart 30 = .ok (.aload_n 0, 1) := by decide +kernel
theorem dX2_restart_31 : decode cX2_restart 31 = .ok (.getfield 45, 3) := by decide +kernel
theorem dX2_restart_34 : decode cX2_restart 34 = .ok (.if_icmp .ge 41, 3) := by decide +kernel
theorem dX2_restart_37 : decode cX2_restart 37 = .ok (.aload_n 0, 1) := by decide +kernel
theorem dX2_restart_38 : decode cX2_restart 38 = .ok (.getfield 15, 3) := by decide +kernel
theorem dX2_restart_41 : decode cX2_restart 41 = .ok (.iload_n 2, 1) := by decide +kernel
theorem dX2_restart_42 : decode cX2_restart 42 = .ok (.aload_n 0, 1) := by decide +kernel
theorem dX2_restart_43 : decode cX2_restart 43 = .ok (.getfield 9, 3) := by decide +kernel
theorem dX2_restart_46 : decode cX2_restart 46 = .ok (.iload_n 2, 1) := by decide +kernel
theorem dX2_restart_47 : decode cX2_restart 47 = .ok (.iaload, 1) := by decide +kernel
theorem dX2_restart_48 : decode cX2_restart 48 = .ok (.iastore, 1) := by decide +kernel
theorem dX2_restart_49 : decode cX2_restart 49 = .ok (.aload_n 0, 1) := by decide +kernel
theorem dX2_restart_50 : decode cX2_restart 50 = .ok (.getfield 24, 3) := by decide +kernel
theorem dX2_restart_53 : decode cX2_restart 53 = .ok (.iload_n 2, 1) := by decide +kernel
theorem dX2_restart_54 : decode cX2_restart 54 = .ok (.aload_n 0, 1) := by decide +kernel
theorem dX2_restart_55 : decode cX2_restart 55 = .ok (.getfield 57, 3) := by decide +kernel
theorem dX2_restart_58 : decode cX2_restart 58 = .ok (.aload_n 0, 1) := by decide +kernel
theorem dX2_restart_59 : decode cX2_restart 59 = .ok (.getfield 21, 3) := by decide +kernel
theorem dX2_restart_62 : decode cX2_restart 62 = .ok (.iload_n 2, 1) := by decide +kernel
theorem dX2_restart_63 : decode cX2_restart 63 = .ok (.iaload, 1) := by decide +kernel
theorem dX2_restart_64 : decode cX2_restart 64 = .ok (.iload_n 1, 1) := by decide +kernel
theorem dX2_restart_65 : decode cX2_restart 65 = .ok (.invokestatic 95, 3) := by decide +kernel
theorem dX2_restart_68 : decode cX2_restart 68 = .ok (.iastore, 1) := by decide +kernel
theorem dX2_restart_69 : decode cX2_restart 69 = .ok (.iinc 2 1, 3) := by decide +kernel
theorem dX2_restart_72 : decode cX2_restart 72 = .ok (.goto (-43), 3) := by decide +kernel
theorem dX2_restart_75 : decode cX2_restart 75 = .ok (.return_, 1) := by decide +kernel
theorem dX2_go_0 : decode cX2_go 0 = .ok (.aload_n 0, 1) := by decide +kernel
theorem dX2_go_1 : decode cX2_go 1 = .ok (.invokevirtual 92, 3) := by decide +kernel
theorem dX2_go_4 : decode cX2_go 4 = .ok (.iconst 0, 1) := by decide +kernel
theorem dX2_go_5 : decode cX2_go 5 = .ok (.istore_n 2, 1) := by decide +kernel
theorem dX2_go_6 : decode cX2_go 6 = .ok (.iconst 0, 1) := by decide +kernel
theorem dX2_go_7 : decode cX2_go 7 = .ok (.istore_n 3, 1) := by decide +kernel
theorem dX2_go_8 : decode cX2_go 8 = .ok (.iload_n 3, 1) := by decide +kernel
theorem dX2_go_9 : decode cX2_go 9 = .ok (.iload_n 1, 1) := by decide +kernel
theorem dX2_go_10 : decode cX2_go 10 = .ok (.if_icmp .ge 41, 3) := by decide +kernel
theorem dX2_go_13 : decode cX2_go 13 = .ok (.aload_n 0, 1) := by decide +kernel
theorem dX2_go_14 : decode cX2_go 14 = .ok (.invokevirtual 99, 3) := by decide +kernel
theorem dX2_go_17 : decode cX2_go 17 = .ok (.iconst 0, 1) := by decide +kernel
theorem dX2_go_18 : decode cX2_go 18 = .ok (.istore 4, 2) := by decide +kernel
theorem dX2_go_20 : decode cX2_go 20 = .ok (.iload 4, 2) := by decide +kernel
theorem dX2_go_22 : decode cX2_go 22 = .ok (.aload_n 0, 1) := by decide +kernel
theorem dX2_go_23 : decode cX2_go 23 = .ok (.getfield 45, 3) := by decide +kernel
theorem dX2_go_26 : decode cX2_go 26 = .ok (.if_icmp .ge 19, 3) := by decide +kernel
theorem dX2_go_29 : decode cX2_go 29 = .ok (.iload_n 2, 1) := by decide +kernel
theorem dX2_go_30 : decode cX2_go 30 = .ok (.aload_n 0, 1) := by decide +kernel
theorem dX2_go_31 : decode cX2_go 31 = .ok (.getfield 27, 3) := by decide +kernel
theorem dX2_go_34 : decode cX2_go 34 = .ok (.iload 4, 2) := by decide +kernel
theorem dX2_go_36 : decode cX2_go 36 = .ok (.iaload, 1) := by decide +kernel
theorem dX2_go_37 : decode cX2_go 37 = .ok (.iadd, 1) := by decide +kernel
theorem dX2_go_38 : decode cX2_go 38 = .ok (.istore_n 2, 1) := by decide +kernel
theorem dX2_go_39 : decode cX2_go 39 = .ok (.iinc 4 1, 3) := by decide +kernel
theorem dX2_go_42 : decode cX2_go 42 = .ok (.goto (-22), 3) := by decide +kernel
theorem dX2_go_45 : decode cX2_go 45 = .ok (.iinc 3 1, 3) := by decide +kernel
theorem dX2_go_48 : decode cX2_go 48 = .ok (.goto (-40), 3) := by decide +kernel
theorem dX2_go_51 : decode cX2_go 51 = .ok (.iload_n 2, 1) := by decide +kernel
theorem dX2_go_52 : decode cX2_go 52 = .ok (.ireturn, 1) := by decide +kernel
theorem dX2_goHour_0 : decode cX2_goHour 0 = .ok (.iconst 0, 1) := by decide +kernel
theorem dX2_goHour_1 : decode cX2_goHour 1 = .ok (.istore_n 1, 1) := by decide +kernel
theorem dX2_goHour_2 : decode cX2_goHour 2 = .ok (.iload_n 1, 1) := by decide +kernel
theorem dX2_goHour_3 : decode cX2_goHour 3 = .ok (.aload_n 0, 1) := by decide +kernel
theorem dX2_goHour_4 : decode cX2_goHour 4 = .ok (.getfield 45, 3) := by decide +kernel
theorem dX2_goHour_7 : decode cX2_goHour 7 = .ok (.if_icmp .ge 48, 3) := by decide +kernel
theorem dX2_goHour_10 : decode cX2_goHour 10 = .ok (.aload_n 0, 1) := by decide +kernel
theorem dX2_goHour_11 : decode cX2_goHour 11 = .ok (.getfield 27, 3) := by decide +kernel
theorem dX2_goHour_14 : decode cX2_goHour 14 = .ok (.iload_n 1, 1) := by decide +kernel
theorem dX2_goHour_15 : decode cX2_goHour 15 = .ok (.aload_n 0, 1) := by decide +kernel
theorem dX2_goHour_16 : decode cX2_goHour 16 = .ok (.getfield 24, 3) := by decide +kernel
theorem dX2_goHour_19 : decode cX2_goHour 19 = .ok (.iload_n 1, 1) := by decide +kernel
theorem dX2_goHour_20 : decode cX2_goHour 20 = .ok (.iaload, 1) := by decide +kernel
theorem dX2_goHour_21 : decode cX2_goHour 21 = .ok (.iconst 0, 1) := by decide +kernel
theorem dX2_goHour_22 : decode cX2_goHour 22 = .ok (.aload_n 0, 1) := by decide +kernel
theorem dX2_goHour_23 : decode cX2_goHour 23 = .ok (.getfield 49, 3) := by decide +kernel
theorem dX2_goHour_26 : decode cX2_goHour 26 = .ok (.aload_n 0, 1) := by decide +kernel
theorem dX2_goHour_27 : decode cX2_goHour 27 = .ok (.getfield 15, 3) := by decide +kernel
theorem dX2_goHour_30 : decode cX2_goHour 30 = .ok (.iload_n 1, 1) := by decide +kernel
theorem dX2_goHour_31 : decode cX2_goHour 31 = .ok (.iaload, 1) := by decide +kernel
theorem dX2_goHour_32 : decode cX2_goHour 32 = .ok (.isub, 1) := by decide +kernel
theorem dX2_goHour_33 : decode cX2_goHour 33 = .ok (.invokestatic 102, 3) := by decide +kernel
theorem dX2_goHour_36 : decode cX2_goHour 36 = .ok (.imul, 1) := by decide +kernel
theorem dX2_goHour_37 : decode cX2_goHour 37 = .ok (.sipush 1000, 3) := by decide +kernel
theorem dX2_goHour_40 : decode cX2_goHour 40 = .ok (.idiv, 1) := by decide +kernel
theorem dX2_goHour_41 : decode cX2_goHour 41 = .ok (.iastore, 1) := by decide +kernel
theorem dX2_goHour_42 : decode cX2_goHour 42 = .ok (.aload_n 0, 1) := by decide +kernel
theorem dX2_goHour_43 : decode cX2_goHour 43 = .ok (.getfield 30, 3) := by decide +kernel
theorem dX2_goHour_46 : decode cX2_goHour 46 = .ok (.iload_n 1, 1) := by decide +kernel
theorem dX2_goHour_47 : decode cX2_goHour 47 = .ok (.iconst 0, 1) := by decide +kernel
theorem dX2_goHour_48 : decode cX2_goHour 48 = .ok (.iastore, 1) := by decide +kernel
theorem dX2_goHour_49 : decode cX2_goHour 49 = .ok (.iinc 1 1, 3) := by decide +kernel
theorem dX2_goHour_52 : decode cX2_goHour 52 = .ok (.goto (-50), 3) := by decide +kernel
theorem dX2_goHour_55 : decode cX2_goHour 55 = .ok (.iconst 0, 1) := by decide +kernel
theorem dX2_goHour_56 : decode cX2_goHour 56 = .ok (.istore_n 1, 1) := by decide +kernel
theorem dX2_goHour_57 : decode cX2_goHour 57 = .ok (.iload_n 1, 1) := by decide +kernel
theorem dX2_goHour_58 : decode cX2_goHour 58 = .ok (.aload_n 0, 1) := by decide +kernel
theorem dX2_goHour_59 : decode cX2_goHour 59 = .ok (.getfield 58, 3) := by decide +kernel
theorem dX2_goHour_62 : decode cX2_goHour 62 = .ok (.if_icmp .ge 63, 3) := by decide +kernel
theorem dX2_goHour_65 : decode cX2_goHour 65 = .ok (.aload_n 0, 1) := by decide +kernel
theorem dX2_goHour_66 : decode cX2_goHour 66 = .ok (.getfield 33, 3) := by decide +kernel
theorem dX2_goHour_69 : decode cX2_goHour 69 = .ok (.iload_n 1, 1) := by decide +kernel
theorem dX2_goHour_70 : decode cX2_goHour 70 = .ok (.iaload, 1) := by decide +kernel
theorem dX2_goHour_71 : decode cX2_goHour 71 = .ok (.istore_n 2, 1) := by decide +kernel
theorem dX2_goHour_72 : decode cX2_goHour 72 = .ok (.aload_n 0, 1) := by decide +kernel
theorem dX2_goHour_73 : decode cX2_goHour 73 = .ok (.getfield 36, 3) := by decide +kernel
theorem dX2_goHour_76 : decode cX2_goHour 76 = .ok (.iload_n 1, 1) := by decide +kernel
theorem dX2_goHour_77 : decode cX2_goHour 77 = .ok (.iaload, 1) := by decide +kernel
theorem dX2_goHour_78 : decode cX2_goHour 78 = .ok (.istore_n 3, 1) := by decide +kernel
theorem dX2_goHour_79 : decode cX2_goHour 79 = .ok (.aload_n 0, 1) := by decide +kernel
theorem dX2_goHour_80 : decode cX2_goHour 80 = .ok (.getfield 15, 3) := by decide +kernel
theorem dX2_goHour_83 : decode cX2_goHour 83 = .ok (.iload_n 3, 1) := by decide +kernel
theorem dX2_goHour_84 : decode cX2_goHour 84 = .ok (.iaload, 1) := by decide +kernel
theorem dX2_goHour_85 : decode cX2_goHour 85 = .ok (.aload_n 0, 1) := by decide +kernel
theorem dX2_goHour_86 : decode cX2_goHour 86 = .ok (.getfield 15, 3) := by decide +kernel
theorem dX2_goHour_89 : decode cX2_goHour 89 = .ok (.iload_n 2, 1) := by decide +kernel
theorem dX2_goHour_90 : decode cX2_goHour 90 = .ok (.iaload, 1) := by decide +kernel
theorem dX2_goHour_91 : decode cX2_goHour 91 = .ok (.isub, 1) := by decide +kernel
theorem dX2_goHour_92 : decode cX2_goHour 92 = .ok (.bipush 20, 2) := by decide +kernel
theorem dX2_goHour_94 : decode cX2_goHour 94 = .ok (.idiv, 1) := by decide +kernel
theorem dX2_goHour_95 : decode cX2_goHour 95 = .ok (.istore 4, 2) := by decide +kernel
theorem dX2_goHour_97 : decode cX2_goHour 97 = .ok (.aload_n 0, 1) := by decide +kernel
theorem dX2_goHour_98 : decode cX2_goHour 98 = .ok (.getfield 30, 3) := by decide +kernel
theorem dX2_goHour_101 : decode cX2_goHour 101 = .ok (.iload_n 2, 1) := by decide +kernel
theorem dX2_goHour_102 : decode cX2_goHour 102 = .ok (.dup2, 1) := by decide +kernel
theorem dX2_goHour_103 : decode cX2_goHour 103 = .ok (.iaload, 1) := by decide +kernel
theorem dX2_goHour_104 : decode cX2_goHour 104 = .ok (.iload 4, 2) := by decide +kernel
theorem dX2_goHour_106 : decode cX2_goHour 106 = .ok (.iadd, 1) := by decide +kernel
theorem dX2_goHour_107 : decode cX2_goHour 107 = .ok (.iastore, 1) := by decide +kernel
theorem dX2_goHour_108 : decode cX2_goHour 108 = .ok (.aload_n 0, 1) := by decide +kernel
theorem dX2_goHour_109 : decode cX2_goHour 109 = .ok (.getfield 30, 3) := by decide +kernel
theorem dX2_goHour_112 : decode cX2_goHour 112 = .ok (.iload_n 3, 1) := by decide +kernel
theorem dX2_goHour_113 : decode cX2_goHour 113 = .ok (.dup2, 1) := by decide +kernel
theorem dX2_goHour_114 : decode cX2_goHour 114 = .ok (.iaload, 1) := by decide +kernel
theorem dX2_goHour_115 : decode cX2_goHour 115 = .ok (.iload 4, 2) := by decide +kernel
theorem dX2_goHour_117 : decode cX2_goHour 117 = .ok (.isub, 1) := by decide +kernel
theorem dX2_goHour_118 : decode cX2_goHour 118 = .ok (.iastore, 1) := by decide +kernel
theorem dX2_goHour_119 : decode cX2_goHour 119 = .ok (.iinc 1 1, 3) := by decide +kernel
theorem dX2_goHour_122 : decode cX2_goHour 122 = .ok (.goto (-65), 3) := by decide +kernel
theorem dX2_goHour_125 : decode cX2_goHour 125 = .ok (.iconst 0, 1) := by decide +kernel
theorem dX2_goHour_126 : decode cX2_goHour 126 = .ok (.istore_n 1, 1) := by decide +kernel
theorem dX2_goHour_127 : decode cX2_goHour 127 = .ok (.iload_n 1, 1) := by decide +kernel
theorem dX2_goHour_128 : decode cX2_goHour 128 = .ok (.aload_n 0, 1) := by decide +kernel
theorem dX2_goHour_129 : decode cX2_goHour 129 = .ok (.getfield 45, 3) := by decide +kernel
theorem dX2_goHour_132 : decode cX2_goHour 132 = .ok (.if_icmp .ge 56, 3) := by decide +kernel
theorem dX2_goHour_135 : decode cX2_goHour 135 = .ok (.aload_n 0, 1) := by decide +kernel
theorem dX2_goHour_136 : decode cX2_goHour 136 = .ok (.getfield 18, 3) := by decide +kernel
theorem dX2_goHour_139 : decode cX2_goHour 139 = .ok (.iload_n 1, 1) := by decide +kernel
theorem dX2_goHour_140 : decode cX2_goHour 140 = .ok (.iaload, 1) := by decide +kernel
theorem dX2_goHour_141 : decode cX2_goHour 141 = .ok (.aload_n 0, 1) := by decide +kernel
theorem dX2_goHour_142 : decode cX2_goHour 142 = .ok (.getfield 15, 3) := by decide +kernel
theorem dX2_goHour_145 : decode cX2_goHour 145 = .ok (.iload_n 1, 1) := by decide +kernel
theorem dX2_goHour_146 : decode cX2_goHour 146 = .ok (.iaload, 1) := by decide +kernel
theorem dX2_goHour_147 : decode cX2_goHour 147 = .ok (.aload_n 0, 1) := by decide +kernel
theorem dX2_goHour_148 : decode cX2_goHour 148 = .ok (.getfield 53, 3) := by decide +kernel
theorem dX2_goHour_151 : decode cX2_goHour 151 = .ok (.isub, 1) := by decide +kernel
theorem dX2_goHour_152 : decode cX2_goHour 152 = .ok (.imul, 1) := by decide +kernel
theorem dX2_goHour_153 : decode cX2_goHour 153 = .ok (.sipush 1000, 3) := by decide +kernel
theorem dX2_goHour_156 : decode cX2_goHour 156 = .ok (.idiv, 1) := by decide +kernel
theorem dX2_goHour_157 : decode cX2_goHour 157 = .ok (.istore_n 2, 1) := by decide +kernel
theorem dX2_goHour_158 : decode cX2_goHour 158 = .ok (.aload_n 0, 1) := by decide +kernel
theorem dX2_goHour_159 : decode cX2_goHour 159 = .ok (.getfield 15, 3) := by decide +kernel
theorem dX2_goHour_162 : decode cX2_goHour 162 = .ok (.iload_n 1, 1) := by decide +kernel
theorem dX2_goHour_163 : decode cX2_goHour 163 = .ok (.dup2, 1) := by decide +kernel
theorem dX2_goHour_164 : decode cX2_goHour 164 = .ok (.iaload, 1) := by decide +kernel
theorem dX2_goHour_165 : decode cX2_goHour 165 = .ok (.aload_n 0, 1) := by decide +kernel
theorem dX2_goHour_166 : decode cX2_goHour 166 = .ok (.getfield 27, 3) := by decide +kernel
theorem dX2_goHour_169 : decode cX2_goHour 169 = .ok (.iload_n 1, 1) := by decide +kernel
theorem dX2_goHour_170 : decode cX2_goHour 170 = .ok (.iaload, 1) := by decide +kernel
theorem dX2_goHour_171 : decode cX2_goHour 171 = .ok (.iload_n 2, 1) := by decide +kernel
theorem dX2_goHour_172 : decode cX2_goHour 172 = .ok (.isub, 1) := by decide +kernel
theorem dX2_goHour_173 : decode cX2_goHour 173 = .ok (.aload_n 0, 1) := by decide +kernel
theorem dX2_goHour_174 : decode cX2_goHour 174 = .ok (.getfield 30, 3) := by decide +kernel
theorem dX2_goHour_177 : decode cX2_goHour 177 = .ok (.iload_n 1, 1) := by decide +kernel
theorem dX2_goHour_178 : decode cX2_goHour 178 = .ok (.iaload, 1) := by decide +kernel
theorem dX2_goHour_179 : decode cX2_goHour 179 = .ok (.iadd, 1) := by decide +kernel
theorem dX2_goHour_180 : decode cX2_goHour 180 = .ok (.iadd, 1) := by decide +kernel
theorem dX2_goHour_181 : decode cX2_goHour 181 = .ok (.iastore, 1) := by decide +kernel
theorem dX2_goHour_182 : decode cX2_goHour 182 = .ok (.iinc 1 1, 3) := by decide +kernel
theorem dX2_goHour_185 : decode cX2_goHour 185 = .ok (.goto (-58), 3) := by decide +kernel
theorem dX2_goHour_188 : decode cX2_goHour 188 = .ok (.return_, 1) := by decide +kernel
theorem dX2_isAllEven_0 : decode cX2_isAllEven 0 = .ok (.iconst 0, 1) := by decide +kernel
theorem dX2_isAllEven_1 : decode cX2_isAllEven 1 = .ok (.istore_n 2, 1) := by decide +kernel
theorem dX2_isAllEven_2 : decode cX2_isAllEven 2 = .ok (.iload_n 2, 1) := by decide +kernel
theorem dX2_isAllEven_3 : decode cX2_isAllEven 3 = .ok (.aload_n 0, 1) := by decide +kernel
theorem dX2_isAllEven_4 : decode cX2_isAllEven 4 = .ok (.getfield 45, 3) := by decide +kernel
theorem dX2_isAllEven_7 : decode cX2_isAllEven 7 = .ok (.if_icmp .ge 24, 3) := by decide +kernel
theorem dX2_isAllEven_10 : decode cX2_isAllEven 10 = .ok (.aload_n 0, 1) := by decide +kernel
theorem dX2_isAllEven_11 : decode cX2_isAllEven 11 = .ok (.getfield 15, 3) := by decide +kernel
theorem dX2_isAllEven_14 : decode cX2_isAllEven 14 = .ok (.iload_n 2, 1) := by decide +kernel
theorem dX2_isAllEven_15 : decode cX2_isAllEven 15 = .ok (.iaload, 1) := by decide +kernel
theorem dX2_isAllEven_16 : decode cX2_isAllEven 16 = .ok (.iload_n 1, 1) := by decide +kernel
theorem dX2_isAllEven_17 : decode cX2_isAllEven 17 = .ok (.invokestatic 107, 3) := by decide +kernel
theorem dX2_isAllEven_20 : decode cX2_isAllEven 20 = .ok (.ifCond .eq 5, 3) := by decide +kernel
theorem dX2_isAllEven_23 : decode cX2_isAllEven 23 = .ok (.iconst 0, 1) := by decide +kernel
theorem dX2_isAllEven_24 : decode cX2_isAllEven 24 = .ok (.ireturn, 1) := by decide +kernel
theorem dX2_isAllEven_25 : decode cX2_isAllEven 25 = .ok (.iinc 2 1, 3) := by decide +kernel
theorem dX2_isAllEven_28 : decode cX2_isAllEven 28 = .ok (.goto (-26), 3) := by decide +kernel
theorem dX2_isAllEven_31 : decode cX2_isAllEven 31 = .ok (.iconst 1, 1) := by decide +kernel
theorem dX2_isAllEven_32 : decode cX2_isAllEven 32 = .ok (.ireturn, 1) := by decide +kernel
theorem dX3_init_0 : decode cX3_init 0 = .ok (.aload_n 0, 1) := by decide +kernel
theorem dX3_init_1 : decode cX3_init 1 = .ok (.invokespecial 3, 3) := by decide +kernel
theorem dX3_init_4 : decode cX3_init 4 = .ok (.aload_n 0, 1) := by decide +kernel
theorem dX3_init_5 : decode cX3_init 5 = .ok (.bipush 12, 2) := by decide +kernel
theorem dX3_init_7 : decode cX3_init 7 = .ok (.newarray .int, 2) := by decide +kernel
theorem dX3_init_9 : decode cX3_init 9 = .ok (.putfield 9, 3) := by decide +kernel
theorem dX3_init_12 : decode cX3_init 12 = .ok (.aload_n 0, 1) := by decide +kernel
theorem dX3_init_13 : decode cX3_init 13 = .ok (.aload_n 1, 1) := by decide +kernel
theorem dX3_init_14 : decode cX3_init 14 = .ok (.putfield 15, 3) := by decide +kernel
theorem dX3_init_17 : decode cX3_init 17 = .ok (.aload_n 0, 1) := by decide +kernel
theorem dX3_init_18 : decode cX3_init 18 = .ok (.aload_n 2, 1) := by decide +kernel
theorem dX3_init_19 : decode cX3_init 19 = .ok (.putfield 19, 3) := by decide +kernel
theorem dX3_init_22 : decode cX3_init 22 = .ok (.return_, 1) := by decide +kernel
theorem dX3_seek_0 : decode cX3_seek 0 = .ok (.aload_n 0, 1) := by decide +kernel
theorem dX3_seek_1 : decode cX3_seek 1 = .ok (.iload_n 1, 1) := by decide +kernel
theorem dX3_seek_2 : decode cX3_seek 2 = .ok (.putfield 23, 3) := by decide +kernel
theorem dX3_seek_5 : decode cX3_seek 5 = .ok (.aload_n 0, 1) := by decide +kernel
theorem dX3_seek_6 : decode cX3_seek 6 = .ok (.iload_n 2, 1) := by decide +kernel
theorem dX3_seek_7 : decode cX3_seek 7 = .ok (.putfield 27, 3) := by decide +kernel
theorem dX3_seek_10 : decode cX3_seek 10 = .ok (.aload_n 0, 1) := by decide +kernel
theorem dX3_seek_11 : decode cX3_seek 11 = .ok (.getfield 19, 3) := by decide +kernel
theorem dX3_seek_14 : decode cX3_seek 14 = .ok (.aload_n 0, 1) := by decide +kernel
theorem dX3_seek_15 : decode cX3_seek 15 = .ok (.getfield 15, 3) := by decide +kernel
theorem dX3_seek_18 : decode cX3_seek 18 = .ok (.invokevirtual 30, 3) := by decide +kernel
theorem dX3_seek_21 : decode cX3_seek 21 = .ok (.iconst 0, 1) := by decide +kernel
theorem dX3_seek_22 : decode cX3_seek 22 = .ok (.istore_n 3, 1) := by decide +kernel
theorem dX3_seek_23 : decode cX3_seek 23 = .ok (.iload_n 3, 1) := by decide +kernel
theorem dX3_seek_24 : decode cX3_seek 24 = .ok (.bipush 12, 2) := by decide +kernel
theorem dX3_seek_26 : decode cX3_seek 26 = .ok (.if_icmp .ge 16, 3) := by decide +kernel
theorem dX3_seek_29 : decode cX3_seek 29 = .ok (.aload_n 0, 1) := by decide +kernel
theorem dX3_seek_30 : decode cX3_seek 30 = .ok (.getfield 9, 3) := by decide +kernel
theorem dX3_seek_33 : decode cX3_seek 33 = .ok (.iload_n 3, 1) := by decide +kernel
theorem dX3_seek_34 : decode cX3_seek 34 = .ok (.iconst (-1), 1) := by decide +kernel
theorem dX3_seek_35 : decode cX3_seek 35 = .ok (.iastore, 1) := by decide +kernel
theorem dX3_seek_36 : decode cX3_seek 36 = .ok (.iinc 3 1, 3) := by decide +kernel
theorem dX3_seek_39 : decode cX3_seek 39 = .ok (.goto (-16), 3) := by decide +kernel
theorem dX3_seek_42 : decode cX3_seek 42 = .ok (.aload_n 0, 1) := by decide +kernel
theorem dX3_seek_43 : decode cX3_seek 43 = .ok (.invokevirtual 36, 3) := by decide +kernel
theorem dX3_seek_46 : decode cX3_seek 46 = .ok (.ifCond .ne 17, 3) := by decide +kernel
theorem dX3_seek_49 : decode cX3_seek 49 = .ok (.aload_n 0, 1) := by decide +kernel
theorem dX3_seek_50 : decode cX3_seek 50 = .ok (.invokevirtual 40, 3) := by decide +kernel
theorem dX3_seek_53 : decode cX3_seek 53 = .ok (.ifCond .ne 10, 3) := by decide +kernel
theorem dX3_seek_56 : decode cX3_seek 56 = .ok (.aload_n 0, 1) := by decide +kernel
theorem dX3_seek_57 : decode cX3_seek 57 = .ok (.invokevirtual 43, 3) := by decide +kernel
theorem dX3_seek_60 : decode cX3_seek 60 = .ok (.ifCond .eq 7, 3) := by decide +kernel
theorem dX3_seek_63 : decode cX3_seek 63 = .ok (.iconst 1, 1) := by decide +kernel
theorem dX3_seek_64 : decode cX3_seek 64 = .ok (.goto 4, 3) := by decide +kernel
theorem dX3_seek_67 : decode cX3_seek 67 = .ok (.iconst 0, 1) := by decide +kernel
theorem dX3_seek_68 : decode cX3_seek 68 = .ok (.ireturn, 1) := by decide +kernel
theorem dX3_seekOne_0 : decode cX3_seekOne 0 = .ok (.iconst 0, 1) := by decide +kernel
theorem dX3_seekOne_1 : decode cX3_seekOne 1 = .ok (.istore_n 1, 1) := by decide +kernel
theorem dX3_seekOne_2 : decode cX3_seekOne 2 = .ok (.iload_n 1, 1) := by decide +kernel
theorem dX3_seekOne_3 : decode cX3_seekOne 3 = .ok (.aload_n 0, 1) := by decide +kernel
theorem dX3_seekOne_4 : decode cX3_seekOne 4 = .ok (.getfield 15, 3) := by decide +kernel
theorem dX3_seekOne_7 : decode cX3_seekOne 7 = .ok (.getfield 46, 3) := by decide +kernel
theorem dX3_seekOne_10 : decode cX3_seekOne 10 = .ok (.if_icmp .ge 34, 3) := by decide +kernel
theorem dX3_seekOne_13 : decode cX3_seekOne 13 = .ok (.aload_n 0, 1) := by decide +kernel
theorem dX3_seekOne_14 : decode cX3_seekOne 14 = .ok (.getfield 15, 3) := by decide +kernel
theorem dX3_seekOne_17 : decode cX3_seekOne 17 = .ok (.getfield 51, 3) := by decide +kernel
theorem dX3_seekOne_20 : decode cX3_seekOne 20 = .ok (.iload_n 1, 1) := by decide +kernel
theorem dX3_seekOne_21 : decode cX3_seekOne 21 = .ok (.aaload, 1) := by decide +kernel
theorem dX3_seekOne_22 : decode cX3_seekOne 22 = .ok (.getfield 55, 3) := by decide +kernel
theorem dX3_seekOne_25 : decode cX3_seekOne 25 = .ok (.ifCond .ne 13, 3) := by decide +kernel
theorem dX3_seekOne_28 : decode cX3_seekOne 28 = .ok (.aload_n 0, 1) := by decide +kernel
theorem dX3_seekOne_29 : decode cX3_seekOne 29 = .ok (.iload_n 1, 1) := by decide +kernel
theorem dX3_seekOne_30 : decode cX3_seekOne 30 = .ok (.invokevirtual 61, 3) := by decide +kernel
theorem dX3_seekOne_33 : decode cX3_seekOne 33 = .ok (.ifCond .eq 5, 3) := by decide +kernel
theorem dX3_seekOne_36 : decode cX3_seekOne 36 = .ok (.iconst 1, 1) := by decide +kernel
theorem dX3_seekOne_37 : decode cX3_seekOne 37 = .ok (.ireturn, 1) := by decide +kernel
theorem dX3_seekOne_38 : decode cX3_seekOne 38 = .ok (.iinc 1 1, 3) := by decide +kernel
theorem dX3_seekOne_41 : decode cX3_seekOne 41 = .ok (.goto (-39), 3) := by decide +kernel
theorem dX3_seekOne_44 : decode cX3_seekOne 44 = .ok (.iconst 0, 1) := by decide +kernel
theorem dX3_seekOne_45 : decode cX3_seekOne 45 = .ok (.ireturn, 1) := by decide +kernel
theorem dX3_seekTwo_0 : decode cX3_seekTwo 0 = .ok (.iconst 1, 1) := by decide +kernel
theorem dX3_seekTwo_1 : decode cX3_seekTwo 1 = .ok (.istore_n 1, 1) := by decide +kernel
theorem dX3_seekTwo_2 : decode cX3_seekTwo 2 = .ok (.iload_n 1, 1) := by decide +kernel
theorem dX3_seekTwo_3 : decode cX3_seekTwo 3 = .ok (.aload_n 0, 1) := by decide +kernel
theorem dX3_seekTwo_4 : decode cX3_seekTwo 4 = .ok (.getfield 15, 3) := by decide +kernel
theorem dX3_seekTwo_7 : decode cX3_seekTwo 7 = .ok (.getfield 46, 3) := by decide +kernel
theorem dX3_seekTwo_10 : decode cX3_seekTwo 10 = .ok (.if_icmp .ge 73, 3) := by decide +kernel
theorem dX3_seekTwo_13 : decode cX3_seekTwo 13 = .ok (.iconst 0, 1) := by decide +kernel
theorem dX3_seekTwo_14 : decode cX3_seekTwo 14 = .ok (.istore_n 2, 1) := by decide +kernel
theorem dX3_seekTwo_15 : decode cX3_seekTwo 15 = .ok (.iload_n 2, 1) := by decide +kernel
theorem dX3_seekTwo_16 : decode cX3_seekTwo 16 = .ok (.iload_n 1, 1) := by decide +kernel
theorem dX3_seekTwo_17 : decode cX3_seekTwo 17 = .ok (.if_icmp .ge 60, 3) := by decide +kernel
theorem dX3_seekTwo_20 : decode cX3_seekTwo 20 = .ok (.aload_n 0, 1) := by decide +kernel
theorem dX3_seekTwo_21 : decode cX3_seekTwo 21 = .ok (.getfield 15, 3) := by decide +kernel
theorem dX3_seekTwo_24 : decode cX3_seekTwo 24 = .ok (.getfield 51, 3) := by decide +kernel
theorem dX3_seekTwo_27 : decode cX3_seekTwo 27 = .ok (.iload_n 2, 1) := by decide +kernel
theorem dX3_seekTwo_28 : decode cX3_seekTwo 28 = .ok (.aaload, 1) := by decide +kernel
theorem dX3_seekTwo_29 : decode cX3_seekTwo 29 = .ok (.getfield 55, 3) := by decide +kernel
theorem dX3_seekTwo_32 : decode cX3_seekTwo 32 = .ok (.ifCond .ne 18, 3) := by decide +kernel
theorem dX3_seekTwo_35 : decode cX3_seekTwo 35 = .ok (.aload_n 0, 1) := by decide +kernel
theorem dX3_seekTwo_36 : decode cX3_seekTwo 36 = .ok (.getfield 15, 3) := by decide +kernel
theorem dX3_seekTwo_39 : decode cX3_seekTwo 39 = .ok (.getfield 51, 3) := by decide +kernel
theorem dX3_seekTwo_42 : decode cX3_seekTwo 42 = .ok (.iload_n 1, 1) := by decide +kernel
theorem dX3_seekTwo_43 : decode cX3_seekTwo 43 = .ok (.aaload, 1) := by decide +kernel
theorem dX3_seekTwo_44 : decode cX3_seekTwo 44 = .ok (.getfield 55, 3) := by decide +kernel
theorem dX3_seekTwo_47 : decode cX3_seekTwo 47 = .ok (.ifCond .eq 7, 3) := by decide +kernel
theorem dX3_seekTwo_50 : decode cX3_seekTwo 50 = .ok (.iconst 1, 1) := by decide +kernel
theorem dX3_seekTwo_51 : decode cX3_seekTwo 51 = .ok (.goto 4, 3) := by decide +kernel
theorem dX3_seekTwo_54 : decode cX3_seekTwo 54 = .ok (.iconst 0, 1) := by decide +kernel
theorem dX3_seekTwo_55 : decode cX3_seekTwo 55 = .ok (.istore_n 3, 1) := by decide +kernel
theorem dX3_seekTwo_56 : decode cX3_seekTwo 56 = .ok (.iload_n 3, 1) := by decide +kernel
theorem dX3_seekTwo_57 : decode cX3_seekTwo 57 = .ok (.ifCond .ne 14, 3) := by decide +kernel
theorem dX3_seekTwo_60 : decode cX3_seekTwo 60 = .ok (.aload_n 0, 1) := by decide +kernel
theorem dX3_seekTwo_61 : decode cX3_seekTwo 61 = .ok (.iload_n 2, 1) := by decide +kernel
theorem dX3_seekTwo_62 : decode cX3_seekTwo 62 = .ok (.iload_n 1, 1) := by decide +kernel
theorem dX3_seekTwo_63 : decode cX3_seekTwo 63 = .ok (.invokevirtual 65, 3) := by decide +kernel
theorem dX3_seekTwo_66 : decode cX3_seekTwo 66 = .ok (.ifCond .eq 5, 3) := by decide +kernel
theorem dX3_seekTwo_69 : decode cX3_seekTwo 69 = .ok (.iconst 1, 1) := by decide +kernel
theorem dX3_seekTwo_70 : decode cX3_seekTwo 70 = .ok (.ireturn, 1) := by decide +kernel
theorem dX3_seekTwo_71 : decode cX3_seekTwo 71 = .ok (.iinc 2 1, 3) := by decide +kernel
theorem dX3_seekTwo_74 : decode cX3_seekTwo 74 = .ok (.goto (-59), 3) := by decide +kernel
theorem dX3_seekTwo_77 : decode cX3_seekTwo 77 = .ok (.iinc 1 1, 3) := by decide +kernel
theorem dX3_seekTwo_80 : decode cX3_seekTwo 80 = .ok (.goto (-78), 3) := by decide +kernel
theorem dX3_seekTwo_83 : decode cX3_seekTwo 83 = .ok (.iconst 0, 1) := by decide +kernel
theorem dX3_seekTwo_84 : decode cX3_seekTwo 84 = .ok (.ireturn, 1) := by decide +kernel
theorem dX3_isOneEnough_0 : decode cX3_isOneEnough 0 = .ok (.aload_n 0, 1) := by decide +kernel
theorem dX3_isOneEnough_1 : decode cX3_isOneEnough 1 = .ok (.getfield 15, 3) := by decide +kernel
theorem dX3_isOneEnough_4 : decode cX3_isOneEnough 4 = .ok (.getfield 51, 3) := by decide +kernel
theorem dX3_isOneEnough_7 : decode cX3_isOneEnough 7 = .ok (.iload_n 1, 1) := by decide +kernel
theorem dX3_isOneEnough_8 : decode cX3_isOneEnough 8 = .ok (.aaload, 1) := by decide +kernel
theorem dX3_isOneEnough_9 : decode cX3_isOneEnough 9 = .ok (.getfield 69, 3) := by decide +kernel
theorem dX3_isOneEnough_12 : decode cX3_isOneEnough 12 = .ok (.istore_n 2, 1) := by decide +kernel
theorem dX3_isOneEnough_13 : decode cX3_isOneEnough 13 = .ok (.iconst 0, 1) := by decide +kernel
theorem dX3_isOneEnough_14 : decode cX3_isOneEnough 14 = .ok (.istore_n 3, 1) := by decide +kernel
theorem dX3_isOneEnough_15 : decode cX3_isOneEnough 15 = .ok (.iload_n 3, 1) := by decide +kernel
theorem dX3_isOneEnough_16 : decode cX3_isOneEnough 16 = .ok (.bipush 8, 2) := by decide +kernel
theorem dX3_isOneEnough_18 : decode cX3_isOneEnough 18 = .ok (.if_icmp .gt 48, 3) := by decide +kernel
theorem dX3_isOneEnough_21 : decode cX3_isOneEnough 21 = .ok (.iload_n 3, 1) := by decide +kernel
theorem dX3_isOneEnough_22 : decode cX3_isOneEnough 22 = .ok (.iload_n 2, 1) := by decide +kernel
theorem dX3_isOneEnough_23 : decode cX3_isOneEnough 23 = .ok (.if_icmp .eq 37, 3) := by decide +kernel
theorem dX3_isOneEnough_26 : decode cX3_isOneEnough 26 = .ok (.aload_n 0, 1) := by decide +kernel
theorem dX3_isOneEnough_27 : decode cX3_isOneEnough 27 = .ok (.getfield 9, 3) := by decide +kernel
theorem dX3_isOneEnough_30 : decode cX3_isOneEnough 30 = .ok (.iload_n 1, 1) := by decide +kernel
theorem dX3_isOneEnough_31 : decode cX3_isOneEnough 31 = .ok (.iload_n 3, 1) := by decide +kernel
theorem dX3_isOneEnough_32 : decode cX3_isOneEnough 32 = .ok (.iastore, 1) := by decide +kernel
theorem dX3_isOneEnough_33 : decode cX3_isOneEnough 33 = .ok (.aload_n 0, 1) := by decide +kernel
theorem dX3_isOneEnough_34 : decode cX3_isOneEnough 34 = .ok (.getfield 19, 3) := by decide +kernel
theorem dX3_isOneEnough_37 : decode cX3_isOneEnough 37 = .ok (.getfield 72, 3) := by decide +kernel
theorem dX3_isOneEnough_40 : decode cX3_isOneEnough 40 = .ok (.iload_n 1, 1) := by decide +kernel
theorem dX3_isOneEnough_41 : decode cX3_isOneEnough 41 = .ok (.aload_n 0, 1) := by decide +kernel
theorem dX3_isOneEnough_42 : decode cX3_isOneEnough 42 = .ok (.getfield 15, 3) := by decide +kernel
theorem dX3_isOneEnough_45 : decode cX3_isOneEnough 45 = .ok (.iload_n 1, 1) := by decide +kernel
theorem dX3_isOneEnough_46 : decode cX3_isOneEnough 46 = .ok (.iload_n 3, 1) := by decide +kernel
theorem dX3_isOneEnough_47 : decode cX3_isOneEnough 47 = .ok (.invokevirtual 75, 3) := by decide +kernel
theorem dX3_isOneEnough_50 : decode cX3_isOneEnough 50 = .ok (.iastore, 1) := by decide +kernel
theorem dX3_isOneEnough_51 : decode cX3_isOneEnough 51 = .ok (.aload_n 0, 1) := by decide +kernel
theorem dX3_isOneEnough_52 : decode cX3_isOneEnough 52 = .ok (.invokevirtual 36, 3) := by decide +kernel
theorem dX3_isOneEnough_55 : decode cX3_isOneEnough 55 = .ok (.ifCond .eq 5, 3) := by decide +kernel
theorem dX3_isOneEnough_58 : decode cX3_isOneEnough 58 = .ok (.iconst 1, 1) := by decide +kernel
theorem dX3_isOneEnough_59 : decode cX3_isOneEnough 59 = .ok (.ireturn, 1) := by decide +kernel
theorem dX3_isOneEnough_60 : decode cX3_isOneEnough 60 = .ok (.iinc 3 1, 3) := by decide +kernel
theorem dX3_isOneEnough_63 : decode cX3_isOneEnough 63 = .ok (.goto (-48), 3) := by decide +kernel
theorem dX3_isOneEnough_66 : decode cX3_isOneEnough 66 = .ok (.aload_n 0, 1) := by decide +kernel
theorem dX3_isOneEnough_67 : decode cX3_isOneEnough 67 = .ok (.getfield 9, 3) := by decide +kernel
theorem dX3_isOneEnough_70 : decode cX3_isOneEnough 70 = .ok (.iload_n 1, 1) := by decide +kernel
theorem dX3_isOneEnough_71 : decode cX3_isOneEnough 71 = .ok (.iconst (-1), 1) := by decide +kernel
theorem dX3_isOneEnough_72 : decode cX3_isOneEnough 72 = .ok (.iastore, 1) := by decide +kernel
theorem dX3_isOneEnough_73 : decode cX3_isOneEnough 73 = .ok (.aload_n 0, 1) := by decide +kernel
theorem dX3_isOneEnough_74 : decode cX3_isOneEnough 74 = .ok (.getfield 19, 3) := by decide +kernel
theorem dX3_isOneEnough_77 : decode cX3_isOneEnough 77 = .ok (.getfield 72, 3) := by decide +kernel
theorem dX3_isOneEnough_80 : decode cX3_isOneEnough 80 = .ok (.iload_n 1, 1) := by decide +kernel
theorem dX3_isOneEnough_81 : decode cX3_isOneEnough 81 = .ok (.aload_n 0, 1) := by decide +kernel
theorem dX3_isOneEnough_82 : decode cX3_isOneEnough 82 = .ok (.getfield 15, 3) := by decide +kernel
theorem dX3_isOneEnough_85 : decode cX3_isOneEnough 85 = .ok (.iload_n 1, 1) := by decide +kernel
theorem dX3_isOneEnough_86 : decode cX3_isOneEnough 86 = .ok (.iload_n 2, 1) := by decide +kernel
theorem dX3_isOneEnough_87 : decode cX3_isOneEnough 87 = .ok (.invokevirtual 75, 3) := by decide +kernel
theorem dX3_isOneEnough_90 : decode cX3_isOneEnough 90 = .ok (.iastore, 1) := by decide +kernel
theorem dX3_isOneEnough_91 : decode cX3_isOneEnough 91 = .ok (.iconst 0, 1) := by decide +kernel
theorem dX3_isOneEnough_92 : decode cX3_isOneEnough 92 = .ok (.ireturn, 1) := by decide +kernel
theorem dX3_areTwoEnough_0 : decode cX3_areTwoEnough 0 = .ok (.aload_n 0, 1) := by decide +kernel
theorem dX3_areTwoEnough_1 : decode cX3_areTwoEnough 1 = .ok (.getfield 15, 3) := by decide +kernel
theorem dX3_areTwoEnough_4 : decode cX3_areTwoEnough 4 = .ok (.getfield 51, 3) := by decide +kernel
theorem dX3_areTwoEnough_7 : decode cX3_areTwoEnough 7 = .ok (.iload_n 1, 1) := by decide +kernel
theorem dX3_areTwoEnough_8 : decode cX3_areTwoEnough 8 = .ok (.aaload, 1) := by decide +kernel
theorem dX3_areTwoEnough_9 : decode cX3_areTwoEnough 9 = .ok (.getfield 69, 3) := by decide +kernel
theorem dX3_areTwoEnough_12 : decode cX3_areTwoEnough 12 = .ok (.istore_n 3, 1) := by decide +kernel
theorem dX3_areTwoEnough_13 : decode cX3_areTwoEnough 13 = .ok (.iconst 0, 1) := by decide +kernel
theorem dX3_areTwoEnough_14 : decode cX3_areTwoEnough 14 = .ok (.istore 4, 2) := by decide +kernel
theorem dX3_areTwoEnough_16 : decode cX3_areTwoEnough 16 = .ok (.iload 4, 2) := by decide +kernel
theorem dX3_areTwoEnough_18 : decode cX3_areTwoEnough 18 = .ok (.bipush 8, 2) := by decide +kernel
theorem dX3_areTwoEnough_20 : decode cX3_areTwoEnough 20 = .ok (.if_icmp .gt 52, 3) := by decide +kernel
theorem dX3_areTwoEnough_23 : decode cX3_areTwoEnough 23 = .ok (.iload 4, 2) := by decide +kernel
theorem dX3_areTwoEnough_25 : decode cX3_areTwoEnough 25 = .ok (.iload_n 3, 1) := by decide +kernel
theorem dX3_areTwoEnough_26 : decode cX3_areTwoEnough 26 = .ok (.if_icmp .eq 40, 3) := by decide +kernel
theorem dX3_areTwoEnough_29 : decode cX3_areTwoEnough 29 = .ok (.aload_n 0, 1) := by decide +kernel
theorem dX3_areTwoEnough_30 : decode cX3_areTwoEnough 30 = .ok (.getfield 9, 3) := by decide +kernel
theorem dX3_areTwoEnough_33 : decode cX3_areTwoEnough 33 = .ok (.iload_n 1, 1) := by decide +kernel
theorem dX3_areTwoEnough_34 : decode cX3_areTwoEnough 34 = .ok (.iload 4, 2) := by decide +kernel
theorem dX3_areTwoEnough_36 : decode cX3_areTwoEnough 36 = .ok (.iastore, 1) := by decide +kernel
theorem dX3_areTwoEnough_37 : decode cX3_areTwoEnough 37 = .ok (.aload_n 0, 1) := by decide +kernel
theorem dX3_areTwoEnough_38 : decode cX3_areTwoEnough 38 = .ok (.getfield 19, 3) := by decide +kernel
theorem dX3_areTwoEnough_41 : decode cX3_areTwoEnough 41 = .ok (.getfield 72, 3) := by decide +kernel
theorem dX3_areTwoEnough_44 : decode cX3_areTwoEnough 44 = .ok (.iload_n 1, 1) := by decide +kernel
theorem dX3_areTwoEnough_45 : decode cX3_areTwoEnough 45 = .ok (.aload_n 0, 1) := by decide +kernel
theorem dX3_areTwoEnough_46 : decode cX3_areTwoEnough 46 = .ok (.getfield 15, 3) := by decide +kernel
theorem dX3_areTwoEnough_49 : decode cX3_areTwoEnough 49 = .ok (.iload_n 1, 1) := by decide +kernel
theorem dX3_areTwoEnough_50 : decode cX3_areTwoEnough 50 = .ok (.iload 4, 2) := by decide +kernel
theorem dX3_areTwoEnough_52 : decode cX3_areTwoEnough 52 = .ok (.invokevirtual 75, 3) := by decide +kernel
theorem dX3_areTwoEnough_55 : decode cX3_areTwoEnough 55 = .ok (.iastore, 1) := by decide +kernel
theorem dX3_areTwoEnough_56 : decode cX3_areTwoEnough 56 = .ok (.aload_n 0, 1) := by decide +kernel
theorem dX3_areTwoEnough_57 : decode cX3_areTwoEnough 57 = .ok (.iload_n 2, 1) := by decide +kernel
theorem dX3_areTwoEnough_58 : decode cX3_areTwoEnough 58 = .ok (.invokevirtual 61, 3) := by decide +kernel
theorem dX3_areTwoEnough_61 : decode cX3_areTwoEnough 61 = .ok (.ifCond .eq 5, 3) := by decide +kernel
theorem dX3_areTwoEnough_64 : decode cX3_areTwoEnough 64 = .ok (.iconst 1, 1) := by decide +kernel
theorem dX3_areTwoEnough_65 : decode cX3_areTwoEnough 65 = .ok (.ireturn, 1) := by decide +kernel
theorem dX3_areTwoEnough_66 : decode cX3_areTwoEnough 66 = .ok (.iinc 4 1, 3) := by decide +kernel
theorem dX3_areTwoEnough_69 : decode cX3_areTwoEnough 69 = .ok (.goto (-53), 3) := by decide +kernel
theorem dX3_areTwoEnough_72 : decode cX3_areTwoEnough 72 = .ok (.aload_n 0, 1) := by decide +kernel
theorem dX3_areTwoEnough_73 : decode cX3_areTwoEnough 73 = .ok (.getfield 9, 3) := by decide +kernel
theorem dX3_areTwoEnough_76 : decode cX3_areTwoEnough 76 = .ok (.iload_n 1, 1) := by decide +kernel
theorem dX3_areTwoEnough_77 : decode cX3_areTwoEnough 77 = .ok (.iconst (-1), 1) := by decide +kernel
theorem dX3_areTwoEnough_78 : decode cX3_areTwoEnough 78 = .ok (.iastore, 1) := by decide +kernel
theorem dX3_areTwoEnough_79 : decode cX3_areTwoEnough 79 = .ok (.aload_n 0, 1) := by decide +kernel
theorem dX3_areTwoEnough_80 : decode cX3_areTwoEnough 80 = .ok (.getfield 19, 3) := by decide +kernel
theorem dX3_areTwoEnough_83 : decode cX3_areTwoEnough 83 = .ok (.getfield 72, 3) := by decide +kernel
theorem dX3_areTwoEnough_86 : decode cX3_areTwoEnough 86 = .ok (.iload_n 1, 1) := by decide +kernel
theorem dX3_areTwoEnough_87 : decode cX3_areTwoEnough 87 = .ok (.aload_n 0, 1) := by decide +kernel
theorem dX3_areTwoEnough_88 : decode cX3_areTwoEnough 88 = .ok (.getfield 15, 3) := by decide +kernel
theorem dX3_areTwoEnough_91 : decode cX3_areTwoEnough 91 = .ok (.iload_n 1, 1) := by decide +kernel
theorem dX3_areTwoEnough_92 : decode cX3_areTwoEnough 92 = .ok (.iload_n 3, 1) := by decide +kernel
theorem dX3_areTwoEnough_93 : decode cX3_areTwoEnough 93 = .ok (.invokevirtual 75, 3) := by decide +kernel
theorem dX3_areTwoEnough_96 : decode cX3_areTwoEnough 96 = .ok (.iastore, 1) := by decide +kernel
theorem dX3_areTwoEnough_97 : decode cX3_areTwoEnough 97 = .ok (.iconst 0, 1) := by decide +kernel
theorem dX3_areTwoEnough_98 : decode cX3_areTwoEnough 98 = .ok (.ireturn, 1) := by decide +kernel
theorem dX3_isGood_0 : decode cX3_isGood 0 = .ok (.aload_n 0, 1) := by decide +kernel
theorem dX3_isGood_1 : decode cX3_isGood 1 = .ok (.getfield 19, 3) := by decide +kernel
theorem dX3_isGood_4 : decode cX3_isGood 4 = .ok (.invokevirtual 78, 3) := by decide +kernel
theorem dX3_isGood_7 : decode cX3_isGood 7 = .ok (.iconst 0, 1) := by decide +kernel
theorem dX3_isGood_8 : decode cX3_isGood 8 = .ok (.istore_n 1, 1) := by decide +kernel
theorem dX3_isGood_9 : decode cX3_isGood 9 = .ok (.iload_n 1, 1) := by decide +kernel
theorem dX3_isGood_10 : decode cX3_isGood 10 = .ok (.aload_n 0, 1) := by decide +kernel
theorem dX3_isGood_11 : decode cX3_isGood 11 = .ok (.getfield 27, 3) := by decide +kernel
theorem dX3_isGood_14 : decode cX3_isGood 14 = .ok (.if_icmp .ge 16, 3) := by decide +kernel
theorem dX3_isGood_17 : decode cX3_isGood 17 = .ok (.aload_n 0, 1) := by decide +kernel
theorem dX3_isGood_18 : decode cX3_isGood 18 = .ok (.getfield 19, 3) := by decide +kernel
theorem dX3_isGood_21 : decode cX3_isGood 21 = .ok (.invokevirtual 81, 3) := by decide +kernel
theorem dX3_isGood_24 : decode cX3_isGood 24 = .ok (.iinc 1 1, 3) := by decide +kernel
theorem dX3_isGood_27 : decode cX3_isGood 27 = .ok (.goto (-18), 3) := by decide +kernel
theorem dX3_isGood_30 : decode cX3_isGood 30 = .ok (.aload_n 0, 1) := by decide +kernel
theorem dX3_isGood_31 : decode cX3_isGood 31 = .ok (.getfield 19, 3) := by decide +kernel
theorem dX3_isGood_34 : decode cX3_isGood 34 = .ok (.aload_n 0, 1) := by decide +kernel
theorem dX3_isGood_35 : decode cX3_isGood 35 = .ok (.getfield 23, 3) := by decide +kernel
theorem dX3_isGood_38 : decode cX3_isGood 38 = .ok (.invokevirtual 84, 3) := by decide +kernel
theorem dX3_isGood_41 : decode cX3_isGood 41 = .ok (.ireturn, 1) := by decide +kernel
theorem dX3_tell_0 : decode cX3_tell 0 = .ok (.iconst 0, 1) := by decide +kernel
theorem dX3_tell_1 : decode cX3_tell 1 = .ok (.istore_n 2, 1) := by decide +kernel
theorem dX3_tell_2 : decode cX3_tell 2 = .ok (.iconst 0, 1) := by decide +kernel
theorem dX3_tell_3 : decode cX3_tell 3 = .ok (.istore_n 3, 1) := by decide +kernel
theorem dX3_tell_4 : decode cX3_tell 4 = .ok (.iconst 0, 1) := by decide +kernel
theorem dX3_tell_5 : decode cX3_tell 5 = .ok (.istore 4, 2) := by decide +kernel
theorem dX3_tell_7 : decode cX3_tell 7 = .ok (.iconst (-1), 1) := by decide +kernel
theorem dX3_tell_8 : decode cX3_tell 8 = .ok (.istore 5, 2) := by decide +kernel
theorem dX3_tell_10 : decode cX3_tell 10 = .ok (.iconst (-1), 1) := by decide +kernel
theorem dX3_tell_11 : decode cX3_tell 11 = .ok (.istore 6, 2) := by decide +kernel
theorem dX3_tell_13 : decode cX3_tell 13 = .ok (.iconst 0, 1) := by decide +kernel
theorem dX3_tell_14 : decode cX3_tell 14 = .ok (.istore 7, 2) := by decide +kernel
theorem dX3_tell_16 : decode cX3_tell 16 = .ok (.iload 7, 2) := by decide +kernel
theorem dX3_tell_18 : decode cX3_tell 18 = .ok (.aload_n 0, 1) := by decide +kernel
theorem dX3_tell_19 : decode cX3_tell 19 = .ok (.getfield 15, 3) := by decide +kernel
theorem dX3_tell_22 : decode cX3_tell 22 = .ok (.getfield 46, 3) := by decide +kernel
theorem dX3_tell_25 : decode cX3_tell 25 = .ok (.if_icmp .ge 84, 3) := by decide +kernel
theorem dX3_tell_28 : decode cX3_tell 28 = .ok (.aload_n 0, 1) := by decide +kernel
theorem dX3_tell_29 : decode cX3_tell 29 = .ok (.getfield 9, 3) := by decide +kernel
theorem dX3_tell_32 : decode cX3_tell 32 = .ok (.iload 7, 2) := by decide +kernel
theorem dX3_tell_34 : decode cX3_tell 34 = .ok (.iaload, 1) := by decide +kernel
theorem dX3_tell_35 : decode cX3_tell 35 = .ok (.ifCond .lt 68, 3) := by decide +kernel
theorem dX3_tell_38 : decode cX3_tell 38 = .ok (.iinc 2 1, 3) := by decide +kernel
theorem dX3_tell_41 : decode cX3_tell 41 = .ok (.iload_n 3, 1) := by decide +kernel
theorem dX3_tell_42 : decode cX3_tell 42 = .ok (.iconst 1, 1) := by decide +kernel
theorem dX3_tell_43 : decode cX3_tell 43 = .ok (.iload 7, 2) := by decide +kernel
theorem dX3_tell_45 : decode cX3_tell 45 = .ok (.ishl, 1) := by decide +kernel
theorem dX3_tell_46 : decode cX3_tell 46 = .ok (.ior, 1) := by decide +kernel
theorem dX3_tell_47 : decode cX3_tell 47 = .ok (.istore_n 3, 1) := by decide +kernel
theorem dX3_tell_48 : decode cX3_tell 48 = .ok (.iload 4, 2) := by decide +kernel
theorem dX3_tell_50 : decode cX3_tell 50 = .ok (.aload_n 0, 1) := by decide +kernel
theorem dX3_tell_51 : decode cX3_tell 51 = .ok (.getfield 9, 3) := by decide +kernel
theorem dX3_tell_54 : decode cX3_tell 54 = .ok (.iload 7, 2) := by decide +kernel
theorem dX3_tell_56 : decode cX3_tell 56 = .ok (.iaload, 1) := by decide +kernel
theorem dX3_tell_57 : decode cX3_tell 57 = .ok (.aload_n 0, 1) := by decide +kernel
theorem dX3_tell_58 : decode cX3_tell 58 = .ok (.getfield 15, 3) := by decide +kernel
theorem dX3_tell_61 : decode cX3_tell 61 = .ok (.getfield 51, 3) := by decide +kernel
theorem dX3_tell_64 : decode cX3_tell 64 = .ok (.iload 7, 2) := by decide +kernel
theorem dX3_tell_66 : decode cX3_tell 66 = .ok (.aaload, 1) := by decide +kernel
theorem dX3_tell_67 : decode cX3_tell 67 = .ok (.getfield 69, 3) := by decide +kernel
theorem dX3_tell_70 : decode cX3_tell 70 = .ok (.isub, 1) := by decide +kernel
theorem dX3_tell_71 : decode cX3_tell 71 = .ok (.invokestatic 87, 3) := by decide +kernel
theorem dX3_tell_74 : decode cX3_tell 74 = .ok (.iadd, 1) := by decide +kernel
theorem dX3_tell_75 : decode cX3_tell 75 = .ok (.istore 4, 2) := by decide +kernel
theorem dX3_tell_77 : decode cX3_tell 77 = .ok (.iload_n 2, 1) := by decide +kernel
theorem dX3_tell_78 : decode cX3_tell 78 = .ok (.iconst 1, 1) := by decide +kernel
theorem dX3_tell_79 : decode cX3_tell 79 = .ok (.if_icmp .ne 15, 3) := by decide +kernel
theorem dX3_tell_82 : decode cX3_tell 82 = .ok (.aload_n 0, 1) := by decide +kernel
theorem dX3_tell_83 : decode cX3_tell 83 = .ok (.getfield 9, 3) := by decide +kernel
theorem dX3_tell_86 : decode cX3_tell 86 = .ok (.iload 7, 2) := by decide +kernel
theorem dX3_tell_88 : decode cX3_tell 88 = .ok (.iaload, 1) := by decide +kernel
theorem dX3_tell_89 : decode cX3_tell 89 = .ok (.istore 5, 2) := by decide +kernel
theorem dX3_tell_91 : decode cX3_tell 91 = .ok (.goto 12, 3) := by decide +kernel
theorem dX3_tell_94 : decode cX3_tell 94 = .ok (.aload_n 0, 1) := by decide +kernel
theorem dX3_tell_95 : decode cX3_tell 95 = .ok (.getfield 9, 3) := by decide +kernel
theorem dX3_tell_98 : decode cX3_tell 98 = .ok (.iload 7, 2) := by decide +kernel
theorem dX3_tell_100 : decode cX3_tell 100 = .ok (.iaload, 1) := by decide +kernel
theorem dX3_tell_101 : decode cX3_tell 101 = .ok (.istore 6, 2) := by decide +kernel
theorem dX3_tell_103 : decode cX3_tell 103 = .ok (.iinc 7 1, 3) := by decide +kernel
theorem dX3_tell_106 : decode cX3_tell 106 = .ok (.goto (-90), 3) := by decide +kernel
theorem dX3_tell_109 : decode cX3_tell 109 = .ok (.iload_n 1, 1) := by decide +kernel
theorem dX3_tell_110 : decode cX3_tell 110 = .ok (.tableswitch 40 0 3 #[30, 32, 34, 37], 30) := by decide +kernel
theorem dX3_tell_140 : decode cX3_tell 140 = .ok (.iload_n 2, 1) := by decide +kernel
theorem dX3_tell_141 : decode cX3_tell 141 = .ok (.ireturn, 1) := by decide +kernel
theorem dX3_tell_142 : decode cX3_tell 142 = .ok (.iload_n 3, 1) := by decide +kernel
theorem dX3_tell_143 : decode cX3_tell 143 = .ok (.ireturn, 1) := by decide +kernel
theorem dX3_tell_144 : decode cX3_tell 144 = .ok (.iload 4, 2) := by decide +kernel
theorem dX3_tell_146 : decode cX3_tell 146 = .ok (.ireturn, 1) := by decide +kernel
theorem dX3_tell_147 : decode cX3_tell 147 = .ok (.iload 5, 2) := by decide +kernel
theorem dX3_tell_149 : decode cX3_tell 149 = .ok (.ireturn, 1) := by decide +kernel
theorem dX3_tell_150 : decode cX3_tell 150 = .ok (.iload 6, 2) := by decide +kernel
theorem dX3_tell_152 : decode cX3_tell 152 = .ok (.ireturn, 1) := by decide +kernel
theorem dX4_init_0 : decode cX4_init 0 = .ok (.aload_n 0, 1) := by decide +kernel
theorem dX4_init_1 : decode cX4_init 1 = .ok (.invokespecial 3, 3) := by decide +kernel
theorem dX4_init_4 : decode cX4_init 4 = .ok (.return_, 1) := by decide +kernel
theorem dX4_becomeNew_0 : decode cX4_becomeNew 0 = .ok (.aload_n 0, 1) := by decide +kernel
theorem dX4_becomeNew_1 : decode cX4_becomeNew 1 = .ok (.iload_n 1, 1) := by decide +kernel
theorem dX4_becomeNew_2 : decode cX4_becomeNew 2 = .ok (.putfield 9, 3) := by decide +kernel
theorem dX4_becomeNew_5 : decode cX4_becomeNew 5 = .ok (.aload_n 0, 1) := by decide +kernel
theorem dX4_becomeNew_6 : decode cX4_becomeNew 6 = .ok (.iload_n 2, 1) := by decide +kernel
theorem dX4_becomeNew_7 : decode cX4_becomeNew 7 = .ok (.putfield 15, 3) := by decide +kernel
theorem dX4_becomeNew_10 : decode cX4_becomeNew 10 = .ok (.aload_n 0, 1) := by decide +kernel
theorem dX4_becomeNew_11 : decode cX4_becomeNew 11 = .ok (.iload_n 3, 1) := by decide +kernel
theorem dX4_becomeNew_12 : decode cX4_becomeNew 12 = .ok (.putfield 18, 3) := by decide +kernel
theorem dX4_becomeNew_15 : decode cX4_becomeNew 15 = .ok (.aload_n 0, 1) := by decide +kernel
theorem dX4_becomeNew_16 : decode cX4_becomeNew 16 = .ok (.iload 4, 2) := by decide +kernel
theorem dX4_becomeNew_18 : decode cX4_becomeNew 18 = .ok (.putfield 21, 3) := by decide +kernel
theorem dX4_becomeNew_21 : decode cX4_becomeNew 21 = .ok (.aload_n 0, 1) := by decide +kernel
theorem dX4_becomeNew_22 : decode cX4_becomeNew 22 = .ok (.iconst 4, 1) := by decide +kernel
theorem dX4_becomeNew_23 : decode cX4_becomeNew 23 = .ok (.putfield 24, 3) := by decide +kernel
theorem dX4_becomeNew_26 : decode cX4_becomeNew 26 = .ok (.aload_n 0, 1) := by decide +kernel
theorem dX4_becomeNew_27 : decode cX4_becomeNew 27 = .ok (.iconst 0, 1) := by decide +kernel
theorem dX4_becomeNew_28 : decode cX4_becomeNew 28 = .ok (.putfield 27, 3) := by decide +kernel
theorem dX4_becomeNew_31 : decode cX4_becomeNew 31 = .ok (.aload_n 0, 1) := by decide +kernel
theorem dX4_becomeNew_32 : decode cX4_becomeNew 32 = .ok (.iconst 0, 1) := by decide +kernel
theorem dX4_becomeNew_33 : decode cX4_becomeNew 33 = .ok (.putfield 31, 3) := by decide +kernel
theorem dX4_becomeNew_36 : decode cX4_becomeNew 36 = .ok (.aload_n 0, 1) := by decide +kernel
theorem dX4_becomeNew_37 : decode cX4_becomeNew 37 = .ok (.sipush 200, 3) := by decide +kernel
theorem dX4_becomeNew_40 : decode cX4_becomeNew 40 = .ok (.putfield 34, 3) := by decide +kernel
theorem dX4_becomeNew_43 : decode cX4_becomeNew 43 = .ok (.aload_n 0, 1) := by decide +kernel
theorem dX4_becomeNew_44 : decode cX4_becomeNew 44 = .ok (.iconst 0, 1) := by decide +kernel
theorem dX4_becomeNew_45 : decode cX4_becomeNew 45 = .ok (.putfield 37, 3) := by decide +kernel
theorem dX4_becomeNew_48 : decode cX4_becomeNew 48 = .ok (.aload_n 0, 1) := by decide +kernel
theorem dX4_becomeNew_49 : decode cX4_becomeNew 49 = .ok (.iconst 0, 1) := by decide +kernel
theorem dX4_becomeNew_50 : decode cX4_becomeNew 50 = .ok (.putfield 40, 3) := by decide +kernel
theorem dX4_becomeNew_53 : decode cX4_becomeNew 53 = .ok (.aload_n 0, 1) := by decide +kernel
theorem dX4_becomeNew_54 : decode cX4_becomeNew 54 = .ok (.iconst 0, 1) := by decide +kernel
theorem dX4_becomeNew_55 : decode cX4_becomeNew 55 = .ok (.putfield 43, 3) := by decide +kernel
theorem dX4_becomeNew_58 : decode cX4_becomeNew 58 = .ok (.aload_n 0, 1) := by decide +kernel
theorem dX4_becomeNew_59 : decode cX4_becomeNew 59 = .ok (.bipush 100, 2) := by decide +kernel
theorem dX4_becomeNew_61 : decode cX4_becomeNew 61 = .ok (.putfield 46, 3) := by decide +kernel
theorem dX4_becomeNew_64 : decode cX4_becomeNew 64 = .ok (.return_, 1) := by decide +kernel
theorem dX4_become_0 : decode cX4_become 0 = .ok (.aload_n 0, 1) := by decide +kernel
theorem dX4_become_1 : decode cX4_become 1 = .ok (.aload_n 1, 1) := by decide +kernel
theorem dX4_become_2 : decode cX4_become 2 = .ok (.getfield 9, 3) := by decide +kernel
theorem dX4_become_5 : decode cX4_become 5 = .ok (.aload_n 1, 1) := by decide +kernel
theorem dX4_become_6 : decode cX4_become 6 = .ok (.getfield 15, 3) := by decide +kernel
theorem dX4_become_9 : decode cX4_become 9 = .ok (.aload_n 1, 1) := by decide +kernel
theorem dX4_become_10 : decode cX4_become 10 = .ok (.getfield 18, 3) := by decide +kernel
theorem dX4_become_13 : decode cX4_become 13 = .ok (.aload_n 1, 1) := by decide +kernel
theorem dX4_become_14 : decode cX4_become 14 = .ok (.getfield 21, 3) := by decide +kernel
theorem dX4_become_17 : decode cX4_become 17 = .ok (.invokevirtual 49, 3) := by decide +kernel
theorem dX4_become_20 : decode cX4_become 20 = .ok (.aload_n 0, 1) := by decide +kernel
theorem dX4_become_21 : decode cX4_become 21 = .ok (.aload_n 1, 1) := by decide +kernel
theorem dX4_become_22 : decode cX4_become 22 = .ok (.getfield 24, 3) := by decide +kernel
theorem dX4_become_25 : decode cX4_become 25 = .ok (.putfield 24, 3) := by decide +kernel
theorem dX4_become_28 : decode cX4_become 28 = .ok (.aload_n 0, 1) := by decide +kernel
theorem dX4_become_29 : decode cX4_become 29 = .ok (.aload_n 1, 1) := by decide +kernel
theorem dX4_become_30 : decode cX4_become 30 = .ok (.getfield 27, 3) := by decide +kernel
theorem dX4_become_33 : decode cX4_become 33 = .ok (.putfield 27, 3) := by decide +kernel
theorem dX4_become_36 : decode cX4_become 36 = .ok (.aload_n 0, 1) := by decide +kernel
theorem dX4_become_37 : decode cX4_become 37 = .ok (.aload_n 1, 1) := by decide +kernel
theorem dX4_become_38 : decode cX4_become 38 = .ok (.getfield 31, 3) := by decide +kernel
theorem dX4_become_41 : decode cX4_become 41 = .ok (.putfield 31, 3) := by decide +kernel
theorem dX4_become_44 : decode cX4_become 44 = .ok (.aload_n 0, 1) := by decide +kernel
theorem dX4_become_45 : decode cX4_become 45 = .ok (.aload_n 1, 1) := by decide +kernel
theorem dX4_become_46 : decode cX4_become 46 = .ok (.getfield 34, 3) := by decide +kernel
theorem dX4_become_49 : decode cX4_become 49 = .ok (.putfield 34, 3) := by decide +kernel
theorem dX4_become_52 : decode cX4_become 52 = .ok (.aload_n 0, 1) := by decide +kernel
theorem dX4_become_53 : decode cX4_become 53 = .ok (.aload_n 1, 1) := by decide +kernel
theorem dX4_become_54 : decode cX4_become 54 = .ok (.getfield 37, 3) := by decide +kernel
theorem dX4_become_57 : decode cX4_become 57 = .ok (.putfield 37, 3) := by decide +kernel
theorem dX4_become_60 : decode cX4_become 60 = .ok (.aload_n 0, 1) := by decide +kernel
theorem dX4_become_61 : decode cX4_become 61 = .ok (.aload_n 1, 1) := by decide +kernel
theorem dX4_become_62 : decode cX4_become 62 = .ok (.getfield 40, 3) := by decide +kernel
theorem dX4_become_65 : decode cX4_become 65 = .ok (.putfield 40, 3) := by decide +kernel
theorem dX4_become_68 : decode cX4_become 68 = .ok (.aload_n 0, 1) := by decide +kernel
theorem dX4_become_69 : decode cX4_become 69 = .ok (.aload_n 1, 1) := by decide +kernel
theorem dX4_become_70 : decode cX4_become 70 = .ok (.getfield 43, 3) := by decide +kernel
theorem dX4_become_73 : decode cX4_become 73 = .ok (.putfield 43, 3) := by decide +kernel
theorem dX4_become_76 : decode cX4_become 76 = .ok (.aload_n 0, 1) := by decide +kernel
theorem dX4_become_77 : decode cX4_become 77 = .ok (.aload_n 1, 1) := by decide +kernel
theorem dX4_become_78 : decode cX4_become 78 = .ok (.getfield 46, 3) := by decide +kernel
theorem dX4_become_81 : decode cX4_become 81 = .ok (.putfield 46, 3) := by decide +kernel
theorem dX4_become_84 : decode cX4_become 84 = .ok (.return_, 1) := by decide +kernel
theorem dX4_leaks_0 : decode cX4_leaks 0 = .ok (.aload_n 0, 1) := by decide +kernel
theorem dX4_leaks_1 : decode cX4_leaks 1 = .ok (.iload_n 1, 1) := by decide +kernel
theorem dX4_leaks_2 : decode cX4_leaks 2 = .ok (.invokevirtual 53, 3) := by decide +kernel
theorem dX4_leaks_5 : decode cX4_leaks 5 = .ok (.aload_n 0, 1) := by decide +kernel
theorem dX4_leaks_6 : decode cX4_leaks 6 = .ok (.getfield 31, 3) := by decide +kernel
theorem dX4_leaks_9 : decode cX4_leaks 9 = .ok (.ifCond .eq 8, 3) := by decide +kernel
theorem dX4_leaks_12 : decode cX4_leaks 12 = .ok (.bipush 100, 2) := by decide +kernel
theorem dX4_leaks_14 : decode cX4_leaks 14 = .ok (.goto 4, 3) := by decide +kernel
theorem dX4_leaks_17 : decode cX4_leaks 17 = .ok (.iconst 0, 1) := by decide +kernel
theorem dX4_leaks_18 : decode cX4_leaks 18 = .ok (.iadd, 1) := by decide +kernel
theorem dX4_leaks_19 : decode cX4_leaks 19 = .ok (.ireturn, 1) := by decide +kernel
theorem dX4_leaksShut_0 : decode cX4_leaksShut 0 = .ok (.iload_n 1, 1) := by decide +kernel
theorem dX4_leaksShut_1 : decode cX4_leaksShut 1 = .ok (.iload_n 1, 1) := by decide +kernel
theorem dX4_leaksShut_2 : decode cX4_leaksShut 2 = .ok (.iconst 2, 1) := by decide +kernel
theorem dX4_leaksShut_3 : decode cX4_leaksShut 3 = .ok (.idiv, 1) := by decide +kernel
theorem dX4_leaksShut_4 : decode cX4_leaksShut 4 = .ok (.iadd, 1) := by decide +kernel
theorem dX4_leaksShut_5 : decode cX4_leaksShut 5 = .ok (.istore_n 2, 1) := by decide +kernel
theorem dX4_leaksShut_6 : decode cX4_leaksShut 6 = .ok (.aload_n 0, 1) := by decide +kernel
theorem dX4_leaksShut_7 : decode cX4_leaksShut 7 = .ok (.getfield 9, 3) := by decide +kernel
theorem dX4_leaksShut_10 : decode cX4_leaksShut 10 = .ok (.tableswitch 45 1 4 #[30, 32, 45, 40], 30) := by decide +kernel
theorem dX4_leaksShut_40 : decode cX4_leaksShut 40 = .ok (.iload_n 2, 1) := by decide +kernel
theorem dX4_leaksShut_41 : decode cX4_leaksShut 41 = .ok (.ireturn, 1) := by decide +kernel
theorem dX4_leaksShut_42 : decode cX4_leaksShut 42 = .ok (.iload_n 1, 1) := by decide +kernel
theorem dX4_leaksShut_43 : decode cX4_leaksShut 43 = .ok (.iload_n 1, 1) := by decide +kernel
theorem dX4_leaksShut_44 : decode cX4_leaksShut 44 = .ok (.iconst 3, 1) := by decide +kernel
theorem dX4_leaksShut_45 : decode cX4_leaksShut 45 = .ok (.idiv, 1) := by decide +kernel
theorem dX4_leaksShut_46 : decode cX4_leaksShut 46 = .ok (.isub, 1) := by decide +kernel
theorem dX4_leaksShut_47 : decode cX4_leaksShut 47 = .ok (.iconst 1, 1) := by decide +kernel
theorem dX4_leaksShut_48 : decode cX4_leaksShut 48 = .ok (.iadd, 1) := by decide +kernel
theorem dX4_leaksShut_49 : decode cX4_leaksShut 49 = .ok (.ireturn, 1) := by decide +kernel
theorem dX4_leaksShut_50 : decode cX4_leaksShut 50 = .ok (.iload_n 2, 1) := by decide +kernel
theorem dX4_leaksShut_51 : decode cX4_leaksShut 51 = .ok (.bipush 20, 2) := by decide +kernel
theorem dX4_leaksShut_53 : decode cX4_leaksShut 53 = .ok (.iadd, 1) := by decide +kernel
theorem dX4_leaksShut_54 : decode cX4_leaksShut 54 = .ok (.ireturn, 1) := by decide +kernel
theorem dX4_leaksShut_55 : decode cX4_leaksShut 55 = .ok (.iload_n 1, 1) := by decide +kernel
theorem dX4_leaksShut_56 : decode cX4_leaksShut 56 = .ok (.ireturn, 1) := by decide +kernel
theorem dX4_takes_0 : decode cX4_takes 0 = .ok (.iload_n 1, 1) := by decide +kernel
theorem dX4_takes_1 : decode cX4_takes 1 = .ok (.iconst 2, 1) := by decide +kernel
theorem dX4_takes_2 : decode cX4_takes 2 = .ok (.invokestatic 57, 3) := by decide +kernel
theorem dX4_takes_5 : decode cX4_takes 5 = .ok (.istore_n 2, 1) := by decide +kernel
theorem dX4_takes_6 : decode cX4_takes 6 = .ok (.aload_n 0, 1) := by decide +kernel
theorem dX4_takes_7 : decode cX4_takes 7 = .ok (.getfield 9, 3) := by decide +kernel
theorem dX4_takes_10 : decode cX4_takes 10 = .ok (.lookupswitch 32 #[(3, 26), (5, 28)], 26) := by decide +kernel
theorem dX4_takes_36 : decode cX4_takes 36 = .ok (.iload_n 2, 1) := by decide +kernel
theorem dX4_takes_37 : decode cX4_takes 37 = .ok (.ireturn, 1) := by decide +kernel
theorem dX4_takes_38 : decode cX4_takes 38 = .ok (.iload_n 2, 1) := by decide +kernel
theorem dX4_takes_39 : decode cX4_takes 39 = .ok (.iconst 1, 1) := by decide +kernel
theorem dX4_takes_40 : decode cX4_takes 40 = .ok (.iadd, 1) := by decide +kernel
theorem dX4_takes_41 : decode cX4_takes 41 = .ok (.ireturn, 1) := by decide +kernel
theorem dX4_takes_42 : decode cX4_takes 42 = .ok (.iload_n 1, 1) := by decide +kernel
theorem dX4_takes_43 : decode cX4_takes 43 = .ok (.ireturn, 1) := by decide +kernel
theorem dX4_isRightAboveOrBelow_0 : decode cX4_isRightAboveOrBelow 0 = .ok (.aload_n 0, 1) := by decide +kernel
theorem dX4_isRightAboveOrBelow_1 : decode cX4_isRightAboveOrBelow 1 = .ok (.getfield 15, 3) := by decide +kernel
theorem dX4_isRightAboveOrBelow_4 : decode cX4_isRightAboveOrBelow 4 = .ok (.aload_n 1, 1) := by decide +kernel
theorem dX4_isRightAboveOrBelow_5 : decode cX4_isRightAboveOrBelow 5 = .ok (.getfield 15, 3) := by decide +kernel
theorem dX4_isRightAboveOrBelow_8 : decode cX4_isRightAboveOrBelow 8 = .ok (.if_icmp .ne 23, 3) := by decide +kernel
theorem dX4_isRightAboveOrBelow_11 : decode cX4_isRightAboveOrBelow 11 = .ok (.aload_n 0, 1) := by decide +kernel
theorem dX4_isRightAboveOrBelow_12 : decode cX4_isRightAboveOrBelow 12 = .ok (.getfield 18, 3) := by decide +kernel
theorem dX4_isRightAboveOrBelow_15 : decode cX4_isRightAboveOrBelow 15 = .ok (.aload_n 1, 1) := by decide +kernel
theorem dX4_isRightAboveOrBelow_16 : decode cX4_isRightAboveOrBelow 16 = .ok (.getfield 18, 3) := by decide +kernel
theorem dX4_isRightAboveOrBelow_19 : decode cX4_isRightAboveOrBelow 19 = .ok (.isub, 1) := by decide +kernel
theorem dX4_isRightAboveOrBelow_20 : decode cX4_isRightAboveOrBelow 20 = .ok (.invokestatic 63, 3) := by decide +kernel
theorem dX4_isRightAboveOrBelow_23 : decode cX4_isRightAboveOrBelow 23 = .ok (.iconst 1, 1) := by decide +kernel
theorem dX4_isRightAboveOrBelow_24 : decode cX4_isRightAboveOrBelow 24 = .ok (.if_icmp .ne 7, 3) := by decide +kernel
theorem dX4_isRightAboveOrBelow_27 : decode cX4_isRightAboveOrBelow 27 = .ok (.iconst 1, 1) := by decide +kernel
theorem dX4_isRightAboveOrBelow_28 : decode cX4_isRightAboveOrBelow 28 = .ok (.goto 4, 3) := by decide +kernel
theorem dX4_isRightAboveOrBelow_31 : decode cX4_isRightAboveOrBelow 31 = .ok (.iconst 0, 1) := by decide +kernel
theorem dX4_isRightAboveOrBelow_32 : decode cX4_isRightAboveOrBelow 32 = .ok (.ireturn, 1) := by decide +kernel
theorem dX4_isBeside_0 : decode cX4_isBeside 0 = .ok (.aload_n 0, 1) := by decide +kernel
theorem dX4_isBeside_1 : decode cX4_isBeside 1 = .ok (.getfield 18, 3) := by decide +kernel
theorem dX4_isBeside_4 : decode cX4_isBeside 4 = .ok (.aload_n 1, 1) := by decide +kernel
theorem dX4_isBeside_5 : decode cX4_isBeside 5 = .ok (.getfield 18, 3) := by decide +kernel
theorem dX4_isBeside_8 : decode cX4_isBeside 8 = .ok (.if_icmp .ne 23, 3) := by decide +kernel
theorem dX4_isBeside_11 : decode cX4_isBeside 11 = .ok (.aload_n 0, 1) := by decide +kernel
theorem dX4_isBeside_12 : decode cX4_isBeside 12 = .ok (.getfield 15, 3) := by decide +kernel
theorem dX4_isBeside_15 : decode cX4_isBeside 15 = .ok (.aload_n 1, 1) := by decide +kernel
theorem dX4_isBeside_16 : decode cX4_isBeside 16 = .ok (.getfield 15, 3) := by decide +kernel
theorem dX4_isBeside_19 : decode cX4_isBeside 19 = .ok (.isub, 1) := by decide +kernel
theorem dX4_isBeside_20 : decode cX4_isBeside 20 = .ok (.invokestatic 63, 3) := by decide +kernel
theorem dX4_isBeside_23 : decode cX4_isBeside 23 = .ok (.iconst 1, 1) := by decide +kernel
theorem dX4_isBeside_24 : decode cX4_isBeside 24 = .ok (.if_icmp .ne 7, 3) := by decide +kernel
theorem dX4_isBeside_27 : decode cX4_isBeside 27 = .ok (.iconst 1, 1) := by decide +kernel
theorem dX4_isBeside_28 : decode cX4_isBeside 28 = .ok (.goto 4, 3) := by decide +kernel
theorem dX4_isBeside_31 : decode cX4_isBeside 31 = .ok (.iconst 0, 1) := by decide +kernel
theorem dX4_isBeside_32 : decode cX4_isBeside 32 = .ok (.ireturn, 1) := by decide +kernel
theorem dX5_init_0 : decode cX5_init 0 = .ok (.aload_n 0, 1) := by decide +kernel
theorem dX5_init_1 : decode cX5_init 1 = .ok (.invokespecial 3, 3) := by decide +kernel
theorem dX5_init_4 : decode cX5_init 4 = .ok (.aload_n 0, 1) := by decide +kernel
theorem dX5_init_5 : decode cX5_init 5 = .ok (.bipush 8, 2) := by decide +kernel
theorem dX5_init_7 : decode cX5_init 7 = .ok (.newarray .int, 2) := by decide +kernel
theorem dX5_init_9 : decode cX5_init 9 = .ok (.putfield 9, 3) := by decide +kernel
theorem dX5_init_12 : decode cX5_init 12 = .ok (.aload_n 0, 1) := by decide +kernel
theorem dX5_init_13 : decode cX5_init 13 = .ok (.aload_n 1, 1) := by decide +kernel
theorem dX5_init_14 : decode cX5_init 14 = .ok (.putfield 15, 3) := by decide +kernel
theorem dX5_init_17 : decode cX5_init 17 = .ok (.return_, 1) := by decide +kernel
theorem dX5_check_0 : decode cX5_check 0 = .ok (.aload_n 0, 1) := by decide +kernel
theorem dX5_check_1 : decode cX5_check 1 = .ok (.iconst 0, 1) := by decide +kernel
theorem dX5_check_2 : decode cX5_check 2 = .ok (.putfield 19, 3) := by decide +kernel
theorem dX5_check_5 : decode cX5_check 5 = .ok (.aload_n 0, 1) := by decide +kernel
theorem dX5_check_6 : decode cX5_check 6 = .ok (.iconst (-1), 1) := by decide +kernel
theorem dX5_check_7 : decode cX5_check 7 = .ok (.putfield 23, 3) := by decide +kernel
theorem dX5_check_10 : decode cX5_check 10 = .ok (.aload_n 0, 1) := by decide +kernel
theorem dX5_check_11 : decode cX5_check 11 = .ok (.iconst 0, 1) := by decide +kernel
theorem dX5_check_12 : decode cX5_check 12 = .ok (.invokevirtual 26, 3) := by decide +kernel
theorem dX5_check_15 : decode cX5_check 15 = .ok (.pop, 1) := by decide +kernel
