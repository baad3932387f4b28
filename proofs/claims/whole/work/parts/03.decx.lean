theorem dX0_init_0 : decode cX0_init 0 = .ok (.aload_n 0, 1) := by decide +kernel
theorem dX0_init_1 : decode cX0_init 1 = .ok (.invokespecial 1, 3) := by decide +kernel
theorem dX0_init_4 : decode cX0_init 4 = .ok (.aload_n 0, 1) := by decide +kernel
theorem dX0_init_5 : decode cX0_init 5 = .ok (.sipush 400, 3) := by decide +kernel
theorem dX0_init_8 : decode cX0_init 8 = .ok (.newarray .int, 2) := by decide +kernel
theorem dX0_init_10 : decode cX0_init 10 = .ok (.putfield 9, 3) := by decide +kernel
theorem dX0_init_13 : decode cX0_init 13 = .ok (.aload_n 0, 1) := by decide +kernel
theorem dX0_init_14 : decode cX0_init 14 = .ok (.sipush 400, 3) := by decide +kernel
theorem dX0_init_17 : decode cX0_init 17 = .ok (.newarray .boolean, 2) := by decide +kernel
theorem dX0_init_19 : decode cX0_init 19 = .ok (.putfield 13, 3) := by decide +kernel
theorem dX0_init_22 : decode cX0_init 22 = .ok (.aload_n 0, 1) := by decide +kernel
theorem dX0_init_23 : decode cX0_init 23 = .ok (.sipush 400, 3) := by decide +kernel
theorem dX0_init_26 : decode cX0_init 26 = .ok (.newarray .int, 2) := by decide +kernel
theorem dX0_init_28 : decode cX0_init 28 = .ok (.putfield 17, 3) := by decide +kernel
theorem dX0_init_31 : decode cX0_init 31 = .ok (.aload_n 0, 1) := by decide +kernel
theorem dX0_init_32 : decode cX0_init 32 = .ok (.sipush 2400, 3) := by decide +kernel
theorem dX0_init_35 : decode cX0_init 35 = .ok (.newarray .int, 2) := by decide +kernel
theorem dX0_init_37 : decode cX0_init 37 = .ok (.putfield 20, 3) := by decide +kernel
theorem dX0_init_40 : decode cX0_init 40 = .ok (.aload_n 0, 1) := by decide +kernel
theorem dX0_init_41 : decode cX0_init 41 = .ok (.iconst 0, 1) := by decide +kernel
theorem dX0_init_42 : decode cX0_init 42 = .ok (.putfield 23, 3) := by decide +kernel
theorem dX0_init_45 : decode cX0_init 45 = .ok (.aload_n 0, 1) := by decide +kernel
theorem dX0_init_46 : decode cX0_init 46 = .ok (.iconst 0, 1) := by decide +kernel
theorem dX0_init_47 : decode cX0_init 47 = .ok (.putfield 27, 3) := by decide +kernel
theorem dX0_init_50 : decode cX0_init 50 = .ok (.aload_n 0, 1) := by decide +kernel
theorem dX0_init_51 : decode cX0_init 51 = .ok (.bipush 8, 2) := by decide +kernel
theorem dX0_init_53 : decode cX0_init 53 = .ok (.sipush 400, 3) := by decide +kernel
theorem dX0_init_56 : decode cX0_init 56 = .ok (.multianewarray 30 2, 4) := by decide +kernel
theorem dX0_init_60 : decode cX0_init 60 = .ok (.putfield 32, 3) := by decide +kernel
theorem dX0_init_63 : decode cX0_init 63 = .ok (.aload_n 0, 1) := by decide +kernel
theorem dX0_init_64 : decode cX0_init 64 = .ok (.iconst 0, 1) := by decide +kernel
theorem dX0_init_65 : decode cX0_init 65 = .ok (.putfield 35, 3) := by decide +kernel
theorem dX0_init_68 : decode cX0_init 68 = .ok (.aload_n 0, 1) := by decide +kernel
theorem dX0_init_69 : decode cX0_init 69 = .ok (.sipush 400, 3) := by decide +kernel
theorem dX0_init_72 : decode cX0_init 72 = .ok (.newarray .int, 2) := by decide +kernel
theorem dX0_init_74 : decode cX0_init 74 = .ok (.putfield 38, 3) := by decide +kernel
theorem dX0_init_77 : decode cX0_init 77 = .ok (.aload_n 0, 1) := by decide +kernel
theorem dX0_init_78 : decode cX0_init 78 = .ok (.sipush 400, 3) := by decide +kernel
theorem dX0_init_81 : decode cX0_init 81 = .ok (.newarray .boolean, 2) := by decide +kernel
theorem dX0_init_83 : decode cX0_init 83 = .ok (.putfield 41, 3) := by decide +kernel
theorem dX0_init_86 : decode cX0_init 86 = .ok (.aload_n 0, 1) := by decide +kernel
theorem dX0_init_87 : decode cX0_init 87 = .ok (.iconst 0, 1) := by decide +kernel
theorem dX0_init_88 : decode cX0_init 88 = .ok (.putfield 44, 3) := by decide +kernel
theorem dX0_init_91 : decode cX0_init 91 = .ok (.return_, 1) := by decide +kernel
theorem dX0_node_0 : decode cX0_node 0 = .ok (.iload_n 1, 1) := by decide +kernel
theorem dX0_node_1 : decode cX0_node 1 = .ok (.invokestatic 47, 3) := by decide +kernel
theorem dX0_node_4 : decode cX0_node 4 = .ok (.ifCond .ne 13, 3) := by decide +kernel
theorem dX0_node_7 : decode cX0_node 7 = .ok (.new 51, 3) := by decide +kernel
theorem dX0_node_10 : decode cX0_node 10 = .ok (.dup, 1) := by decide +kernel
theorem dX0_node_11 : decode cX0_node 11 = .ok (.ldc 53, 2) := by decide +kernel
theorem dX0_node_13 : decode cX0_node 13 = .ok (.invokespecial 55, 3) := by decide +kernel
theorem dX0_node_16 : decode cX0_node 16 = .ok (.athrow, 1) := by decide +kernel
theorem dX0_node_17 : decode cX0_node 17 = .ok (.aload_n 0, 1) := by decide +kernel
theorem dX0_node_18 : decode cX0_node 18 = .ok (.getfield 23, 3) := by decide +kernel
theorem dX0_node_21 : decode cX0_node 21 = .ok (.sipush 400, 3) := by decide +kernel
theorem dX0_node_24 : decode cX0_node 24 = .ok (.if_icmp .lt 13, 3) := by decide +kernel
theorem dX0_node_27 : decode cX0_node 27 = .ok (.new 58, 3) := by decide +kernel
theorem dX0_node_30 : decode cX0_node 30 = .ok (.dup, 1) := by decide +kernel
theorem dX0_node_31 : decode cX0_node 31 = .ok (.ldc 60, 2) := by decide +kernel
theorem dX0_node_33 : decode cX0_node 33 = .ok (.invokespecial 62, 3) := by decide +kernel
theorem dX0_node_36 : decode cX0_node 36 = .ok (.athrow, 1) := by decide +kernel
theorem dX0_node_37 : decode cX0_node 37 = .ok (.aload_n 0, 1) := by decide +kernel
theorem dX0_node_38 : decode cX0_node 38 = .ok (.getfield 23, 3) := by decide +kernel
theorem dX0_node_41 : decode cX0_node 41 = .ok (.istore_n 3, 1) := by decide +kernel
theorem dX0_node_42 : decode cX0_node 42 = .ok (.aload_n 0, 1) := by decide +kernel
theorem dX0_node_43 : decode cX0_node 43 = .ok (.getfield 9, 3) := by decide +kernel
theorem dX0_node_46 : decode cX0_node 46 = .ok (.iload_n 3, 1) := by decide +kernel
theorem dX0_node_47 : decode cX0_node 47 = .ok (.iload_n 1, 1) := by decide +kernel
theorem dX0_node_48 : decode cX0_node 48 = .ok (.iastore, 1) := by decide +kernel
theorem dX0_node_49 : decode cX0_node 49 = .ok (.aload_n 0, 1) := by decide +kernel
theorem dX0_node_50 : decode cX0_node 50 = .ok (.getfield 13, 3) := by decide +kernel
theorem dX0_node_53 : decode cX0_node 53 = .ok (.iload_n 3, 1) := by decide +kernel
theorem dX0_node_54 : decode cX0_node 54 = .ok (.iload_n 2, 1) := by decide +kernel
theorem dX0_node_55 : decode cX0_node 55 = .ok (.bastore, 1) := by decide +kernel
theorem dX0_node_56 : decode cX0_node 56 = .ok (.aload_n 0, 1) := by decide +kernel
theorem dX0_node_57 : decode cX0_node 57 = .ok (.dup, 1) := by decide +kernel
theorem dX0_node_58 : decode cX0_node 58 = .ok (.getfield 23, 3) := by decide +kernel
theorem dX0_node_61 : decode cX0_node 61 = .ok (.iconst 1, 1) := by decide +kernel
theorem dX0_node_62 : decode cX0_node 62 = .ok (.iadd, 1) := by decide +kernel
theorem dX0_node_63 : decode cX0_node 63 = .ok (.putfield 23, 3) := by decide +kernel
theorem dX0_node_66 : decode cX0_node 66 = .ok (.aload_n 0, 1) := by decide +kernel
theorem dX0_node_67 : decode cX0_node 67 = .ok (.invokevirtual 63, 3) := by decide +kernel
theorem dX0_node_70 : decode cX0_node 70 = .ok (.iload_n 3, 1) := by decide +kernel
theorem dX0_node_71 : decode cX0_node 71 = .ok (.ireturn, 1) := by decide +kernel
theorem dX0_move_0 : decode cX0_move 0 = .ok (.aload_n 0, 1) := by decide +kernel
theorem dX0_move_1 : decode cX0_move 1 = .ok (.iload_n 1, 1) := by decide +kernel
theorem dX0_move_2 : decode cX0_move 2 = .ok (.invokevirtual 66, 3) := by decide +kernel
theorem dX0_move_5 : decode cX0_move 5 = .ok (.ifCond .eq 11, 3) := by decide +kernel
theorem dX0_move_8 : decode cX0_move 8 = .ok (.aload_n 0, 1) := by decide +kernel
theorem dX0_move_9 : decode cX0_move 9 = .ok (.iload_n 2, 1) := by decide +kernel
theorem dX0_move_10 : decode cX0_move 10 = .ok (.invokevirtual 66, 3) := by decide +kernel
theorem dX0_move_13 : decode cX0_move 13 = .ok (.ifCond .ne 13, 3) := by decide +kernel
theorem dX0_move_16 : decode cX0_move 16 = .ok (.new 51, 3) := by decide +kernel
theorem dX0_move_19 : decode cX0_move 19 = .ok (.dup, 1) := by decide +kernel
theorem dX0_move_20 : decode cX0_move 20 = .ok (.ldc 69, 2) := by decide +kernel
theorem dX0_move_22 : decode cX0_move 22 = .ok (.invokespecial 55, 3) := by decide +kernel
theorem dX0_move_25 : decode cX0_move 25 = .ok (.athrow, 1) := by decide +kernel
theorem dX0_move_26 : decode cX0_move 26 = .ok (.aload_n 0, 1) := by decide +kernel
theorem dX0_move_27 : decode cX0_move 27 = .ok (.getfield 17, 3) := by decide +kernel
theorem dX0_move_30 : decode cX0_move 30 = .ok (.iload_n 1, 1) := by decide +kernel
theorem dX0_move_31 : decode cX0_move 31 = .ok (.iaload, 1) := by decide +kernel
theorem dX0_move_32 : decode cX0_move 32 = .ok (.bipush 6, 2) := by decide +kernel
theorem dX0_move_34 : decode cX0_move 34 = .ok (.if_icmp .lt 13, 3) := by decide +kernel
theorem dX0_move_37 : decode cX0_move 37 = .ok (.new 58, 3) := by decide +kernel
theorem dX0_move_40 : decode cX0_move 40 = .ok (.dup, 1) := by decide +kernel
theorem dX0_move_41 : decode cX0_move 41 = .ok (.ldc 71, 2) := by decide +kernel
theorem dX0_move_43 : decode cX0_move 43 = .ok (.invokespecial 62, 3) := by decide +kernel
theorem dX0_move_46 : decode cX0_move 46 = .ok (.athrow, 1) := by decide +kernel
theorem dX0_move_47 : decode cX0_move 47 = .ok (.aload_n 0, 1) := by decide +kernel
theorem dX0_move_48 : decode cX0_move 48 = .ok (.getfield 17, 3) := by decide +kernel
theorem dX0_move_51 : decode cX0_move 51 = .ok (.iload_n 1, 1) := by decide +kernel
theorem dX0_move_52 : decode cX0_move 52 = .ok (.iaload, 1) := by decide +kernel
theorem dX0_move_53 : decode cX0_move 53 = .ok (.istore_n 3, 1) := by decide +kernel
theorem dX0_move_54 : decode cX0_move 54 = .ok (.aload_n 0, 1) := by decide +kernel
theorem dX0_move_55 : decode cX0_move 55 = .ok (.getfield 20, 3) := by decide +kernel
theorem dX0_move_58 : decode cX0_move 58 = .ok (.iload_n 1, 1) := by decide +kernel
theorem dX0_move_59 : decode cX0_move 59 = .ok (.iload_n 3, 1) := by decide +kernel
theorem dX0_move_60 : decode cX0_move 60 = .ok (.invokestatic 73, 3) := by decide +kernel
theorem dX0_move_63 : decode cX0_move 63 = .ok (.iload_n 2, 1) := by decide +kernel
theorem dX0_move_64 : decode cX0_move 64 = .ok (.iastore, 1) := by decide +kernel
theorem dX0_move_65 : decode cX0_move 65 = .ok (.aload_n 0, 1) := by decide +kernel
theorem dX0_move_66 : decode cX0_move 66 = .ok (.getfield 17, 3) := by decide +kernel
theorem dX0_move_69 : decode cX0_move 69 = .ok (.iload_n 1, 1) := by decide +kernel
theorem dX0_move_70 : decode cX0_move 70 = .ok (.dup2, 1) := by decide +kernel
theorem dX0_move_71 : decode cX0_move 71 = .ok (.iaload, 1) := by decide +kernel
theorem dX0_move_72 : decode cX0_move 72 = .ok (.iconst 1, 1) := by decide +kernel
theorem dX0_move_73 : decode cX0_move 73 = .ok (.iadd, 1) := by decide +kernel
theorem dX0_move_74 : decode cX0_move 74 = .ok (.iastore, 1) := by decide +kernel
theorem dX0_move_75 : decode cX0_move 75 = .ok (.aload_n 0, 1) := by decide +kernel
theorem dX0_move_76 : decode cX0_move 76 = .ok (.dup, 1) := by decide +kernel
theorem dX0_move_77 : decode cX0_move 77 = .ok (.getfield 27, 3) := by decide +kernel
theorem dX0_move_80 : decode cX0_move 80 = .ok (.iconst 1, 1) := by decide +kernel
theorem dX0_move_81 : decode cX0_move 81 = .ok (.iadd, 1) := by decide +kernel
theorem dX0_move_82 : decode cX0_move 82 = .ok (.putfield 27, 3) := by decide +kernel
theorem dX0_move_85 : decode cX0_move 85 = .ok (.aload_n 0, 1) := by decide +kernel
theorem dX0_move_86 : decode cX0_move 86 = .ok (.invokevirtual 63, 3) := by decide +kernel
theorem dX0_move_89 : decode cX0_move 89 = .ok (.iload_n 3, 1) := by decide +kernel
theorem dX0_move_90 : decode cX0_move 90 = .ok (.ireturn, 1) := by decide +kernel
theorem dX0_drop_0 : decode cX0_drop 0 = .ok (.aload_n 0, 1) := by decide +kernel
theorem dX0_drop_1 : decode cX0_drop 1 = .ok (.iload_n 1, 1) := by decide +kernel
theorem dX0_drop_2 : decode cX0_drop 2 = .ok (.invokevirtual 66, 3) := by decide +kernel
theorem dX0_drop_5 : decode cX0_drop 5 = .ok (.ifCond .eq 12, 3) := by decide +kernel
theorem dX0_drop_8 : decode cX0_drop 8 = .ok (.aload_n 0, 1) := by decide +kernel
theorem dX0_drop_9 : decode cX0_drop 9 = .ok (.getfield 17, 3) := by decide +kernel
theorem dX0_drop_12 : decode cX0_drop 12 = .ok (.iload_n 1, 1) := by decide +kernel
theorem dX0_drop_13 : decode cX0_drop 13 = .ok (.iaload, 1) := by decide +kernel
theorem dX0_drop_14 : decode cX0_drop 14 = .ok (.ifCond .ne 5, 3) := by decide +kernel
theorem dX0_drop_17 : decode cX0_drop 17 = .ok (.iconst 0, 1) := by decide +kernel
theorem dX0_drop_18 : decode cX0_drop 18 = .ok (.ireturn, 1) := by decide +kernel
theorem dX0_drop_19 : decode cX0_drop 19 = .ok (.aload_n 0, 1) := by decide +kernel
theorem dX0_drop_20 : decode cX0_drop 20 = .ok (.getfield 17, 3) := by decide +kernel
theorem dX0_drop_23 : decode cX0_drop 23 = .ok (.iload_n 1, 1) := by decide +kernel
theorem dX0_drop_24 : decode cX0_drop 24 = .ok (.dup2, 1) := by decide +kernel
theorem dX0_drop_25 : decode cX0_drop 25 = .ok (.iaload, 1) := by decide +kernel
theorem dX0_drop_26 : decode cX0_drop 26 = .ok (.iconst 1, 1) := by decide +kernel
theorem dX0_drop_27 : decode cX0_drop 27 = .ok (.isub, 1) := by decide +kernel
theorem dX0_drop_28 : decode cX0_drop 28 = .ok (.iastore, 1) := by decide +kernel
theorem dX0_drop_29 : decode cX0_drop 29 = .ok (.aload_n 0, 1) := by decide +kernel
theorem dX0_drop_30 : decode cX0_drop 30 = .ok (.dup, 1) := by decide +kernel
theorem dX0_drop_31 : decode cX0_drop 31 = .ok (.getfield 27, 3) := by decide +kernel
theorem dX0_drop_34 : decode cX0_drop 34 = .ok (.iconst 1, 1) := by decide +kernel
theorem dX0_drop_35 : decode cX0_drop 35 = .ok (.isub, 1) := by decide +kernel
theorem dX0_drop_36 : decode cX0_drop 36 = .ok (.putfield 27, 3) := by decide +kernel
theorem dX0_drop_39 : decode cX0_drop 39 = .ok (.aload_n 0, 1) := by decide +kernel
theorem dX0_drop_40 : decode cX0_drop 40 = .ok (.invokevirtual 63, 3) := by decide +kernel
theorem dX0_drop_43 : decode cX0_drop 43 = .ok (.iconst 1, 1) := by decide +kernel
theorem dX0_drop_44 : decode cX0_drop 44 = .ok (.ireturn, 1) := by decide +kernel
theorem dX0_change_0 : decode cX0_change 0 = .ok (.aload_n 0, 1) := by decide +kernel
theorem dX0_change_1 : decode cX0_change 1 = .ok (.iload_n 1, 1) := by decide +kernel
theorem dX0_change_2 : decode cX0_change 2 = .ok (.invokevirtual 66, 3) := by decide +kernel
theorem dX0_change_5 : decode cX0_change 5 = .ok (.ifCond .eq 10, 3) := by decide +kernel
theorem dX0_change_8 : decode cX0_change 8 = .ok (.iload_n 2, 1) := by decide +kernel
theorem dX0_change_9 : decode cX0_change 9 = .ok (.invokestatic 47, 3) := by decide +kernel
theorem dX0_change_12 : decode cX0_change 12 = .ok (.ifCond .ne 5, 3) := by decide +kernel
theorem dX0_change_15 : decode cX0_change 15 = .ok (.iconst 0, 1) := by decide +kernel
theorem dX0_change_16 : decode cX0_change 16 = .ok (.ireturn, 1) := by decide +kernel
theorem dX0_change_17 : decode cX0_change 17 = .ok (.aload_n 0, 1) := by decide +kernel
theorem dX0_change_18 : decode cX0_change 18 = .ok (.getfield 9, 3) := by decide +kernel
theorem dX0_change_21 : decode cX0_change 21 = .ok (.iload_n 1, 1) := by decide +kernel
theorem dX0_change_22 : decode cX0_change 22 = .ok (.iload_n 2, 1) := by decide +kernel
theorem dX0_change_23 : decode cX0_change 23 = .ok (.iastore, 1) := by decide +kernel
theorem dX0_change_24 : decode cX0_change 24 = .ok (.aload_n 0, 1) := by decide +kernel
theorem dX0_change_25 : decode cX0_change 25 = .ok (.getfield 13, 3) := by decide +kernel
theorem dX0_change_28 : decode cX0_change 28 = .ok (.iload_n 1, 1) := by decide +kernel
theorem dX0_change_29 : decode cX0_change 29 = .ok (.iload_n 3, 1) := by decide +kernel
theorem dX0_change_30 : decode cX0_change 30 = .ok (.bastore, 1) := by decide +kernel
theorem dX0_change_31 : decode cX0_change 31 = .ok (.aload_n 0, 1) := by decide +kernel
theorem dX0_change_32 : decode cX0_change 32 = .ok (.invokevirtual 63, 3) := by decide +kernel
theorem dX0_change_35 : decode cX0_change 35 = .ok (.iconst 1, 1) := by decide +kernel
theorem dX0_change_36 : decode cX0_change 36 = .ok (.ireturn, 1) := by decide +kernel
theorem dX0_value_0 : decode cX0_value 0 = .ok (.aload_n 0, 1) := by decide +kernel
theorem dX0_value_1 : decode cX0_value 1 = .ok (.iload_n 1, 1) := by decide +kernel
theorem dX0_value_2 : decode cX0_value 2 = .ok (.iload_n 2, 1) := by decide +kernel
theorem dX0_value_3 : decode cX0_value 3 = .ok (.invokevirtual 77, 3) := by decide +kernel
theorem dX0_value_6 : decode cX0_value 6 = .ok (.aload_n 0, 1) := by decide +kernel
theorem dX0_value_7 : decode cX0_value 7 = .ok (.iload_n 2, 1) := by decide +kernel
theorem dX0_value_8 : decode cX0_value 8 = .ok (.invokevirtual 81, 3) := by decide +kernel
theorem dX0_value_11 : decode cX0_value 11 = .ok (.aload_n 0, 1) := by decide +kernel
theorem dX0_value_12 : decode cX0_value 12 = .ok (.getfield 32, 3) := by decide +kernel
theorem dX0_value_15 : decode cX0_value 15 = .ok (.iload_n 2, 1) := by decide +kernel
theorem dX0_value_16 : decode cX0_value 16 = .ok (.aaload, 1) := by decide +kernel
theorem dX0_value_17 : decode cX0_value 17 = .ok (.iload_n 1, 1) := by decide +kernel
theorem dX0_value_18 : decode cX0_value 18 = .ok (.iaload, 1) := by decide +kernel
theorem dX0_value_19 : decode cX0_value 19 = .ok (.ireturn, 1) := by decide +kernel
theorem dX0_best_0 : decode cX0_best 0 = .ok (.aload_n 0, 1) := by decide +kernel
theorem dX0_best_1 : decode cX0_best 1 = .ok (.iload_n 1, 1) := by decide +kernel
theorem dX0_best_2 : decode cX0_best 2 = .ok (.iload_n 2, 1) := by decide +kernel
theorem dX0_best_3 : decode cX0_best 3 = .ok (.invokevirtual 77, 3) := by decide +kernel
theorem dX0_best_6 : decode cX0_best 6 = .ok (.aload_n 0, 1) := by decide +kernel
theorem dX0_best_7 : decode cX0_best 7 = .ok (.iload_n 2, 1) := by decide +kernel
theorem dX0_best_8 : decode cX0_best 8 = .ok (.invokevirtual 81, 3) := by decide +kernel
theorem dX0_best_11 : decode cX0_best 11 = .ok (.aload_n 0, 1) := by decide +kernel
theorem dX0_best_12 : decode cX0_best 12 = .ok (.iload_n 1, 1) := by decide +kernel
theorem dX0_best_13 : decode cX0_best 13 = .ok (.iload_n 2, 1) := by decide +kernel
theorem dX0_best_14 : decode cX0_best 14 = .ok (.invokevirtual 85, 3) := by decide +kernel
theorem dX0_best_17 : decode cX0_best 17 = .ok (.ireturn, 1) := by decide +kernel
theorem dX0_reaches_0 : decode cX0_reaches 0 = .ok (.aload_n 0, 1) := by decide +kernel
theorem dX0_reaches_1 : decode cX0_reaches 1 = .ok (.iload_n 1, 1) := by decide +kernel
theorem dX0_reaches_2 : decode cX0_reaches 2 = .ok (.iload_n 2, 1) := by decide +kernel
theorem dX0_reaches_3 : decode cX0_reaches 3 = .ok (.invokevirtual 77, 3) := by decide +kernel
theorem dX0_reaches_6 : decode cX0_reaches 6 = .ok (.aload_n 0, 1) := by decide +kernel
theorem dX0_reaches_7 : decode cX0_reaches 7 = .ok (.iload_n 2, 1) := by decide +kernel
theorem dX0_reaches_8 : decode cX0_reaches 8 = .ok (.invokevirtual 81, 3) := by decide +kernel
theorem dX0_reaches_11 : decode cX0_reaches 11 = .ok (.aload_n 0, 1) := by decide +kernel
theorem dX0_reaches_12 : decode cX0_reaches 12 = .ok (.getfield 32, 3) := by decide +kernel
theorem dX0_reaches_15 : decode cX0_reaches 15 = .ok (.iload_n 2, 1) := by decide +kernel
theorem dX0_reaches_16 : decode cX0_reaches 16 = .ok (.aaload, 1) := by decide +kernel
theorem dX0_reaches_17 : decode cX0_reaches 17 = .ok (.iload_n 1, 1) := by decide +kernel
theorem dX0_reaches_18 : decode cX0_reaches 18 = .ok (.iaload, 1) := by decide +kernel
theorem dX0_reaches_19 : decode cX0_reaches 19 = .ok (.iload_n 3, 1) := by decide +kernel
theorem dX0_reaches_20 : decode cX0_reaches 20 = .ok (.if_icmp .lt 7, 3) := by decide +kernel
theorem dX0_reaches_23 : decode cX0_reaches 23 = .ok (.iconst 1, 1) := by decide +kernel
theorem dX0_reaches_24 : decode cX0_reaches 24 = .ok (.goto 4, 3) := by decide +kernel
theorem dX0_reaches_27 : decode cX0_reaches 27 = .ok (.iconst 0, 1) := by decide +kernel
theorem dX0_reaches_28 : decode cX0_reaches 28 = .ok (.ireturn, 1) := by decide +kernel
theorem dX0_line_0 : decode cX0_line 0 = .ok (.aload_n 0, 1) := by decide +kernel
theorem dX0_line_1 : decode cX0_line 1 = .ok (.iload_n 1, 1) := by decide +kernel
theorem dX0_line_2 : decode cX0_line 2 = .ok (.iload_n 2, 1) := by decide +kernel
theorem dX0_line_3 : decode cX0_line 3 = .ok (.invokevirtual 77, 3) := by decide +kernel
theorem dX0_line_6 : decode cX0_line 6 = .ok (.iload_n 3, 1) := by decide +kernel
theorem dX0_line_7 : decode cX0_line 7 = .ok (.ifCond .lt 8, 3) := by decide +kernel
theorem dX0_line_10 : decode cX0_line 10 = .ok (.iload_n 3, 1) := by decide +kernel
theorem dX0_line_11 : decode cX0_line 11 = .ok (.iload_n 2, 1) := by decide +kernel
theorem dX0_line_12 : decode cX0_line 12 = .ok (.if_icmp .le 5, 3) := by decide +kernel
theorem dX0_line_15 : decode cX0_line 15 = .ok (.iconst (-1), 1) := by decide +kernel
theorem dX0_line_16 : decode cX0_line 16 = .ok (.ireturn, 1) := by decide +kernel
theorem dX0_line_17 : decode cX0_line 17 = .ok (.aload_n 0, 1) := by decide +kernel
theorem dX0_line_18 : decode cX0_line 18 = .ok (.iload_n 2, 1) := by decide +kernel
theorem dX0_line_19 : decode cX0_line 19 = .ok (.invokevirtual 81, 3) := by decide +kernel
theorem dX0_line_22 : decode cX0_line 22 = .ok (.iload_n 1, 1) := by decide +kernel
theorem dX0_line_23 : decode cX0_line 23 = .ok (.istore 4, 2) := by decide +kernel
theorem dX0_line_25 : decode cX0_line 25 = .ok (.iconst 0, 1) := by decide +kernel
theorem dX0_line_26 : decode cX0_line 26 = .ok (.istore 5, 2) := by decide +kernel
theorem dX0_line_28 : decode cX0_line 28 = .ok (.iload 5, 2) := by decide +kernel
theorem dX0_line_30 : decode cX0_line 30 = .ok (.iload_n 3, 1) := by decide +kernel
theorem dX0_line_31 : decode cX0_line 31 = .ok (.if_icmp .ge 43, 3) := by decide +kernel
theorem dX0_line_34 : decode cX0_line 34 = .ok (.aload_n 0, 1) := by decide +kernel
theorem dX0_line_35 : decode cX0_line 35 = .ok (.iload 4, 2) := by decide +kernel
theorem dX0_line_37 : decode cX0_line 37 = .ok (.iload_n 2, 1) := by decide +kernel
theorem dX0_line_38 : decode cX0_line 38 = .ok (.iload 5, 2) := by decide +kernel
theorem dX0_line_40 : decode cX0_line 40 = .ok (.isub, 1) := by decide +kernel
theorem dX0_line_41 : decode cX0_line 41 = .ok (.invokevirtual 85, 3) := by decide +kernel
theorem dX0_line_44 : decode cX0_line 44 = .ok (.istore 6, 2) := by decide +kernel
theorem dX0_line_46 : decode cX0_line 46 = .ok (.iload 6, 2) := by decide +kernel
theorem dX0_line_48 : decode cX0_line 48 = .ok (.iconst (-1), 1) := by decide +kernel
theorem dX0_line_49 : decode cX0_line 49 = .ok (.if_icmp .ne 5, 3) := by decide +kernel
theorem dX0_line_52 : decode cX0_line 52 = .ok (.iconst (-1), 1) := by decide +kernel
theorem dX0_line_53 : decode cX0_line 53 = .ok (.ireturn, 1) := by decide +kernel
theorem dX0_line_54 : decode cX0_line 54 = .ok (.aload_n 0, 1) := by decide +kernel
theorem dX0_line_55 : decode cX0_line 55 = .ok (.getfield 20, 3) := by decide +kernel
theorem dX0_line_58 : decode cX0_line 58 = .ok (.iload 4, 2) := by decide +kernel
theorem dX0_line_60 : decode cX0_line 60 = .ok (.iload 6, 2) := by decide +kernel
theorem dX0_line_62 : decode cX0_line 62 = .ok (.invokestatic 73, 3) := by decide +kernel
theorem dX0_line_65 : decode cX0_line 65 = .ok (.iaload, 1) := by decide +kernel
theorem dX0_line_66 : decode cX0_line 66 = .ok (.istore 4, 2) := by decide +kernel
theorem dX0_line_68 : decode cX0_line 68 = .ok (.iinc 5 1, 3) := by decide +kernel
theorem dX0_line_71 : decode cX0_line 71 = .ok (.goto (-43), 3) := by decide +kernel
theorem dX0_line_74 : decode cX0_line 74 = .ok (.iload 4, 2) := by decide +kernel
theorem dX0_line_76 : decode cX0_line 76 = .ok (.ireturn, 1) := by decide +kernel
theorem dX0_ties_0 : decode cX0_ties 0 = .ok (.aload_n 0, 1) := by decide +kernel
theorem dX0_ties_1 : decode cX0_ties 1 = .ok (.iload_n 1, 1) := by decide +kernel
theorem dX0_ties_2 : decode cX0_ties 2 = .ok (.iload_n 2, 1) := by decide +kernel
theorem dX0_ties_3 : decode cX0_ties 3 = .ok (.invokevirtual 77, 3) := by decide +kernel
theorem dX0_ties_6 : decode cX0_ties 6 = .ok (.iload_n 2, 1) := by decide +kernel
theorem dX0_ties_7 : decode cX0_ties 7 = .ok (.ifCond .ne 5, 3) := by decide +kernel
theorem dX0_ties_10 : decode cX0_ties 10 = .ok (.iconst 0, 1) := by decide +kernel
theorem dX0_ties_11 : decode cX0_ties 11 = .ok (.ireturn, 1) := by decide +kernel
theorem dX0_ties_12 : decode cX0_ties 12 = .ok (.aload_n 0, 1) := by decide +kernel
theorem dX0_ties_13 : decode cX0_ties 13 = .ok (.iload_n 2, 1) := by decide +kernel
theorem dX0_ties_14 : decode cX0_ties 14 = .ok (.invokevirtual 81, 3) := by decide +kernel
theorem dX0_ties_17 : decode cX0_ties 17 = .ok (.iconst 0, 1) := by decide +kernel
theorem dX0_ties_18 : decode cX0_ties 18 = .ok (.istore_n 3, 1) := by decide +kernel
theorem dX0_ties_19 : decode cX0_ties 19 = .ok (.iconst 0, 1) := by decide +kernel
theorem dX0_ties_20 : decode cX0_ties 20 = .ok (.istore 4, 2) := by decide +kernel
theorem dX0_ties_22 : decode cX0_ties 22 = .ok (.iload 4, 2) := by decide +kernel
theorem dX0_ties_24 : decode cX0_ties 24 = .ok (.aload_n 0, 1) := by decide +kernel
theorem dX0_ties_25 : decode cX0_ties 25 = .ok (.getfield 17, 3) := by decide +kernel
theorem dX0_ties_28 : decode cX0_ties 28 = .ok (.iload_n 1, 1) := by decide +kernel
theorem dX0_ties_29 : decode cX0_ties 29 = .ok (.iaload, 1) := by decide +kernel
theorem dX0_ties_30 : decode cX0_ties 30 = .ok (.if_icmp .ge 31, 3) := by decide +kernel
theorem dX0_ties_33 : decode cX0_ties 33 = .ok (.aload_n 0, 1) := by decide +kernel
theorem dX0_ties_34 : decode cX0_ties 34 = .ok (.iload_n 1, 1) := by decide +kernel
theorem dX0_ties_35 : decode cX0_ties 35 = .ok (.iload 4, 2) := by decide +kernel
theorem dX0_ties_37 : decode cX0_ties 37 = .ok (.iload_n 2, 1) := by decide +kernel
theorem dX0_ties_38 : decode cX0_ties 38 = .ok (.invokevirtual 88, 3) := by decide +kernel
theorem dX0_ties_41 : decode cX0_ties 41 = .ok (.aload_n 0, 1) := by decide +kernel
theorem dX0_ties_42 : decode cX0_ties 42 = .ok (.getfield 32, 3) := by decide +kernel
theorem dX0_ties_45 : decode cX0_ties 45 = .ok (.iload_n 2, 1) := by decide +kernel
theorem dX0_ties_46 : decode cX0_ties 46 = .ok (.aaload, 1) := by decide +kernel
theorem dX0_ties_47 : decode cX0_ties 47 = .ok (.iload_n 1, 1) := by decide +kernel
theorem dX0_ties_48 : decode cX0_ties 48 = .ok (.iaload, 1) := by decide +kernel
theorem dX0_ties_49 : decode cX0_ties 49 = .ok (.if_icmp .ne 6, 3) := by decide +kernel
theorem dX0_ties_52 : decode cX0_ties 52 = .ok (.iinc 3 1, 3) := by decide +kernel
theorem dX0_ties_55 : decode cX0_ties 55 = .ok (.iinc 4 1, 3) := by decide +kernel
theorem dX0_ties_58 : decode cX0_ties 58 = .ok (.goto (-36), 3) := by decide +kernel
theorem dX0_ties_61 : decode cX0_ties 61 = .ok (.iload_n 3, 1) := by decide +kernel
theorem dX0_ties_62 : decode cX0_ties 62 = .ok (.ireturn, 1) := by decide +kernel
theorem dX0_settled_0 : decode cX0_settled 0 = .ok (.aload_n 0, 1) := by decide +kernel
theorem dX0_settled_1 : decode cX0_settled 1 = .ok (.iload_n 1, 1) := by decide +kernel
theorem dX0_settled_2 : decode cX0_settled 2 = .ok (.iload_n 2, 1) := by decide +kernel
theorem dX0_settled_3 : decode cX0_settled 3 = .ok (.invokevirtual 77, 3) := by decide +kernel
theorem dX0_settled_6 : decode cX0_settled 6 = .ok (.aload_n 0, 1) := by decide +kernel
theorem dX0_settled_7 : decode cX0_settled 7 = .ok (.iload_n 2, 1) := by decide +kernel
theorem dX0_settled_8 : decode cX0_settled 8 = .ok (.invokevirtual 81, 3) := by decide +kernel
theorem dX0_settled_11 : decode cX0_settled 11 = .ok (.iload_n 2, 1) := by decide +kernel
theorem dX0_settled_12 : decode cX0_settled 12 = .ok (.istore_n 3, 1) := by decide +kernel
theorem dX0_settled_13 : decode cX0_settled 13 = .ok (.iload_n 3, 1) := by decide +kernel
theorem dX0_settled_14 : decode cX0_settled 14 = .ok (.ifCond .le 30, 3) := by decide +kernel
theorem dX0_settled_17 : decode cX0_settled 17 = .ok (.aload_n 0, 1) := by decide +kernel
theorem dX0_settled_18 : decode cX0_settled 18 = .ok (.getfield 32, 3) := by decide +kernel
theorem dX0_settled_21 : decode cX0_settled 21 = .ok (.iload_n 3, 1) := by decide +kernel
theorem dX0_settled_22 : decode cX0_settled 22 = .ok (.iconst 1, 1) := by decide +kernel
theorem dX0_settled_23 : decode cX0_settled 23 = .ok (.isub, 1) := by decide +kernel
theorem dX0_settled_24 : decode cX0_settled 24 = .ok (.aaload, 1) := by decide +kernel
theorem dX0_settled_25 : decode cX0_settled 25 = .ok (.iload_n 1, 1) := by decide +kernel
theorem dX0_settled_26 : decode cX0_settled 26 = .ok (.iaload, 1) := by decide +kernel
theorem dX0_settled_27 : decode cX0_settled 27 = .ok (.aload_n 0, 1) := by decide +kernel
theorem dX0_settled_28 : decode cX0_settled 28 = .ok (.getfield 32, 3) := by decide +kernel
theorem dX0_settled_31 : decode cX0_settled 31 = .ok (.iload_n 2, 1) := by decide +kernel
theorem dX0_settled_32 : decode cX0_settled 32 = .ok (.aaload, 1) := by decide +kernel
theorem dX0_settled_33 : decode cX0_settled 33 = .ok (.iload_n 1, 1) := by decide +kernel
theorem dX0_settled_34 : decode cX0_settled 34 = .ok (.iaload, 1) := by decide +kernel
theorem dX0_settled_35 : decode cX0_settled 35 = .ok (.if_icmp .ne 9, 3) := by decide +kernel
theorem dX0_settled_38 : decode cX0_settled 38 = .ok (.iinc 3 (-1), 3) := by decide +kernel
theorem dX0_settled_41 : decode cX0_settled 41 = .ok (.goto (-28), 3) := by decide +kernel
theorem dX0_settled_44 : decode cX0_settled 44 = .ok (.iload_n 3, 1) := by decide +kernel
theorem dX0_settled_45 : decode cX0_settled 45 = .ok (.ireturn, 1) := by decide +kernel
theorem dX0_of_0 : decode cX0_of 0 = .ok (.aload_n 0, 1) := by decide +kernel
theorem dX0_of_1 : decode cX0_of 1 = .ok (.iload_n 1, 1) := by decide +kernel
theorem dX0_of_2 : decode cX0_of 2 = .ok (.invokevirtual 66, 3) := by decide +kernel
theorem dX0_of_5 : decode cX0_of 5 = .ok (.ifCond .ne 5, 3) := by decide +kernel
theorem dX0_of_8 : decode cX0_of 8 = .ok (.iconst (-1), 1) := by decide +kernel
theorem dX0_of_9 : decode cX0_of 9 = .ok (.ireturn, 1) := by decide +kernel
theorem dX0_of_10 : decode cX0_of 10 = .ok (.iload_n 2, 1) := by decide +kernel
theorem dX0_of_11 : decode cX0_of 11 = .ok (.tableswitch 54 0 2 #[25, 32, 47], 25) := by decide +kernel
theorem dX0_of_36 : decode cX0_of 36 = .ok (.aload_n 0, 1) := by decide +kernel
theorem dX0_of_37 : decode cX0_of 37 = .ok (.getfield 9, 3) := by decide +kernel
theorem dX0_of_40 : decode cX0_of 40 = .ok (.iload_n 1, 1) := by decide +kernel
theorem dX0_of_41 : decode cX0_of 41 = .ok (.iaload, 1) := by decide +kernel
theorem dX0_of_42 : decode cX0_of 42 = .ok (.ireturn, 1) := by decide +kernel
theorem dX0_of_43 : decode cX0_of 43 = .ok (.aload_n 0, 1) := by decide +kernel
theorem dX0_of_44 : decode cX0_of 44 = .ok (.getfield 13, 3) := by decide +kernel
theorem dX0_of_47 : decode cX0_of 47 = .ok (.iload_n 1, 1) := by decide +kernel
theorem dX0_of_48 : decode cX0_of 48 = .ok (.baload, 1) := by decide +kernel
theorem dX0_of_49 : decode cX0_of 49 = .ok (.ifCond .eq 7, 3) := by decide +kernel
theorem dX0_of_52 : decode cX0_of 52 = .ok (.iconst 1, 1) := by decide +kernel
theorem dX0_of_53 : decode cX0_of 53 = .ok (.goto 4, 3) := by decide +kernel
theorem dX0_of_56 : decode cX0_of 56 = .ok (.iconst 0, 1) := by decide +kernel
theorem dX0_of_57 : decode cX0_of 57 = .ok (.ireturn, 1) := by decide +kernel
theorem dX0_of_58 : decode cX0_of 58 = .ok (.aload_n 0, 1) := by decide +kernel
theorem dX0_of_59 : decode cX0_of 59 = .ok (.getfield 17, 3) := by decide +kernel
theorem dX0_of_62 : decode cX0_of 62 = .ok (.iload_n 1, 1) := by decide +kernel
theorem dX0_of_63 : decode cX0_of 63 = .ok (.iaload, 1) := by decide +kernel
theorem dX0_of_64 : decode cX0_of 64 = .ok (.ireturn, 1) := by decide +kernel
theorem dX0_of_65 : decode cX0_of 65 = .ok (.aload_n 0, 1) := by decide +kernel
theorem dX0_of_66 : decode cX0_of 66 = .ok (.iload_n 1, 1) := by decide +kernel
theorem dX0_of_67 : decode cX0_of 67 = .ok (.iload_n 2, 1) := by decide +kernel
theorem dX0_of_68 : decode cX0_of 68 = .ok (.invokevirtual 92, 3) := by decide +kernel
theorem dX0_of_71 : decode cX0_of 71 = .ok (.ireturn, 1) := by decide +kernel
theorem dX0_around_0 : decode cX0_around 0 = .ok (.aload_n 0, 1) := by decide +kernel
theorem dX0_around_1 : decode cX0_around 1 = .ok (.iload_n 1, 1) := by decide +kernel
theorem dX0_around_2 : decode cX0_around 2 = .ok (.iload_n 2, 1) := by decide +kernel
theorem dX0_around_3 : decode cX0_around 3 = .ok (.invokevirtual 77, 3) := by decide +kernel
theorem dX0_around_6 : decode cX0_around 6 = .ok (.aload_n 0, 1) := by decide +kernel
theorem dX0_around_7 : decode cX0_around 7 = .ok (.invokevirtual 95, 3) := by decide +kernel
theorem dX0_around_10 : decode cX0_around 10 = .ok (.aload_n 0, 1) := by decide +kernel
theorem dX0_around_11 : decode cX0_around 11 = .ok (.iload_n 1, 1) := by decide +kernel
theorem dX0_around_12 : decode cX0_around 12 = .ok (.invokevirtual 98, 3) := by decide +kernel
theorem dX0_around_15 : decode cX0_around 15 = .ok (.iconst 0, 1) := by decide +kernel
theorem dX0_around_16 : decode cX0_around 16 = .ok (.istore_n 3, 1) := by decide +kernel
theorem dX0_around_17 : decode cX0_around 17 = .ok (.iconst 0, 1) := by decide +kernel
theorem dX0_around_18 : decode cX0_around 18 = .ok (.istore 4, 2) := by decide +kernel
theorem dX0_around_20 : decode cX0_around 20 = .ok (.iload 4, 2) := by decide +kernel
theorem dX0_around_22 : decode cX0_around 22 = .ok (.iload_n 2, 1) := by decide +kernel
theorem dX0_around_23 : decode cX0_around 23 = .ok (.if_icmp .ge 37, 3) := by decide +kernel
theorem dX0_around_26 : decode cX0_around 26 = .ok (.aload_n 0, 1) := by decide +kernel
theorem dX0_around_27 : decode cX0_around 27 = .ok (.getfield 44, 3) := by decide +kernel
theorem dX0_around_30 : decode cX0_around 30 = .ok (.istore 5, 2) := by decide +kernel
theorem dX0_around_32 : decode cX0_around 32 = .ok (.iload_n 3, 1) := by decide +kernel
theorem dX0_around_33 : decode cX0_around 33 = .ok (.iload 5, 2) := by decide +kernel
theorem dX0_around_35 : decode cX0_around 35 = .ok (.if_icmp .ge 19, 3) := by decide +kernel
theorem dX0_around_38 : decode cX0_around 38 = .ok (.aload_n 0, 1) := by decide +kernel
theorem dX0_around_39 : decode cX0_around 39 = .ok (.aload_n 0, 1) := by decide +kernel
theorem dX0_around_40 : decode cX0_around 40 = .ok (.getfield 38, 3) := by decide +kernel
theorem dX0_around_43 : decode cX0_around 43 = .ok (.iload_n 3, 1) := by decide +kernel
theorem dX0_around_44 : decode cX0_around 44 = .ok (.iaload, 1) := by decide +kernel
theorem dX0_around_45 : decode cX0_around 45 = .ok (.invokevirtual 101, 3) := by decide +kernel
theorem dX0_around_48 : decode cX0_around 48 = .ok (.iinc 3 1, 3) := by decide +kernel
theorem dX0_around_51 : decode cX0_around 51 = .ok (.goto (-19), 3) := by decide +kernel
theorem dX0_around_54 : decode cX0_around 54 = .ok (.iinc 4 1, 3) := by decide +kernel
theorem dX0_around_57 : decode cX0_around 57 = .ok (.goto (-37), 3) := by decide +kernel
theorem dX0_around_60 : decode cX0_around 60 = .ok (.aload_n 0, 1) := by decide +kernel
theorem dX0_around_61 : decode cX0_around 61 = .ok (.getfield 44, 3) := by decide +kernel
theorem dX0_around_64 : decode cX0_around 64 = .ok (.ireturn, 1) := by decide +kernel
theorem dX0_look_0 : decode cX0_look 0 = .ok (.iload_n 1, 1) := by decide +kernel
theorem dX0_look_1 : decode cX0_look 1 = .ok (.lookupswitch 37 #[(0, 27), (1, 32)], 27) := by decide +kernel
theorem dX0_look_28 : decode cX0_look 28 = .ok (.aload_n 0, 1) := by decide +kernel
theorem dX0_look_29 : decode cX0_look 29 = .ok (.getfield 23, 3) := by decide +kernel
theorem dX0_look_32 : decode cX0_look 32 = .ok (.ireturn, 1) := by decide +kernel
theorem dX0_look_33 : decode cX0_look 33 = .ok (.aload_n 0, 1) := by decide +kernel
theorem dX0_look_34 : decode cX0_look 34 = .ok (.getfield 27, 3) := by decide +kernel
theorem dX0_look_37 : decode cX0_look 37 = .ok (.ireturn, 1) := by decide +kernel
theorem dX0_look_38 : decode cX0_look 38 = .ok (.iconst (-1), 1) := by decide +kernel
theorem dX0_look_39 : decode cX0_look 39 = .ok (.ireturn, 1) := by decide +kernel
theorem dX0_isWorth_0 : decode cX0_isWorth 0 = .ok (.iload_n 0, 1) := by decide +kernel
theorem dX0_isWorth_1 : decode cX0_isWorth 1 = .ok (.sipush (-500), 3) := by decide +kernel
theorem dX0_isWorth_4 : decode cX0_isWorth 4 = .ok (.if_icmp .lt 14, 3) := by decide +kernel
theorem dX0_isWorth_7 : decode cX0_isWorth 7 = .ok (.iload_n 0, 1) := by decide +kernel
theorem dX0_isWorth_8 : decode cX0_isWorth 8 = .ok (.sipush 500, 3) := by decide +kernel
theorem dX0_isWorth_11 : decode cX0_isWorth 11 = .ok (.if_icmp .gt 7, 3) := by decide +kernel
theorem dX0_isWorth_14 : decode cX0_isWorth 14 = .ok (.iconst 1, 1) := by decide +kernel
theorem dX0_isWorth_15 : decode cX0_isWorth 15 = .ok (.goto 4, 3) := by decide +kernel
theorem dX0_isWorth_18 : decode cX0_isWorth 18 = .ok (.iconst 0, 1) := by decide +kernel
theorem dX0_isWorth_19 : decode cX0_isWorth 19 = .ok (.ireturn, 1) := by decide +kernel
theorem dX0_isNode_0 : decode cX0_isNode 0 = .ok (.iload_n 1, 1) := by decide +kernel
theorem dX0_isNode_1 : decode cX0_isNode 1 = .ok (.ifCond .lt 15, 3) := by decide +kernel
theorem dX0_isNode_4 : decode cX0_isNode 4 = .ok (.iload_n 1, 1) := by decide +kernel
theorem dX0_isNode_5 : decode cX0_isNode 5 = .ok (.aload_n 0, 1) := by decide +kernel
theorem dX0_isNode_6 : decode cX0_isNode 6 = .ok (.getfield 23, 3) := by decide +kernel
theorem dX0_isNode_9 : decode cX0_isNode 9 = .ok (.if_icmp .ge 7, 3) := by decide +kernel
theorem dX0_isNode_12 : decode cX0_isNode 12 = .ok (.iconst 1, 1) := by decide +kernel
theorem dX0_isNode_13 : decode cX0_isNode 13 = .ok (.goto 4, 3) := by decide +kernel
theorem dX0_isNode_16 : decode cX0_isNode 16 = .ok (.iconst 0, 1) := by decide +kernel
theorem dX0_isNode_17 : decode cX0_isNode 17 = .ok (.ireturn, 1) := by decide +kernel
theorem dX0_refuseWrongQuestion_0 : decode cX0_refuseWrongQuestion 0 = .ok (.aload_n 0, 1) := by decide +kernel
theorem dX0_refuseWrongQuestion_1 : decode cX0_refuseWrongQuestion 1 = .ok (.iload_n 1, 1) := by decide +kernel
theorem dX0_refuseWrongQuestion_2 : decode cX0_refuseWrongQuestion 2 = .ok (.invokevirtual 66, 3) := by decide +kernel
theorem dX0_refuseWrongQuestion_5 : decode cX0_refuseWrongQuestion 5 = .ok (.ifCond .eq 13, 3) := by decide +kernel
theorem dX0_refuseWrongQuestion_8 : decode cX0_refuseWrongQuestion 8 = .ok (.iload_n 2, 1) := by decide +kernel
theorem dX0_refuseWrongQuestion_9 : decode cX0_refuseWrongQuestion 9 = .ok (.ifCond .lt 9, 3) := by decide +kernel
theorem dX0_refuseWrongQuestion_12 : decode cX0_refuseWrongQuestion 12 = .ok (.iload_n 2, 1) := by decide +kernel
theorem dX0_refuseWrongQuestion_13 : decode cX0_refuseWrongQuestion 13 = .ok (.bipush 7, 2) := by decide +kernel
theorem dX0_refuseWrongQuestion_15 : decode cX0_refuseWrongQuestion 15 = .ok (.if_icmp .le 13, 3) := by decide +kernel
theorem dX0_refuseWrongQuestion_18 : decode cX0_refuseWrongQuestion 18 = .ok (.new 51, 3) := by decide +kernel
theorem dX0_refuseWrongQuestion_21 : decode cX0_refuseWrongQuestion 21 = .ok (.dup, 1) := by decide +kernel
theorem dX0_refuseWrongQuestion_22 : decode cX0_refuseWrongQuestion 22 = .ok (.ldc 104, 2) := by decide +kernel
theorem dX0_refuseWrongQuestion_24 : decode cX0_refuseWrongQuestion 24 = .ok (.invokespecial 55, 3) := by decide +kernel
theorem dX0_refuseWrongQuestion_27 : decode cX0_refuseWrongQuestion 27 = .ok (.athrow, 1) := by decide +kernel
theorem dX0_refuseWrongQuestion_28 : decode cX0_refuseWrongQuestion 28 = .ok (.return_, 1) := by decide +kernel
theorem dX0_place_0 : decode cX0_place 0 = .ok (.iload_n 0, 1) := by decide +kernel
theorem dX0_place_1 : decode cX0_place 1 = .ok (.bipush 6, 2) := by decide +kernel
theorem dX0_place_3 : decode cX0_place 3 = .ok (.imul, 1) := by decide +kernel
theorem dX0_place_4 : decode cX0_place 4 = .ok (.iload_n 1, 1) := by decide +kernel
theorem dX0_place_5 : decode cX0_place 5 = .ok (.iadd, 1) := by decide +kernel
theorem dX0_place_6 : decode cX0_place 6 = .ok (.ireturn, 1) := by decide +kernel
theorem dX0_targetOrNone_0 : decode cX0_targetOrNone 0 = .ok (.iload_n 2, 1) := by decide +kernel
theorem dX0_targetOrNone_1 : decode cX0_targetOrNone 1 = .ok (.iconst 3, 1) := by decide +kernel
theorem dX0_targetOrNone_2 : decode cX0_targetOrNone 2 = .ok (.if_icmp .lt 15, 3) := by decide +kernel
theorem dX0_targetOrNone_5 : decode cX0_targetOrNone 5 = .ok (.iload_n 2, 1) := by decide +kernel
theorem dX0_targetOrNone_6 : decode cX0_targetOrNone 6 = .ok (.iconst 3, 1) := by decide +kernel
theorem dX0_targetOrNone_7 : decode cX0_targetOrNone 7 = .ok (.aload_n 0, 1) := by decide +kernel
theorem dX0_targetOrNone_8 : decode cX0_targetOrNone 8 = .ok (.getfield 17, 3) := by decide +kernel
theorem dX0_targetOrNone_11 : decode cX0_targetOrNone 11 = .ok (.iload_n 1, 1) := by decide +kernel
theorem dX0_targetOrNone_12 : decode cX0_targetOrNone 12 = .ok (.iaload, 1) := by decide +kernel
theorem dX0_targetOrNone_13 : decode cX0_targetOrNone 13 = .ok (.iadd, 1) := by decide +kernel
theorem dX0_targetOrNone_14 : decode cX0_targetOrNone 14 = .ok (.if_icmp .lt 5, 3) := by decide +kernel
theorem dX0_targetOrNone_17 : decode cX0_targetOrNone 17 = .ok (.iconst (-1), 1) := by decide +kernel
theorem dX0_targetOrNone_18 : decode cX0_targetOrNone 18 = .ok (.ireturn, 1) := by decide +kernel
theorem dX0_targetOrNone_19 : decode cX0_targetOrNone 19 = .ok (.aload_n 0, 1) := by decide +kernel
theorem dX0_targetOrNone_20 : decode cX0_targetOrNone 20 = .ok (.getfield 20, 3) := by decide +kernel
theorem dX0_targetOrNone_23 : decode cX0_targetOrNone 23 = .ok (.iload_n 1, 1) := by decide +kernel
theorem dX0_targetOrNone_24 : decode cX0_targetOrNone 24 = .ok (.iload_n 2, 1) := by decide +kernel
theorem dX0_targetOrNone_25 : decode cX0_targetOrNone 25 = .ok (.iconst 3, 1) := by decide +kernel
theorem dX0_targetOrNone_26 : decode cX0_targetOrNone 26 = .ok (.isub, 1) := by decide +kernel
theorem dX0_targetOrNone_27 : decode cX0_targetOrNone 27 = .ok (.invokestatic 73, 3) := by decide +kernel
theorem dX0_targetOrNone_30 : decode cX0_targetOrNone 30 = .ok (.iaload, 1) := by decide +kernel
theorem dX0_targetOrNone_31 : decode cX0_targetOrNone 31 = .ok (.ireturn, 1) := by decide +kernel
theorem dX0_forgetTable_0 : decode cX0_forgetTable 0 = .ok (.aload_n 0, 1) := by decide +kernel
theorem dX0_forgetTable_1 : decode cX0_forgetTable 1 = .ok (.iconst 0, 1) := by decide +kernel
theorem dX0_forgetTable_2 : decode cX0_forgetTable 2 = .ok (.putfield 35, 3) := by decide +kernel
theorem dX0_forgetTable_5 : decode cX0_forgetTable 5 = .ok (.return_, 1) := by decide +kernel
theorem dX0_deepenTo_0 : decode cX0_deepenTo 0 = .ok (.aload_n 0, 1) := by decide +kernel
theorem dX0_deepenTo_1 : decode cX0_deepenTo 1 = .ok (.getfield 35, 3) := by decide +kernel
theorem dX0_deepenTo_4 : decode cX0_deepenTo 4 = .ok (.istore_n 2, 1) := by decide +kernel
theorem dX0_deepenTo_5 : decode cX0_deepenTo 5 = .ok (.iload_n 2, 1) := by decide +kernel
theorem dX0_deepenTo_6 : decode cX0_deepenTo 6 = .ok (.iload_n 1, 1) := by decide +kernel
theorem dX0_deepenTo_7 : decode cX0_deepenTo 7 = .ok (.if_icmp .gt 21, 3) := by decide +kernel
theorem dX0_deepenTo_10 : decode cX0_deepenTo 10 = .ok (.aload_n 0, 1) := by decide +kernel
theorem dX0_deepenTo_11 : decode cX0_deepenTo 11 = .ok (.iload_n 2, 1) := by decide +kernel
theorem dX0_deepenTo_12 : decode cX0_deepenTo 12 = .ok (.invokevirtual 106, 3) := by decide +kernel
theorem dX0_deepenTo_15 : decode cX0_deepenTo 15 = .ok (.aload_n 0, 1) := by decide +kernel
theorem dX0_deepenTo_16 : decode cX0_deepenTo 16 = .ok (.iload_n 2, 1) := by decide +kernel
theorem dX0_deepenTo_17 : decode cX0_deepenTo 17 = .ok (.iconst 1, 1) := by decide +kernel
theorem dX0_deepenTo_18 : decode cX0_deepenTo 18 = .ok (.iadd, 1) := by decide +kernel
theorem dX0_deepenTo_19 : decode cX0_deepenTo 19 = .ok (.putfield 35, 3) := by decide +kernel
theorem dX0_deepenTo_22 : decode cX0_deepenTo 22 = .ok (.iinc 2 1, 3) := by decide +kernel
theorem dX0_deepenTo_25 : decode cX0_deepenTo 25 = .ok (.goto (-20), 3) := by decide +kernel
theorem dX0_deepenTo_28 : decode cX0_deepenTo 28 = .ok (.return_, 1) := by decide +kernel
theorem dX0_findRow_0 : decode cX0_findRow 0 = .ok (.iconst 0, 1) := by decide +kernel
theorem dX0_findRow_1 : decode cX0_findRow 1 = .ok (.istore_n 2, 1) := by decide +kernel
theorem dX0_findRow_2 : decode cX0_findRow 2 = .ok (.iload_n 2, 1) := by decide +kernel
theorem dX0_findRow_3 : decode cX0_findRow 3 = .ok (.aload_n 0, 1) := by decide +kernel
theorem dX0_findRow_4 : decode cX0_findRow 4 = .ok (.getfield 23, 3) := by decide +kernel
theorem dX0_findRow_7 : decode cX0_findRow 7 = .ok (.if_icmp .ge 23, 3) := by decide +kernel
theorem dX0_findRow_10 : decode cX0_findRow 10 = .ok (.aload_n 0, 1) := by decide +kernel
theorem dX0_findRow_11 : decode cX0_findRow 11 = .ok (.getfield 32, 3) := by decide +kernel
theorem dX0_findRow_14 : decode cX0_findRow 14 = .ok (.iload_n 1, 1) := by decide +kernel
theorem dX0_findRow_15 : decode cX0_findRow 15 = .ok (.aaload, 1) := by decide +kernel
theorem dX0_findRow_16 : decode cX0_findRow 16 = .ok (.iload_n 2, 1) := by decide +kernel
theorem dX0_findRow_17 : decode cX0_findRow 17 = .ok (.aload_n 0, 1) := by decide +kernel
theorem dX0_findRow_18 : decode cX0_findRow 18 = .ok (.iload_n 2, 1) := by decide +kernel
theorem dX0_findRow_19 : decode cX0_findRow 19 = .ok (.iload_n 1, 1) := by decide +kernel
theorem dX0_findRow_20 : decode cX0_findRow 20 = .ok (.invokevirtual 109, 3) := by decide +kernel
theorem dX0_findRow_23 : decode cX0_findRow 23 = .ok (.iastore, 1) := by decide +kernel
theorem dX0_findRow_24 : decode cX0_findRow 24 = .ok (.iinc 2 1, 3) := by decide +kernel
theorem dX0_findRow_27 : decode cX0_findRow 27 = .ok (.goto (-25), 3) := by decide +kernel
theorem dX0_findRow_30 : decode cX0_findRow 30 = .ok (.return_, 1) := by decide +kernel
theorem dX0_findValue_0 : decode cX0_findValue 0 = .ok (.aload_n 0, 1) := by decide +kernel
theorem dX0_findValue_1 : decode cX0_findValue 1 = .ok (.getfield 17, 3) := by decide +kernel
theorem dX0_findValue_4 : decode cX0_findValue 4 = .ok (.iload_n 1, 1) := by decide +kernel
theorem dX0_findValue_5 : decode cX0_findValue 5 = .ok (.iaload, 1) := by decide +kernel
theorem dX0_findValue_6 : decode cX0_findValue 6 = .ok (.ifCond .ne 20, 3) := by decide +kernel
theorem dX0_findValue_9 : decode cX0_findValue 9 = .ok (.aload_n 0, 1) := by decide +kernel
theorem dX0_findValue_10 : decode cX0_findValue 10 = .ok (.getfield 13, 3) := by decide +kernel
theorem dX0_findValue_13 : decode cX0_findValue 13 = .ok (.iload_n 1, 1) := by decide +kernel
theorem dX0_findValue_14 : decode cX0_findValue 14 = .ok (.baload, 1) := by decide +kernel
theorem dX0_findValue_15 : decode cX0_findValue 15 = .ok (.ifCond .eq 9, 3) := by decide +kernel
theorem dX0_findValue_18 : decode cX0_findValue 18 = .ok (.sipush (-1000), 3) := by decide +kernel
theorem dX0_findValue_21 : decode cX0_findValue 21 = .ok (.goto 4, 3) := by decide +kernel
theorem dX0_findValue_24 : decode cX0_findValue 24 = .ok (.iconst 0, 1) := by decide +kernel
theorem dX0_findValue_25 : decode cX0_findValue 25 = .ok (.ireturn, 1) := by decide +kernel
theorem dX0_findValue_26 : decode cX0_findValue 26 = .ok (.iload_n 2, 1) := by decide +kernel
theorem dX0_findValue_27 : decode cX0_findValue 27 = .ok (.ifCond .ne 10, 3) := by decide +kernel
theorem dX0_findValue_30 : decode cX0_findValue 30 = .ok (.aload_n 0, 1) := by decide +kernel
theorem dX0_findValue_31 : decode cX0_findValue 31 = .ok (.getfield 9, 3) := by decide +kernel
theorem dX0_findValue_34 : decode cX0_findValue 34 = .ok (.iload_n 1, 1) := by decide +kernel
theorem dX0_findValue_35 : decode cX0_findValue 35 = .ok (.iaload, 1) := by decide +kernel
theorem dX0_findValue_36 : decode cX0_findValue 36 = .ok (.ireturn, 1) := by decide +kernel
theorem dX0_findValue_37 : decode cX0_findValue 37 = .ok (.aload_n 0, 1) := by decide +kernel
theorem dX0_findValue_38 : decode cX0_findValue 38 = .ok (.iload_n 1, 1) := by decide +kernel
theorem dX0_findValue_39 : decode cX0_findValue 39 = .ok (.iconst 0, 1) := by decide +kernel
theorem dX0_findValue_40 : decode cX0_findValue 40 = .ok (.iload_n 2, 1) := by decide +kernel
theorem dX0_findValue_41 : decode cX0_findValue 41 = .ok (.invokevirtual 88, 3) := by decide +kernel
theorem dX0_findValue_44 : decode cX0_findValue 44 = .ok (.istore_n 3, 1) := by decide +kernel
theorem dX0_findValue_45 : decode cX0_findValue 45 = .ok (.iconst 1, 1) := by decide +kernel
theorem dX0_findValue_46 : decode cX0_findValue 46 = .ok (.istore 4, 2) := by decide +kernel
theorem dX0_findValue_48 : decode cX0_findValue 48 = .ok (.iload 4, 2) := by decide +kernel
theorem dX0_findValue_50 : decode cX0_findValue 50 = .ok (.aload_n 0, 1) := by decide +kernel
theorem dX0_findValue_51 : decode cX0_findValue 51 = .ok (.getfield 17, 3) := by decide +kernel
theorem dX0_findValue_54 : decode cX0_findValue 54 = .ok (.iload_n 1, 1) := by decide +kernel
theorem dX0_findValue_55 : decode cX0_findValue 55 = .ok (.iaload, 1) := by decide +kernel
theorem dX0_findValue_56 : decode cX0_findValue 56 = .ok (.if_icmp .ge 29, 3) := by decide +kernel
theorem dX0_findValue_59 : decode cX0_findValue 59 = .ok (.iload_n 3, 1) := by decide +kernel
theorem dX0_findValue_60 : decode cX0_findValue 60 = .ok (.sipush 999, 3) := by decide +kernel
theorem dX0_findValue_63 : decode cX0_findValue 63 = .ok (.if_icmp .ge 22, 3) := by decide +kernel
theorem dX0_findValue_66 : decode cX0_findValue 66 = .ok (.iload_n 3, 1) := by decide +kernel
theorem dX0_findValue_67 : decode cX0_findValue 67 = .ok (.aload_n 0, 1) := by decide +kernel
theorem dX0_findValue_68 : decode cX0_findValue 68 = .ok (.iload_n 1, 1) := by decide +kernel
theorem dX0_findValue_69 : decode cX0_findValue 69 = .ok (.iload 4, 2) := by decide +kernel
theorem dX0_findValue_71 : decode cX0_findValue 71 = .ok (.iload_n 2, 1) := by decide +kernel
theorem dX0_findValue_72 : decode cX0_findValue 72 = .ok (.invokevirtual 88, 3) := by decide +kernel
theorem dX0_findValue_75 : decode cX0_findValue 75 = .ok (.invokestatic 112, 3) := by decide +kernel
theorem dX0_findValue_78 : decode cX0_findValue 78 = .ok (.istore_n 3, 1) := by decide +kernel
theorem dX0_findValue_79 : decode cX0_findValue 79 = .ok (.iinc 4 1, 3) := by decide +kernel
theorem dX0_findValue_82 : decode cX0_findValue 82 = .ok (.goto (-34), 3) := by decide +kernel
theorem dX0_findValue_85 : decode cX0_findValue 85 = .ok (.iload_n 3, 1) := by decide +kernel
theorem dX0_findValue_86 : decode cX0_findValue 86 = .ok (.ireturn, 1) := by decide +kernel
theorem dX0_moveValue_0 : decode cX0_moveValue 0 = .ok (.aload_n 0, 1) := by decide +kernel
theorem dX0_moveValue_1 : decode cX0_moveValue 1 = .ok (.getfield 32, 3) := by decide +kernel
theorem dX0_moveValue_4 : decode cX0_moveValue 4 = .ok (.iload_n 3, 1) := by decide +kernel
theorem dX0_moveValue_5 : decode cX0_moveValue 5 = .ok (.iconst 1, 1) := by decide +kernel
theorem dX0_moveValue_6 : decode cX0_moveValue 6 = .ok (.isub, 1) := by decide +kernel
theorem dX0_moveValue_7 : decode cX0_moveValue 7 = .ok (.aaload, 1) := by decide +kernel
theorem dX0_moveValue_8 : decode cX0_moveValue 8 = .ok (.aload_n 0, 1) := by decide +kernel
theorem dX0_moveValue_9 : decode cX0_moveValue 9 = .ok (.getfield 20, 3) := by decide +kernel
theorem dX0_moveValue_12 : decode cX0_moveValue 12 = .ok (.iload_n 1, 1) := by decide +kernel
theorem dX0_moveValue_13 : decode cX0_moveValue 13 = .ok (.iload_n 2, 1) := by decide +kernel
theorem dX0_moveValue_14 : decode cX0_moveValue 14 = .ok (.invokestatic 73, 3) := by decide +kernel
theorem dX0_moveValue_17 : decode cX0_moveValue 17 = .ok (.iaload, 1) := by decide +kernel
theorem dX0_moveValue_18 : decode cX0_moveValue 18 = .ok (.iaload, 1) := by decide +kernel
theorem dX0_moveValue_19 : decode cX0_moveValue 19 = .ok (.invokestatic 117, 3) := by decide +kernel
theorem dX0_moveValue_22 : decode cX0_moveValue 22 = .ok (.ireturn, 1) := by decide +kernel
theorem dX0_halfMoveBack_0 : decode cX0_halfMoveBack 0 = .ok (.iload_n 0, 1) := by decide +kernel
theorem dX0_halfMoveBack_1 : decode cX0_halfMoveBack 1 = .ok (.ineg, 1) := by decide +kernel
theorem dX0_halfMoveBack_2 : decode cX0_halfMoveBack 2 = .ok (.istore_n 1, 1) := by decide +kernel
theorem dX0_halfMoveBack_3 : decode cX0_halfMoveBack 3 = .ok (.iload_n 1, 1) := by decide +kernel
theorem dX0_halfMoveBack_4 : decode cX0_halfMoveBack 4 = .ok (.sipush (-900), 3) := by decide +kernel
theorem dX0_halfMoveBack_7 : decode cX0_halfMoveBack 7 = .ok (.if_icmp .ge 7, 3) := by decide +kernel
theorem dX0_halfMoveBack_10 : decode cX0_halfMoveBack 10 = .ok (.iload_n 1, 1) := by decide +kernel
theorem dX0_halfMoveBack_11 : decode cX0_halfMoveBack 11 = .ok (.iconst 1, 1) := by decide +kernel
theorem dX0_halfMoveBack_12 : decode cX0_halfMoveBack 12 = .ok (.iadd, 1) := by decide +kernel
theorem dX0_halfMoveBack_13 : decode cX0_halfMoveBack 13 = .ok (.ireturn, 1) := by decide +kernel
theorem dX0_halfMoveBack_14 : decode cX0_halfMoveBack 14 = .ok (.iload_n 1, 1) := by decide +kernel
theorem dX0_halfMoveBack_15 : decode cX0_halfMoveBack 15 = .ok (.sipush 900, 3) := by decide +kernel
theorem dX0_halfMoveBack_18 : decode cX0_halfMoveBack 18 = .ok (.if_icmp .le 7, 3) := by decide +kernel
theorem dX0_halfMoveBack_21 : decode cX0_halfMoveBack 21 = .ok (.iload_n 1, 1) := by decide +kernel
theorem dX0_halfMoveBack_22 : decode cX0_halfMoveBack 22 = .ok (.iconst 1, 1) := by decide +kernel
theorem dX0_halfMoveBack_23 : decode cX0_halfMoveBack 23 = .ok (.isub, 1) := by decide +kernel
theorem dX0_halfMoveBack_24 : decode cX0_halfMoveBack 24 = .ok (.ireturn, 1) := by decide +kernel
theorem dX0_halfMoveBack_25 : decode cX0_halfMoveBack 25 = .ok (.iload_n 1, 1) := by decide +kernel
theorem dX0_halfMoveBack_26 : decode cX0_halfMoveBack 26 = .ok (.ireturn, 1) := by decide +kernel
theorem dX0_bestMove_0 : decode cX0_bestMove 0 = .ok (.iload_n 2, 1) := by decide +kernel
theorem dX0_bestMove_1 : decode cX0_bestMove 1 = .ok (.ifCond .ne 5, 3) := by decide +kernel
theorem dX0_bestMove_4 : decode cX0_bestMove 4 = .ok (.iconst (-1), 1) := by decide +kernel
theorem dX0_bestMove_5 : decode cX0_bestMove 5 = .ok (.ireturn, 1) := by decide +kernel
theorem dX0_bestMove_6 : decode cX0_bestMove 6 = .ok (.iconst 0, 1) := by decide +kernel
theorem dX0_bestMove_7 : decode cX0_bestMove 7 = .ok (.istore_n 3, 1) := by decide +kernel
theorem dX0_bestMove_8 : decode cX0_bestMove 8 = .ok (.iload_n 3, 1) := by decide +kernel
theorem dX0_bestMove_9 : decode cX0_bestMove 9 = .ok (.aload_n 0, 1) := by decide +kernel
theorem dX0_bestMove_10 : decode cX0_bestMove 10 = .ok (.getfield 17, 3) := by decide +kernel
theorem dX0_bestMove_13 : decode cX0_bestMove 13 = .ok (.iload_n 1, 1) := by decide +kernel
theorem dX0_bestMove_14 : decode cX0_bestMove 14 = .ok (.iaload, 1) := by decide +kernel
theorem dX0_bestMove_15 : decode cX0_bestMove 15 = .ok (.if_icmp .ge 29, 3) := by decide +kernel
theorem dX0_bestMove_18 : decode cX0_bestMove 18 = .ok (.aload_n 0, 1) := by decide +kernel
theorem dX0_bestMove_19 : decode cX0_bestMove 19 = .ok (.iload_n 1, 1) := by decide +kernel
theorem dX0_bestMove_20 : decode cX0_bestMove 20 = .ok (.iload_n 3, 1) := by decide +kernel
theorem dX0_bestMove_21 : decode cX0_bestMove 21 = .ok (.iload_n 2, 1) := by decide +kernel
theorem dX0_bestMove_22 : decode cX0_bestMove 22 = .ok (.invokevirtual 88, 3) := by decide +kernel
theorem dX0_bestMove_25 : decode cX0_bestMove 25 = .ok (.aload_n 0, 1) := by decide +kernel
theorem dX0_bestMove_26 : decode cX0_bestMove 26 = .ok (.getfield 32, 3) := by decide +kernel
theorem dX0_bestMove_29 : decode cX0_bestMove 29 = .ok (.iload_n 2, 1) := by decide +kernel
theorem dX0_bestMove_30 : decode cX0_bestMove 30 = .ok (.aaload, 1) := by decide +kernel
theorem dX0_bestMove_31 : decode cX0_bestMove 31 = .ok (.iload_n 1, 1) := by decide +kernel
theorem dX0_bestMove_32 : decode cX0_bestMove 32 = .ok (.iaload, 1) := by decide +kernel
theorem dX0_bestMove_33 : decode cX0_bestMove 33 = .ok (.if_icmp .ne 5, 3) := by decide +kernel
theorem dX0_bestMove_36 : decode cX0_bestMove 36 = .ok (.iload_n 3, 1) := by decide +kernel
theorem dX0_bestMove_37 : decode cX0_bestMove 37 = .ok (.ireturn, 1) := by decide +kernel
theorem dX0_bestMove_38 : decode cX0_bestMove 38 = .ok (.iinc 3 1, 3) := by decide +kernel
theorem dX0_bestMove_41 : decode cX0_bestMove 41 = .ok (.goto (-33), 3) := by decide +kernel
theorem dX0_bestMove_44 : decode cX0_bestMove 44 = .ok (.iconst (-1), 1) := by decide +kernel
theorem dX0_bestMove_45 : decode cX0_bestMove 45 = .ok (.ireturn, 1) := by decide +kernel
theorem dX0_forgetMet_0 : decode cX0_forgetMet 0 = .ok (.iconst 0, 1) := by decide +kernel
theorem dX0_forgetMet_1 : decode cX0_forgetMet 1 = .ok (.istore_n 1, 1) := by decide +kernel
theorem dX0_forgetMet_2 : decode cX0_forgetMet 2 = .ok (.iload_n 1, 1) := by decide +kernel
theorem dX0_forgetMet_3 : decode cX0_forgetMet 3 = .ok (.aload_n 0, 1) := by decide +kernel
theorem dX0_forgetMet_4 : decode cX0_forgetMet 4 = .ok (.getfield 44, 3) := by decide +kernel
theorem dX0_forgetMet_7 : decode cX0_forgetMet 7 = .ok (.if_icmp .ge 21, 3) := by decide +kernel
theorem dX0_forgetMet_10 : decode cX0_forgetMet 10 = .ok (.aload_n 0, 1) := by decide +kernel
theorem dX0_forgetMet_11 : decode cX0_forgetMet 11 = .ok (.getfield 41, 3) := by decide +kernel
theorem dX0_forgetMet_14 : decode cX0_forgetMet 14 = .ok (.aload_n 0, 1) := by decide +kernel
theorem dX0_forgetMet_15 : decode cX0_forgetMet 15 = .ok (.getfield 38, 3) := by decide +kernel
theorem dX0_forgetMet_18 : decode cX0_forgetMet 18 = .ok (.iload_n 1, 1) := by decide +kernel
theorem dX0_forgetMet_19 : decode cX0_forgetMet 19 = .ok (.iaload, 1) := by decide +kernel
theorem dX0_forgetMet_20 : decode cX0_forgetMet 20 = .ok (.iconst 0, 1) := by decide +kernel
theorem dX0_forgetMet_21 : decode cX0_forgetMet 21 = .ok (.bastore, 1) := by decide +kernel
theorem dX0_forgetMet_22 : decode cX0_forgetMet 22 = .ok (.iinc 1 1, 3) := by decide +kernel
theorem dX0_forgetMet_25 : decode cX0_forgetMet 25 = .ok (.goto (-23), 3) := by decide +kernel
theorem dX0_forgetMet_28 : decode cX0_forgetMet 28 = .ok (.aload_n 0, 1) := by decide +kernel
theorem dX0_forgetMet_29 : decode cX0_forgetMet 29 = .ok (.iconst 0, 1) := by decide +kernel
theorem dX0_forgetMet_30 : decode cX0_forgetMet 30 = .ok (.putfield 44, 3) := by decide +kernel
theorem dX0_forgetMet_33 : decode cX0_forgetMet 33 = .ok (.return_, 1) := by decide +kernel
theorem dX0_meet_0 : decode cX0_meet 0 = .ok (.aload_n 0, 1) := by decide +kernel
theorem dX0_meet_1 : decode cX0_meet 1 = .ok (.getfield 41, 3) := by decide +kernel
theorem dX0_meet_4 : decode cX0_meet 4 = .ok (.iload_n 1, 1) := by decide +kernel
theorem dX0_meet_5 : decode cX0_meet 5 = .ok (.baload, 1) := by decide +kernel
theorem dX0_meet_6 : decode cX0_meet 6 = .ok (.ifCond .ne 30, 3) := by decide +kernel
theorem dX0_meet_9 : decode cX0_meet 9 = .ok (.aload_n 0, 1) := by decide +kernel
theorem dX0_meet_10 : decode cX0_meet 10 = .ok (.getfield 41, 3) := by decide +kernel
theorem dX0_meet_13 : decode cX0_meet 13 = .ok (.iload_n 1, 1) := by decide +kernel
theorem dX0_meet_14 : decode cX0_meet 14 = .ok (.iconst 1, 1) := by decide +kernel
theorem dX0_meet_15 : decode cX0_meet 15 = .ok (.bastore, 1) := by decide +kernel
theorem dX0_meet_16 : decode cX0_meet 16 = .ok (.aload_n 0, 1) := by decide +kernel
theorem dX0_meet_17 : decode cX0_meet 17 = .ok (.getfield 38, 3) := by decide +kernel
theorem dX0_meet_20 : decode cX0_meet 20 = .ok (.aload_n 0, 1) := by decide +kernel
theorem dX0_meet_21 : decode cX0_meet 21 = .ok (.getfield 44, 3) := by decide +kernel
theorem dX0_meet_24 : decode cX0_meet 24 = .ok (.iload_n 1, 1) := by decide +kernel
theorem dX0_meet_25 : decode cX0_meet 25 = .ok (.iastore, 1) := by decide +kernel
theorem dX0_meet_26 : decode cX0_meet 26 = .ok (.aload_n 0, 1) := by decide +kernel
theorem dX0_meet_27 : decode cX0_meet 27 = .ok (.dup, 1) := by decide +kernel
theorem dX0_meet_28 : decode cX0_meet 28 = .ok (.getfield 44, 3) := by decide +kernel
theorem dX0_meet_31 : decode cX0_meet 31 = .ok (.iconst 1, 1) := by decide +kernel
theorem dX0_meet_32 : decode cX0_meet 32 = .ok (.iadd, 1) := by decide +kernel
theorem dX0_meet_33 : decode cX0_meet 33 = .ok (.putfield 44, 3) := by decide +kernel
theorem dX0_meet_36 : decode cX0_meet 36 = .ok (.return_, 1) := by decide +kernel
theorem dX0_meetTargets_0 : decode cX0_meetTargets 0 = .ok (.iconst 0, 1) := by decide +kernel
theorem dX0_meetTargets_1 : decode cX0_meetTargets 1 = .ok (.istore_n 2, 1) := by decide +kernel
theorem dX0_meetTargets_2 : decode cX0_meetTargets 2 = .ok (.iload_n 2, 1) := by decide +kernel
theorem dX0_meetTargets_3 : decode cX0_meetTargets 3 = .ok (.aload_n 0, 1) := by decide +kernel
theorem dX0_meetTargets_4 : decode cX0_meetTargets 4 = .ok (.getfield 17, 3) := by decide +kernel
theorem dX0_meetTargets_7 : decode cX0_meetTargets 7 = .ok (.iload_n 1, 1) := by decide +kernel
theorem dX0_meetTargets_8 : decode cX0_meetTargets 8 = .ok (.iaload, 1) := by decide +kernel
theorem dX0_meetTargets_9 : decode cX0_meetTargets 9 = .ok (.if_icmp .ge 23, 3) := by decide +kernel
theorem dX0_meetTargets_12 : decode cX0_meetTargets 12 = .ok (.aload_n 0, 1) := by decide +kernel
theorem dX0_meetTargets_13 : decode cX0_meetTargets 13 = .ok (.aload_n 0, 1) := by decide +kernel
theorem dX0_meetTargets_14 : decode cX0_meetTargets 14 = .ok (.getfield 20, 3) := by decide +kernel
theorem dX0_meetTargets_17 : decode cX0_meetTargets 17 = .ok (.iload_n 1, 1) := by decide +kernel
theorem dX0_meetTargets_18 : decode cX0_meetTargets 18 = .ok (.iload_n 2, 1) := by decide +kernel
theorem dX0_meetTargets_19 : decode cX0_meetTargets 19 = .ok (.invokestatic 73, 3) := by decide +kernel
theorem dX0_meetTargets_22 : decode cX0_meetTargets 22 = .ok (.iaload, 1) := by decide +kernel
theorem dX0_meetTargets_23 : decode cX0_meetTargets 23 = .ok (.invokevirtual 98, 3) := by decide +kernel
theorem dX0_meetTargets_26 : decode cX0_meetTargets 26 = .ok (.iinc 2 1, 3) := by decide +kernel
theorem dX0_meetTargets_29 : decode cX0_meetTargets 29 = .ok (.goto (-27), 3) := by decide +kernel
theorem dX0_meetTargets_32 : decode cX0_meetTargets 32 = .ok (.return_, 1) := by decide +kernel
