theorem dX1_init_0 : decode cX1_init 0 = .ok (.aload_n 0, 1) := by decide +kernel
theorem dX1_init_1 : decode cX1_init 1 = .ok (.invokespecial 1, 3) := by decide +kernel
theorem dX1_init_4 : decode cX1_init 4 = .ok (.aload_n 0, 1) := by decide +kernel
theorem dX1_init_5 : decode cX1_init 5 = .ok (.sipush 400, 3) := by decide +kernel
theorem dX1_init_8 : decode cX1_init 8 = .ok (.newarray .int, 2) := by decide +kernel
theorem dX1_init_10 : decode cX1_init 10 = .ok (.putfield 7, 3) := by decide +kernel
theorem dX1_init_13 : decode cX1_init 13 = .ok (.aload_n 0, 1) := by decide +kernel
theorem dX1_init_14 : decode cX1_init 14 = .ok (.sipush 400, 3) := by decide +kernel
theorem dX1_init_17 : decode cX1_init 17 = .ok (.newarray .boolean, 2) := by decide +kernel
theorem dX1_init_19 : decode cX1_init 19 = .ok (.putfield 13, 3) := by decide +kernel
theorem dX1_init_22 : decode cX1_init 22 = .ok (.aload_n 0, 1) := by decide +kernel
theorem dX1_init_23 : decode cX1_init 23 = .ok (.sipush 400, 3) := by decide +kernel
theorem dX1_init_26 : decode cX1_init 26 = .ok (.newarray .int, 2) := by decide +kernel
theorem dX1_init_28 : decode cX1_init 28 = .ok (.putfield 17, 3) := by decide +kernel
theorem dX1_init_31 : decode cX1_init 31 = .ok (.aload_n 0, 1) := by decide +kernel
theorem dX1_init_32 : decode cX1_init 32 = .ok (.sipush 2400, 3) := by decide +kernel
theorem dX1_init_35 : decode cX1_init 35 = .ok (.newarray .int, 2) := by decide +kernel
theorem dX1_init_37 : decode cX1_init 37 = .ok (.putfield 20, 3) := by decide +kernel
theorem dX1_init_40 : decode cX1_init 40 = .ok (.aload_n 0, 1) := by decide +kernel
theorem dX1_init_41 : decode cX1_init 41 = .ok (.sipush 3200, 3) := by decide +kernel
theorem dX1_init_44 : decode cX1_init 44 = .ok (.newarray .int, 2) := by decide +kernel
theorem dX1_init_46 : decode cX1_init 46 = .ok (.putfield 23, 3) := by decide +kernel
theorem dX1_init_49 : decode cX1_init 49 = .ok (.aload_n 0, 1) := by decide +kernel
theorem dX1_init_50 : decode cX1_init 50 = .ok (.sipush 400, 3) := by decide +kernel
theorem dX1_init_53 : decode cX1_init 53 = .ok (.newarray .int, 2) := by decide +kernel
theorem dX1_init_55 : decode cX1_init 55 = .ok (.putfield 26, 3) := by decide +kernel
theorem dX1_init_58 : decode cX1_init 58 = .ok (.return_, 1) := by decide +kernel
theorem dX1_thrown_0 : decode cX1_thrown 0 = .ok (.aload_n 0, 1) := by decide +kernel
theorem dX1_thrown_1 : decode cX1_thrown 1 = .ok (.getfield 29, 3) := by decide +kernel
theorem dX1_thrown_4 : decode cX1_thrown 4 = .ok (.ireturn, 1) := by decide +kernel
theorem dX1_isNode_0 : decode cX1_isNode 0 = .ok (.iload_n 1, 1) := by decide +kernel
theorem dX1_isNode_1 : decode cX1_isNode 1 = .ok (.ifCond .lt 15, 3) := by decide +kernel
theorem dX1_isNode_4 : decode cX1_isNode 4 = .ok (.iload_n 1, 1) := by decide +kernel
theorem dX1_isNode_5 : decode cX1_isNode 5 = .ok (.aload_n 0, 1) := by decide +kernel
theorem dX1_isNode_6 : decode cX1_isNode 6 = .ok (.getfield 33, 3) := by decide +kernel
theorem dX1_isNode_9 : decode cX1_isNode 9 = .ok (.if_icmp .ge 7, 3) := by decide +kernel
theorem dX1_isNode_12 : decode cX1_isNode 12 = .ok (.iconst 1, 1) := by decide +kernel
theorem dX1_isNode_13 : decode cX1_isNode 13 = .ok (.goto 4, 3) := by decide +kernel
theorem dX1_isNode_16 : decode cX1_isNode 16 = .ok (.iconst 0, 1) := by decide +kernel
theorem dX1_isNode_17 : decode cX1_isNode 17 = .ok (.ireturn, 1) := by decide +kernel
theorem dX1_isWorth_0 : decode cX1_isWorth 0 = .ok (.iload_n 0, 1) := by decide +kernel
theorem dX1_isWorth_1 : decode cX1_isWorth 1 = .ok (.sipush (-500), 3) := by decide +kernel
theorem dX1_isWorth_4 : decode cX1_isWorth 4 = .ok (.if_icmp .lt 14, 3) := by decide +kernel
theorem dX1_isWorth_7 : decode cX1_isWorth 7 = .ok (.iload_n 0, 1) := by decide +kernel
theorem dX1_isWorth_8 : decode cX1_isWorth 8 = .ok (.sipush 500, 3) := by decide +kernel
theorem dX1_isWorth_11 : decode cX1_isWorth 11 = .ok (.if_icmp .gt 7, 3) := by decide +kernel
theorem dX1_isWorth_14 : decode cX1_isWorth 14 = .ok (.iconst 1, 1) := by decide +kernel
theorem dX1_isWorth_15 : decode cX1_isWorth 15 = .ok (.goto 4, 3) := by decide +kernel
theorem dX1_isWorth_18 : decode cX1_isWorth 18 = .ok (.iconst 0, 1) := by decide +kernel
theorem dX1_isWorth_19 : decode cX1_isWorth 19 = .ok (.ireturn, 1) := by decide +kernel
theorem dX1_node_0 : decode cX1_node 0 = .ok (.aload_n 0, 1) := by decide +kernel
theorem dX1_node_1 : decode cX1_node 1 = .ok (.iload_n 1, 1) := by decide +kernel
theorem dX1_node_2 : decode cX1_node 2 = .ok (.invokestatic 36, 3) := by decide +kernel
theorem dX1_node_5 : decode cX1_node 5 = .ok (.ifCond .ne 7, 3) := by decide +kernel
theorem dX1_node_8 : decode cX1_node 8 = .ok (.iconst 1, 1) := by decide +kernel
theorem dX1_node_9 : decode cX1_node 9 = .ok (.goto 18, 3) := by decide +kernel
theorem dX1_node_12 : decode cX1_node 12 = .ok (.aload_n 0, 1) := by decide +kernel
theorem dX1_node_13 : decode cX1_node 13 = .ok (.getfield 33, 3) := by decide +kernel
theorem dX1_node_16 : decode cX1_node 16 = .ok (.sipush 400, 3) := by decide +kernel
theorem dX1_node_19 : decode cX1_node 19 = .ok (.if_icmp .ne 7, 3) := by decide +kernel
theorem dX1_node_22 : decode cX1_node 22 = .ok (.iconst 2, 1) := by decide +kernel
theorem dX1_node_23 : decode cX1_node 23 = .ok (.goto 4, 3) := by decide +kernel
theorem dX1_node_26 : decode cX1_node 26 = .ok (.iconst 0, 1) := by decide +kernel
theorem dX1_node_27 : decode cX1_node 27 = .ok (.putfield 29, 3) := by decide +kernel
theorem dX1_node_30 : decode cX1_node 30 = .ok (.aload_n 0, 1) := by decide +kernel
theorem dX1_node_31 : decode cX1_node 31 = .ok (.getfield 29, 3) := by decide +kernel
theorem dX1_node_34 : decode cX1_node 34 = .ok (.ifCond .le 5, 3) := by decide +kernel
theorem dX1_node_37 : decode cX1_node 37 = .ok (.iconst 0, 1) := by decide +kernel
theorem dX1_node_38 : decode cX1_node 38 = .ok (.ireturn, 1) := by decide +kernel
theorem dX1_node_39 : decode cX1_node 39 = .ok (.aload_n 0, 1) := by decide +kernel
theorem dX1_node_40 : decode cX1_node 40 = .ok (.getfield 7, 3) := by decide +kernel
theorem dX1_node_43 : decode cX1_node 43 = .ok (.aload_n 0, 1) := by decide +kernel
theorem dX1_node_44 : decode cX1_node 44 = .ok (.getfield 33, 3) := by decide +kernel
theorem dX1_node_47 : decode cX1_node 47 = .ok (.iload_n 1, 1) := by decide +kernel
theorem dX1_node_48 : decode cX1_node 48 = .ok (.iastore, 1) := by decide +kernel
theorem dX1_node_49 : decode cX1_node 49 = .ok (.aload_n 0, 1) := by decide +kernel
theorem dX1_node_50 : decode cX1_node 50 = .ok (.getfield 13, 3) := by decide +kernel
theorem dX1_node_53 : decode cX1_node 53 = .ok (.aload_n 0, 1) := by decide +kernel
theorem dX1_node_54 : decode cX1_node 54 = .ok (.getfield 33, 3) := by decide +kernel
theorem dX1_node_57 : decode cX1_node 57 = .ok (.iload_n 2, 1) := by decide +kernel
theorem dX1_node_58 : decode cX1_node 58 = .ok (.bastore, 1) := by decide +kernel
theorem dX1_node_59 : decode cX1_node 59 = .ok (.aload_n 0, 1) := by decide +kernel
theorem dX1_node_60 : decode cX1_node 60 = .ok (.getfield 17, 3) := by decide +kernel
theorem dX1_node_63 : decode cX1_node 63 = .ok (.aload_n 0, 1) := by decide +kernel
theorem dX1_node_64 : decode cX1_node 64 = .ok (.getfield 33, 3) := by decide +kernel
theorem dX1_node_67 : decode cX1_node 67 = .ok (.iconst 0, 1) := by decide +kernel
theorem dX1_node_68 : decode cX1_node 68 = .ok (.iastore, 1) := by decide +kernel
theorem dX1_node_69 : decode cX1_node 69 = .ok (.aload_n 0, 1) := by decide +kernel
theorem dX1_node_70 : decode cX1_node 70 = .ok (.dup, 1) := by decide +kernel
theorem dX1_node_71 : decode cX1_node 71 = .ok (.getfield 33, 3) := by decide +kernel
theorem dX1_node_74 : decode cX1_node 74 = .ok (.iconst 1, 1) := by decide +kernel
theorem dX1_node_75 : decode cX1_node 75 = .ok (.iadd, 1) := by decide +kernel
theorem dX1_node_76 : decode cX1_node 76 = .ok (.putfield 33, 3) := by decide +kernel
theorem dX1_node_79 : decode cX1_node 79 = .ok (.aload_n 0, 1) := by decide +kernel
theorem dX1_node_80 : decode cX1_node 80 = .ok (.getfield 33, 3) := by decide +kernel
theorem dX1_node_83 : decode cX1_node 83 = .ok (.iconst 1, 1) := by decide +kernel
theorem dX1_node_84 : decode cX1_node 84 = .ok (.isub, 1) := by decide +kernel
theorem dX1_node_85 : decode cX1_node 85 = .ok (.ireturn, 1) := by decide +kernel
theorem dX1_move_0 : decode cX1_move 0 = .ok (.aload_n 0, 1) := by decide +kernel
theorem dX1_move_1 : decode cX1_move 1 = .ok (.aload_n 0, 1) := by decide +kernel
theorem dX1_move_2 : decode cX1_move 2 = .ok (.iload_n 1, 1) := by decide +kernel
theorem dX1_move_3 : decode cX1_move 3 = .ok (.invokevirtual 40, 3) := by decide +kernel
theorem dX1_move_6 : decode cX1_move 6 = .ok (.ifCond .eq 15, 3) := by decide +kernel
theorem dX1_move_9 : decode cX1_move 9 = .ok (.aload_n 0, 1) := by decide +kernel
theorem dX1_move_10 : decode cX1_move 10 = .ok (.iload_n 2, 1) := by decide +kernel
theorem dX1_move_11 : decode cX1_move 11 = .ok (.invokevirtual 40, 3) := by decide +kernel
theorem dX1_move_14 : decode cX1_move 14 = .ok (.ifCond .eq 7, 3) := by decide +kernel
theorem dX1_move_17 : decode cX1_move 17 = .ok (.iconst 0, 1) := by decide +kernel
theorem dX1_move_18 : decode cX1_move 18 = .ok (.goto 4, 3) := by decide +kernel
theorem dX1_move_21 : decode cX1_move 21 = .ok (.iconst 1, 1) := by decide +kernel
theorem dX1_move_22 : decode cX1_move 22 = .ok (.putfield 29, 3) := by decide +kernel
theorem dX1_move_25 : decode cX1_move 25 = .ok (.aload_n 0, 1) := by decide +kernel
theorem dX1_move_26 : decode cX1_move 26 = .ok (.getfield 29, 3) := by decide +kernel
theorem dX1_move_29 : decode cX1_move 29 = .ok (.ifCond .le 5, 3) := by decide +kernel
theorem dX1_move_32 : decode cX1_move 32 = .ok (.iconst 0, 1) := by decide +kernel
theorem dX1_move_33 : decode cX1_move 33 = .ok (.ireturn, 1) := by decide +kernel
theorem dX1_move_34 : decode cX1_move 34 = .ok (.aload_n 0, 1) := by decide +kernel
theorem dX1_move_35 : decode cX1_move 35 = .ok (.aload_n 0, 1) := by decide +kernel
theorem dX1_move_36 : decode cX1_move 36 = .ok (.getfield 17, 3) := by decide +kernel
theorem dX1_move_39 : decode cX1_move 39 = .ok (.iload_n 1, 1) := by decide +kernel
theorem dX1_move_40 : decode cX1_move 40 = .ok (.iaload, 1) := by decide +kernel
theorem dX1_move_41 : decode cX1_move 41 = .ok (.bipush 6, 2) := by decide +kernel
theorem dX1_move_43 : decode cX1_move 43 = .ok (.if_icmp .ne 7, 3) := by decide +kernel
theorem dX1_move_46 : decode cX1_move 46 = .ok (.iconst 2, 1) := by decide +kernel
theorem dX1_move_47 : decode cX1_move 47 = .ok (.goto 4, 3) := by decide +kernel
theorem dX1_move_50 : decode cX1_move 50 = .ok (.iconst 0, 1) := by decide +kernel
theorem dX1_move_51 : decode cX1_move 51 = .ok (.putfield 29, 3) := by decide +kernel
theorem dX1_move_54 : decode cX1_move 54 = .ok (.aload_n 0, 1) := by decide +kernel
theorem dX1_move_55 : decode cX1_move 55 = .ok (.getfield 29, 3) := by decide +kernel
theorem dX1_move_58 : decode cX1_move 58 = .ok (.ifCond .le 5, 3) := by decide +kernel
theorem dX1_move_61 : decode cX1_move 61 = .ok (.iconst 0, 1) := by decide +kernel
theorem dX1_move_62 : decode cX1_move 62 = .ok (.ireturn, 1) := by decide +kernel
theorem dX1_move_63 : decode cX1_move 63 = .ok (.aload_n 0, 1) := by decide +kernel
theorem dX1_move_64 : decode cX1_move 64 = .ok (.getfield 20, 3) := by decide +kernel
theorem dX1_move_67 : decode cX1_move 67 = .ok (.bipush 6, 2) := by decide +kernel
theorem dX1_move_69 : decode cX1_move 69 = .ok (.iload_n 1, 1) := by decide +kernel
theorem dX1_move_70 : decode cX1_move 70 = .ok (.imul, 1) := by decide +kernel
theorem dX1_move_71 : decode cX1_move 71 = .ok (.aload_n 0, 1) := by decide +kernel
theorem dX1_move_72 : decode cX1_move 72 = .ok (.getfield 17, 3) := by decide +kernel
theorem dX1_move_75 : decode cX1_move 75 = .ok (.iload_n 1, 1) := by decide +kernel
theorem dX1_move_76 : decode cX1_move 76 = .ok (.iaload, 1) := by decide +kernel
theorem dX1_move_77 : decode cX1_move 77 = .ok (.iadd, 1) := by decide +kernel
theorem dX1_move_78 : decode cX1_move 78 = .ok (.iload_n 2, 1) := by decide +kernel
theorem dX1_move_79 : decode cX1_move 79 = .ok (.iastore, 1) := by decide +kernel
theorem dX1_move_80 : decode cX1_move 80 = .ok (.aload_n 0, 1) := by decide +kernel
theorem dX1_move_81 : decode cX1_move 81 = .ok (.getfield 17, 3) := by decide +kernel
theorem dX1_move_84 : decode cX1_move 84 = .ok (.iload_n 1, 1) := by decide +kernel
theorem dX1_move_85 : decode cX1_move 85 = .ok (.dup2, 1) := by decide +kernel
theorem dX1_move_86 : decode cX1_move 86 = .ok (.iaload, 1) := by decide +kernel
theorem dX1_move_87 : decode cX1_move 87 = .ok (.iconst 1, 1) := by decide +kernel
theorem dX1_move_88 : decode cX1_move 88 = .ok (.iadd, 1) := by decide +kernel
theorem dX1_move_89 : decode cX1_move 89 = .ok (.iastore, 1) := by decide +kernel
theorem dX1_move_90 : decode cX1_move 90 = .ok (.aload_n 0, 1) := by decide +kernel
theorem dX1_move_91 : decode cX1_move 91 = .ok (.getfield 17, 3) := by decide +kernel
theorem dX1_move_94 : decode cX1_move 94 = .ok (.iload_n 1, 1) := by decide +kernel
theorem dX1_move_95 : decode cX1_move 95 = .ok (.iaload, 1) := by decide +kernel
theorem dX1_move_96 : decode cX1_move 96 = .ok (.iconst 1, 1) := by decide +kernel
theorem dX1_move_97 : decode cX1_move 97 = .ok (.isub, 1) := by decide +kernel
theorem dX1_move_98 : decode cX1_move 98 = .ok (.ireturn, 1) := by decide +kernel
theorem dX1_drop_0 : decode cX1_drop 0 = .ok (.aload_n 0, 1) := by decide +kernel
theorem dX1_drop_1 : decode cX1_drop 1 = .ok (.iconst 0, 1) := by decide +kernel
theorem dX1_drop_2 : decode cX1_drop 2 = .ok (.putfield 29, 3) := by decide +kernel
theorem dX1_drop_5 : decode cX1_drop 5 = .ok (.aload_n 0, 1) := by decide +kernel
theorem dX1_drop_6 : decode cX1_drop 6 = .ok (.iload_n 1, 1) := by decide +kernel
theorem dX1_drop_7 : decode cX1_drop 7 = .ok (.invokevirtual 40, 3) := by decide +kernel
theorem dX1_drop_10 : decode cX1_drop 10 = .ok (.ifCond .eq 24, 3) := by decide +kernel
theorem dX1_drop_13 : decode cX1_drop 13 = .ok (.aload_n 0, 1) := by decide +kernel
theorem dX1_drop_14 : decode cX1_drop 14 = .ok (.getfield 17, 3) := by decide +kernel
theorem dX1_drop_17 : decode cX1_drop 17 = .ok (.aload_n 0, 1) := by decide +kernel
theorem dX1_drop_18 : decode cX1_drop 18 = .ok (.iload_n 1, 1) := by decide +kernel
theorem dX1_drop_19 : decode cX1_drop 19 = .ok (.invokevirtual 40, 3) := by decide +kernel
theorem dX1_drop_22 : decode cX1_drop 22 = .ok (.ifCond .eq 7, 3) := by decide +kernel
theorem dX1_drop_25 : decode cX1_drop 25 = .ok (.iload_n 1, 1) := by decide +kernel
theorem dX1_drop_26 : decode cX1_drop 26 = .ok (.goto 4, 3) := by decide +kernel
theorem dX1_drop_29 : decode cX1_drop 29 = .ok (.iconst 0, 1) := by decide +kernel
theorem dX1_drop_30 : decode cX1_drop 30 = .ok (.iaload, 1) := by decide +kernel
theorem dX1_drop_31 : decode cX1_drop 31 = .ok (.ifCond .ne 5, 3) := by decide +kernel
theorem dX1_drop_34 : decode cX1_drop 34 = .ok (.iconst 0, 1) := by decide +kernel
theorem dX1_drop_35 : decode cX1_drop 35 = .ok (.ireturn, 1) := by decide +kernel
theorem dX1_drop_36 : decode cX1_drop 36 = .ok (.aload_n 0, 1) := by decide +kernel
theorem dX1_drop_37 : decode cX1_drop 37 = .ok (.getfield 17, 3) := by decide +kernel
theorem dX1_drop_40 : decode cX1_drop 40 = .ok (.iload_n 1, 1) := by decide +kernel
theorem dX1_drop_41 : decode cX1_drop 41 = .ok (.dup2, 1) := by decide +kernel
theorem dX1_drop_42 : decode cX1_drop 42 = .ok (.iaload, 1) := by decide +kernel
theorem dX1_drop_43 : decode cX1_drop 43 = .ok (.iconst 1, 1) := by decide +kernel
theorem dX1_drop_44 : decode cX1_drop 44 = .ok (.isub, 1) := by decide +kernel
theorem dX1_drop_45 : decode cX1_drop 45 = .ok (.iastore, 1) := by decide +kernel
theorem dX1_drop_46 : decode cX1_drop 46 = .ok (.iconst 1, 1) := by decide +kernel
theorem dX1_drop_47 : decode cX1_drop 47 = .ok (.ireturn, 1) := by decide +kernel
theorem dX1_change_0 : decode cX1_change 0 = .ok (.aload_n 0, 1) := by decide +kernel
theorem dX1_change_1 : decode cX1_change 1 = .ok (.iconst 0, 1) := by decide +kernel
theorem dX1_change_2 : decode cX1_change 2 = .ok (.putfield 29, 3) := by decide +kernel
theorem dX1_change_5 : decode cX1_change 5 = .ok (.aload_n 0, 1) := by decide +kernel
theorem dX1_change_6 : decode cX1_change 6 = .ok (.iload_n 1, 1) := by decide +kernel
theorem dX1_change_7 : decode cX1_change 7 = .ok (.invokevirtual 40, 3) := by decide +kernel
theorem dX1_change_10 : decode cX1_change 10 = .ok (.ifCond .eq 10, 3) := by decide +kernel
theorem dX1_change_13 : decode cX1_change 13 = .ok (.iload_n 2, 1) := by decide +kernel
theorem dX1_change_14 : decode cX1_change 14 = .ok (.invokestatic 36, 3) := by decide +kernel
theorem dX1_change_17 : decode cX1_change 17 = .ok (.ifCond .ne 5, 3) := by decide +kernel
theorem dX1_change_20 : decode cX1_change 20 = .ok (.iconst 0, 1) := by decide +kernel
theorem dX1_change_21 : decode cX1_change 21 = .ok (.ireturn, 1) := by decide +kernel
theorem dX1_change_22 : decode cX1_change 22 = .ok (.aload_n 0, 1) := by decide +kernel
theorem dX1_change_23 : decode cX1_change 23 = .ok (.getfield 7, 3) := by decide +kernel
theorem dX1_change_26 : decode cX1_change 26 = .ok (.iload_n 1, 1) := by decide +kernel
theorem dX1_change_27 : decode cX1_change 27 = .ok (.iload_n 2, 1) := by decide +kernel
theorem dX1_change_28 : decode cX1_change 28 = .ok (.iastore, 1) := by decide +kernel
theorem dX1_change_29 : decode cX1_change 29 = .ok (.aload_n 0, 1) := by decide +kernel
theorem dX1_change_30 : decode cX1_change 30 = .ok (.getfield 13, 3) := by decide +kernel
theorem dX1_change_33 : decode cX1_change 33 = .ok (.iload_n 1, 1) := by decide +kernel
theorem dX1_change_34 : decode cX1_change 34 = .ok (.iload_n 3, 1) := by decide +kernel
theorem dX1_change_35 : decode cX1_change 35 = .ok (.bastore, 1) := by decide +kernel
theorem dX1_change_36 : decode cX1_change 36 = .ok (.iconst 1, 1) := by decide +kernel
theorem dX1_change_37 : decode cX1_change 37 = .ok (.ireturn, 1) := by decide +kernel
theorem dX1_behind_0 : decode cX1_behind 0 = .ok (.iload_n 0, 1) := by decide +kernel
theorem dX1_behind_1 : decode cX1_behind 1 = .ok (.ineg, 1) := by decide +kernel
theorem dX1_behind_2 : decode cX1_behind 2 = .ok (.sipush (-900), 3) := by decide +kernel
theorem dX1_behind_5 : decode cX1_behind 5 = .ok (.if_icmp .ge 10, 3) := by decide +kernel
theorem dX1_behind_8 : decode cX1_behind 8 = .ok (.iload_n 0, 1) := by decide +kernel
theorem dX1_behind_9 : decode cX1_behind 9 = .ok (.ineg, 1) := by decide +kernel
theorem dX1_behind_10 : decode cX1_behind 10 = .ok (.iconst 1, 1) := by decide +kernel
theorem dX1_behind_11 : decode cX1_behind 11 = .ok (.iadd, 1) := by decide +kernel
theorem dX1_behind_12 : decode cX1_behind 12 = .ok (.goto 20, 3) := by decide +kernel
theorem dX1_behind_15 : decode cX1_behind 15 = .ok (.iload_n 0, 1) := by decide +kernel
theorem dX1_behind_16 : decode cX1_behind 16 = .ok (.ineg, 1) := by decide +kernel
theorem dX1_behind_17 : decode cX1_behind 17 = .ok (.sipush 900, 3) := by decide +kernel
theorem dX1_behind_20 : decode cX1_behind 20 = .ok (.if_icmp .le 10, 3) := by decide +kernel
theorem dX1_behind_23 : decode cX1_behind 23 = .ok (.iload_n 0, 1) := by decide +kernel
theorem dX1_behind_24 : decode cX1_behind 24 = .ok (.ineg, 1) := by decide +kernel
theorem dX1_behind_25 : decode cX1_behind 25 = .ok (.iconst 1, 1) := by decide +kernel
theorem dX1_behind_26 : decode cX1_behind 26 = .ok (.isub, 1) := by decide +kernel
theorem dX1_behind_27 : decode cX1_behind 27 = .ok (.goto 5, 3) := by decide +kernel
theorem dX1_behind_30 : decode cX1_behind 30 = .ok (.iload_n 0, 1) := by decide +kernel
theorem dX1_behind_31 : decode cX1_behind 31 = .ok (.ineg, 1) := by decide +kernel
theorem dX1_behind_32 : decode cX1_behind 32 = .ok (.ireturn, 1) := by decide +kernel
theorem dX1_given_0 : decode cX1_given 0 = .ok (.aload_n 0, 1) := by decide +kernel
theorem dX1_given_1 : decode cX1_given 1 = .ok (.getfield 23, 3) := by decide +kernel
theorem dX1_given_4 : decode cX1_given 4 = .ok (.sipush 400, 3) := by decide +kernel
theorem dX1_given_7 : decode cX1_given 7 = .ok (.iload_n 3, 1) := by decide +kernel
theorem dX1_given_8 : decode cX1_given 8 = .ok (.iconst 1, 1) := by decide +kernel
theorem dX1_given_9 : decode cX1_given 9 = .ok (.isub, 1) := by decide +kernel
theorem dX1_given_10 : decode cX1_given 10 = .ok (.imul, 1) := by decide +kernel
theorem dX1_given_11 : decode cX1_given 11 = .ok (.aload_n 0, 1) := by decide +kernel
theorem dX1_given_12 : decode cX1_given 12 = .ok (.getfield 20, 3) := by decide +kernel
theorem dX1_given_15 : decode cX1_given 15 = .ok (.bipush 6, 2) := by decide +kernel
theorem dX1_given_17 : decode cX1_given 17 = .ok (.iload_n 1, 1) := by decide +kernel
theorem dX1_given_18 : decode cX1_given 18 = .ok (.imul, 1) := by decide +kernel
theorem dX1_given_19 : decode cX1_given 19 = .ok (.iload_n 2, 1) := by decide +kernel
theorem dX1_given_20 : decode cX1_given 20 = .ok (.iadd, 1) := by decide +kernel
theorem dX1_given_21 : decode cX1_given 21 = .ok (.iaload, 1) := by decide +kernel
theorem dX1_given_22 : decode cX1_given 22 = .ok (.iadd, 1) := by decide +kernel
theorem dX1_given_23 : decode cX1_given 23 = .ok (.iaload, 1) := by decide +kernel
theorem dX1_given_24 : decode cX1_given 24 = .ok (.invokestatic 43, 3) := by decide +kernel
theorem dX1_given_27 : decode cX1_given 27 = .ok (.ireturn, 1) := by decide +kernel
theorem dX1_greatest_0 : decode cX1_greatest 0 = .ok (.aload_n 0, 1) := by decide +kernel
theorem dX1_greatest_1 : decode cX1_greatest 1 = .ok (.iload_n 1, 1) := by decide +kernel
theorem dX1_greatest_2 : decode cX1_greatest 2 = .ok (.iconst 0, 1) := by decide +kernel
theorem dX1_greatest_3 : decode cX1_greatest 3 = .ok (.iload_n 2, 1) := by decide +kernel
theorem dX1_greatest_4 : decode cX1_greatest 4 = .ok (.invokevirtual 47, 3) := by decide +kernel
theorem dX1_greatest_7 : decode cX1_greatest 7 = .ok (.istore_n 3, 1) := by decide +kernel
theorem dX1_greatest_8 : decode cX1_greatest 8 = .ok (.iconst 1, 1) := by decide +kernel
theorem dX1_greatest_9 : decode cX1_greatest 9 = .ok (.istore 4, 2) := by decide +kernel
theorem dX1_greatest_11 : decode cX1_greatest 11 = .ok (.iload 4, 2) := by decide +kernel
theorem dX1_greatest_13 : decode cX1_greatest 13 = .ok (.aload_n 0, 1) := by decide +kernel
theorem dX1_greatest_14 : decode cX1_greatest 14 = .ok (.getfield 17, 3) := by decide +kernel
theorem dX1_greatest_17 : decode cX1_greatest 17 = .ok (.iload_n 1, 1) := by decide +kernel
theorem dX1_greatest_18 : decode cX1_greatest 18 = .ok (.iaload, 1) := by decide +kernel
theorem dX1_greatest_19 : decode cX1_greatest 19 = .ok (.if_icmp .ge 34, 3) := by decide +kernel
theorem dX1_greatest_22 : decode cX1_greatest 22 = .ok (.aload_n 0, 1) := by decide +kernel
theorem dX1_greatest_23 : decode cX1_greatest 23 = .ok (.iload_n 1, 1) := by decide +kernel
theorem dX1_greatest_24 : decode cX1_greatest 24 = .ok (.iload 4, 2) := by decide +kernel
theorem dX1_greatest_26 : decode cX1_greatest 26 = .ok (.iload_n 2, 1) := by decide +kernel
theorem dX1_greatest_27 : decode cX1_greatest 27 = .ok (.invokevirtual 47, 3) := by decide +kernel
theorem dX1_greatest_30 : decode cX1_greatest 30 = .ok (.iload_n 3, 1) := by decide +kernel
theorem dX1_greatest_31 : decode cX1_greatest 31 = .ok (.if_icmp .le 14, 3) := by decide +kernel
theorem dX1_greatest_34 : decode cX1_greatest 34 = .ok (.aload_n 0, 1) := by decide +kernel
theorem dX1_greatest_35 : decode cX1_greatest 35 = .ok (.iload_n 1, 1) := by decide +kernel
theorem dX1_greatest_36 : decode cX1_greatest 36 = .ok (.iload 4, 2) := by decide +kernel
theorem dX1_greatest_38 : decode cX1_greatest 38 = .ok (.iload_n 2, 1) := by decide +kernel
theorem dX1_greatest_39 : decode cX1_greatest 39 = .ok (.invokevirtual 47, 3) := by decide +kernel
theorem dX1_greatest_42 : decode cX1_greatest 42 = .ok (.goto 4, 3) := by decide +kernel
theorem dX1_greatest_45 : decode cX1_greatest 45 = .ok (.iload_n 3, 1) := by decide +kernel
theorem dX1_greatest_46 : decode cX1_greatest 46 = .ok (.istore_n 3, 1) := by decide +kernel
theorem dX1_greatest_47 : decode cX1_greatest 47 = .ok (.iinc 4 1, 3) := by decide +kernel
theorem dX1_greatest_50 : decode cX1_greatest 50 = .ok (.goto (-39), 3) := by decide +kernel
theorem dX1_greatest_53 : decode cX1_greatest 53 = .ok (.iload_n 3, 1) := by decide +kernel
theorem dX1_greatest_54 : decode cX1_greatest 54 = .ok (.ireturn, 1) := by decide +kernel
theorem dX1_work_0 : decode cX1_work 0 = .ok (.iconst 0, 1) := by decide +kernel
theorem dX1_work_1 : decode cX1_work 1 = .ok (.istore_n 2, 1) := by decide +kernel
theorem dX1_work_2 : decode cX1_work 2 = .ok (.iload_n 2, 1) := by decide +kernel
theorem dX1_work_3 : decode cX1_work 3 = .ok (.iload_n 1, 1) := by decide +kernel
theorem dX1_work_4 : decode cX1_work 4 = .ok (.if_icmp .gt 88, 3) := by decide +kernel
theorem dX1_work_7 : decode cX1_work 7 = .ok (.iconst 0, 1) := by decide +kernel
theorem dX1_work_8 : decode cX1_work 8 = .ok (.istore_n 3, 1) := by decide +kernel
theorem dX1_work_9 : decode cX1_work 9 = .ok (.iload_n 3, 1) := by decide +kernel
theorem dX1_work_10 : decode cX1_work 10 = .ok (.aload_n 0, 1) := by decide +kernel
theorem dX1_work_11 : decode cX1_work 11 = .ok (.getfield 33, 3) := by decide +kernel
theorem dX1_work_14 : decode cX1_work 14 = .ok (.if_icmp .ge 72, 3) := by decide +kernel
theorem dX1_work_17 : decode cX1_work 17 = .ok (.aload_n 0, 1) := by decide +kernel
theorem dX1_work_18 : decode cX1_work 18 = .ok (.getfield 13, 3) := by decide +kernel
theorem dX1_work_21 : decode cX1_work 21 = .ok (.iload_n 3, 1) := by decide +kernel
theorem dX1_work_22 : decode cX1_work 22 = .ok (.baload, 1) := by decide +kernel
theorem dX1_work_23 : decode cX1_work 23 = .ok (.ifCond .eq 9, 3) := by decide +kernel
theorem dX1_work_26 : decode cX1_work 26 = .ok (.sipush (-1000), 3) := by decide +kernel
theorem dX1_work_29 : decode cX1_work 29 = .ok (.goto 4, 3) := by decide +kernel
theorem dX1_work_32 : decode cX1_work 32 = .ok (.iconst 0, 1) := by decide +kernel
theorem dX1_work_33 : decode cX1_work 33 = .ok (.istore 4, 2) := by decide +kernel
theorem dX1_work_35 : decode cX1_work 35 = .ok (.aload_n 0, 1) := by decide +kernel
theorem dX1_work_36 : decode cX1_work 36 = .ok (.getfield 23, 3) := by decide +kernel
theorem dX1_work_39 : decode cX1_work 39 = .ok (.sipush 400, 3) := by decide +kernel
theorem dX1_work_42 : decode cX1_work 42 = .ok (.iload_n 2, 1) := by decide +kernel
theorem dX1_work_43 : decode cX1_work 43 = .ok (.imul, 1) := by decide +kernel
theorem dX1_work_44 : decode cX1_work 44 = .ok (.iload_n 3, 1) := by decide +kernel
theorem dX1_work_45 : decode cX1_work 45 = .ok (.iadd, 1) := by decide +kernel
theorem dX1_work_46 : decode cX1_work 46 = .ok (.aload_n 0, 1) := by decide +kernel
theorem dX1_work_47 : decode cX1_work 47 = .ok (.getfield 17, 3) := by decide +kernel
theorem dX1_work_50 : decode cX1_work 50 = .ok (.iload_n 3, 1) := by decide +kernel
theorem dX1_work_51 : decode cX1_work 51 = .ok (.iaload, 1) := by decide +kernel
theorem dX1_work_52 : decode cX1_work 52 = .ok (.ifCond .ne 8, 3) := by decide +kernel
theorem dX1_work_55 : decode cX1_work 55 = .ok (.iload 4, 2) := by decide +kernel
theorem dX1_work_57 : decode cX1_work 57 = .ok (.goto 22, 3) := by decide +kernel
theorem dX1_work_60 : decode cX1_work 60 = .ok (.iload_n 2, 1) := by decide +kernel
theorem dX1_work_61 : decode cX1_work 61 = .ok (.ifCond .ne 12, 3) := by decide +kernel
theorem dX1_work_64 : decode cX1_work 64 = .ok (.aload_n 0, 1) := by decide +kernel
theorem dX1_work_65 : decode cX1_work 65 = .ok (.getfield 7, 3) := by decide +kernel
theorem dX1_work_68 : decode cX1_work 68 = .ok (.iload_n 3, 1) := by decide +kernel
theorem dX1_work_69 : decode cX1_work 69 = .ok (.iaload, 1) := by decide +kernel
theorem dX1_work_70 : decode cX1_work 70 = .ok (.goto 9, 3) := by decide +kernel
theorem dX1_work_73 : decode cX1_work 73 = .ok (.aload_n 0, 1) := by decide +kernel
theorem dX1_work_74 : decode cX1_work 74 = .ok (.iload_n 3, 1) := by decide +kernel
theorem dX1_work_75 : decode cX1_work 75 = .ok (.iload_n 2, 1) := by decide +kernel
theorem dX1_work_76 : decode cX1_work 76 = .ok (.invokevirtual 51, 3) := by decide +kernel
theorem dX1_work_79 : decode cX1_work 79 = .ok (.iastore, 1) := by decide +kernel
theorem dX1_work_80 : decode cX1_work 80 = .ok (.iinc 3 1, 3) := by decide +kernel
theorem dX1_work_83 : decode cX1_work 83 = .ok (.goto (-74), 3) := by decide +kernel
theorem dX1_work_86 : decode cX1_work 86 = .ok (.iinc 2 1, 3) := by decide +kernel
theorem dX1_work_89 : decode cX1_work 89 = .ok (.goto (-87), 3) := by decide +kernel
theorem dX1_work_92 : decode cX1_work 92 = .ok (.return_, 1) := by decide +kernel
theorem dX1_asked_0 : decode cX1_asked 0 = .ok (.aload_n 0, 1) := by decide +kernel
theorem dX1_asked_1 : decode cX1_asked 1 = .ok (.aload_n 0, 1) := by decide +kernel
theorem dX1_asked_2 : decode cX1_asked 2 = .ok (.iload_n 1, 1) := by decide +kernel
theorem dX1_asked_3 : decode cX1_asked 3 = .ok (.invokevirtual 40, 3) := by decide +kernel
theorem dX1_asked_6 : decode cX1_asked 6 = .ok (.ifCond .eq 17, 3) := by decide +kernel
theorem dX1_asked_9 : decode cX1_asked 9 = .ok (.iload_n 2, 1) := by decide +kernel
theorem dX1_asked_10 : decode cX1_asked 10 = .ok (.ifCond .lt 13, 3) := by decide +kernel
theorem dX1_asked_13 : decode cX1_asked 13 = .ok (.iload_n 2, 1) := by decide +kernel
theorem dX1_asked_14 : decode cX1_asked 14 = .ok (.bipush 7, 2) := by decide +kernel
theorem dX1_asked_16 : decode cX1_asked 16 = .ok (.if_icmp .gt 7, 3) := by decide +kernel
theorem dX1_asked_19 : decode cX1_asked 19 = .ok (.iconst 0, 1) := by decide +kernel
theorem dX1_asked_20 : decode cX1_asked 20 = .ok (.goto 4, 3) := by decide +kernel
theorem dX1_asked_23 : decode cX1_asked 23 = .ok (.iconst 1, 1) := by decide +kernel
theorem dX1_asked_24 : decode cX1_asked 24 = .ok (.putfield 29, 3) := by decide +kernel
theorem dX1_asked_27 : decode cX1_asked 27 = .ok (.aload_n 0, 1) := by decide +kernel
theorem dX1_asked_28 : decode cX1_asked 28 = .ok (.getfield 29, 3) := by decide +kernel
theorem dX1_asked_31 : decode cX1_asked 31 = .ok (.ifCond .ne 8, 3) := by decide +kernel
theorem dX1_asked_34 : decode cX1_asked 34 = .ok (.aload_n 0, 1) := by decide +kernel
theorem dX1_asked_35 : decode cX1_asked 35 = .ok (.iload_n 2, 1) := by decide +kernel
theorem dX1_asked_36 : decode cX1_asked 36 = .ok (.invokevirtual 55, 3) := by decide +kernel
theorem dX1_asked_39 : decode cX1_asked 39 = .ok (.aload_n 0, 1) := by decide +kernel
theorem dX1_asked_40 : decode cX1_asked 40 = .ok (.getfield 29, 3) := by decide +kernel
theorem dX1_asked_43 : decode cX1_asked 43 = .ok (.ifCond .ne 7, 3) := by decide +kernel
theorem dX1_asked_46 : decode cX1_asked 46 = .ok (.iconst 1, 1) := by decide +kernel
theorem dX1_asked_47 : decode cX1_asked 47 = .ok (.goto 4, 3) := by decide +kernel
theorem dX1_asked_50 : decode cX1_asked 50 = .ok (.iconst 0, 1) := by decide +kernel
theorem dX1_asked_51 : decode cX1_asked 51 = .ok (.ireturn, 1) := by decide +kernel
theorem dX1_valueOf_0 : decode cX1_valueOf 0 = .ok (.aload_n 0, 1) := by decide +kernel
theorem dX1_valueOf_1 : decode cX1_valueOf 1 = .ok (.getfield 23, 3) := by decide +kernel
theorem dX1_valueOf_4 : decode cX1_valueOf 4 = .ok (.sipush 400, 3) := by decide +kernel
theorem dX1_valueOf_7 : decode cX1_valueOf 7 = .ok (.iload_n 2, 1) := by decide +kernel
theorem dX1_valueOf_8 : decode cX1_valueOf 8 = .ok (.imul, 1) := by decide +kernel
theorem dX1_valueOf_9 : decode cX1_valueOf 9 = .ok (.iload_n 1, 1) := by decide +kernel
theorem dX1_valueOf_10 : decode cX1_valueOf 10 = .ok (.iadd, 1) := by decide +kernel
theorem dX1_valueOf_11 : decode cX1_valueOf 11 = .ok (.iaload, 1) := by decide +kernel
theorem dX1_valueOf_12 : decode cX1_valueOf 12 = .ok (.ireturn, 1) := by decide +kernel
theorem dX1_value_0 : decode cX1_value 0 = .ok (.aload_n 0, 1) := by decide +kernel
theorem dX1_value_1 : decode cX1_value 1 = .ok (.iload_n 1, 1) := by decide +kernel
theorem dX1_value_2 : decode cX1_value 2 = .ok (.iload_n 2, 1) := by decide +kernel
theorem dX1_value_3 : decode cX1_value 3 = .ok (.invokevirtual 59, 3) := by decide +kernel
theorem dX1_value_6 : decode cX1_value 6 = .ok (.ifCond .eq 12, 3) := by decide +kernel
theorem dX1_value_9 : decode cX1_value 9 = .ok (.aload_n 0, 1) := by decide +kernel
theorem dX1_value_10 : decode cX1_value 10 = .ok (.iload_n 1, 1) := by decide +kernel
theorem dX1_value_11 : decode cX1_value 11 = .ok (.iload_n 2, 1) := by decide +kernel
theorem dX1_value_12 : decode cX1_value 12 = .ok (.invokevirtual 63, 3) := by decide +kernel
theorem dX1_value_15 : decode cX1_value 15 = .ok (.goto 4, 3) := by decide +kernel
theorem dX1_value_18 : decode cX1_value 18 = .ok (.iconst 0, 1) := by decide +kernel
theorem dX1_value_19 : decode cX1_value 19 = .ok (.ireturn, 1) := by decide +kernel
theorem dX1_bestOf_0 : decode cX1_bestOf 0 = .ok (.iconst 0, 1) := by decide +kernel
theorem dX1_bestOf_1 : decode cX1_bestOf 1 = .ok (.istore_n 3, 1) := by decide +kernel
theorem dX1_bestOf_2 : decode cX1_bestOf 2 = .ok (.iload_n 3, 1) := by decide +kernel
theorem dX1_bestOf_3 : decode cX1_bestOf 3 = .ok (.aload_n 0, 1) := by decide +kernel
theorem dX1_bestOf_4 : decode cX1_bestOf 4 = .ok (.getfield 17, 3) := by decide +kernel
theorem dX1_bestOf_7 : decode cX1_bestOf 7 = .ok (.iload_n 1, 1) := by decide +kernel
theorem dX1_bestOf_8 : decode cX1_bestOf 8 = .ok (.iaload, 1) := by decide +kernel
theorem dX1_bestOf_9 : decode cX1_bestOf 9 = .ok (.if_icmp .ge 31, 3) := by decide +kernel
theorem dX1_bestOf_12 : decode cX1_bestOf 12 = .ok (.iload_n 2, 1) := by decide +kernel
theorem dX1_bestOf_13 : decode cX1_bestOf 13 = .ok (.ifCond .le 27, 3) := by decide +kernel
theorem dX1_bestOf_16 : decode cX1_bestOf 16 = .ok (.aload_n 0, 1) := by decide +kernel
theorem dX1_bestOf_17 : decode cX1_bestOf 17 = .ok (.iload_n 1, 1) := by decide +kernel
theorem dX1_bestOf_18 : decode cX1_bestOf 18 = .ok (.iload_n 3, 1) := by decide +kernel
theorem dX1_bestOf_19 : decode cX1_bestOf 19 = .ok (.iload_n 2, 1) := by decide +kernel
theorem dX1_bestOf_20 : decode cX1_bestOf 20 = .ok (.invokevirtual 47, 3) := by decide +kernel
theorem dX1_bestOf_23 : decode cX1_bestOf 23 = .ok (.aload_n 0, 1) := by decide +kernel
theorem dX1_bestOf_24 : decode cX1_bestOf 24 = .ok (.iload_n 1, 1) := by decide +kernel
theorem dX1_bestOf_25 : decode cX1_bestOf 25 = .ok (.iload_n 2, 1) := by decide +kernel
theorem dX1_bestOf_26 : decode cX1_bestOf 26 = .ok (.invokevirtual 63, 3) := by decide +kernel
theorem dX1_bestOf_29 : decode cX1_bestOf 29 = .ok (.if_icmp .ne 5, 3) := by decide +kernel
theorem dX1_bestOf_32 : decode cX1_bestOf 32 = .ok (.iload_n 3, 1) := by decide +kernel
theorem dX1_bestOf_33 : decode cX1_bestOf 33 = .ok (.ireturn, 1) := by decide +kernel
theorem dX1_bestOf_34 : decode cX1_bestOf 34 = .ok (.iinc 3 1, 3) := by decide +kernel
theorem dX1_bestOf_37 : decode cX1_bestOf 37 = .ok (.goto (-35), 3) := by decide +kernel
theorem dX1_bestOf_40 : decode cX1_bestOf 40 = .ok (.iconst (-1), 1) := by decide +kernel
theorem dX1_bestOf_41 : decode cX1_bestOf 41 = .ok (.ireturn, 1) := by decide +kernel
theorem dX1_best_0 : decode cX1_best 0 = .ok (.aload_n 0, 1) := by decide +kernel
theorem dX1_best_1 : decode cX1_best 1 = .ok (.iload_n 1, 1) := by decide +kernel
theorem dX1_best_2 : decode cX1_best 2 = .ok (.iload_n 2, 1) := by decide +kernel
theorem dX1_best_3 : decode cX1_best 3 = .ok (.invokevirtual 59, 3) := by decide +kernel
theorem dX1_best_6 : decode cX1_best 6 = .ok (.ifCond .eq 12, 3) := by decide +kernel
theorem dX1_best_9 : decode cX1_best 9 = .ok (.aload_n 0, 1) := by decide +kernel
theorem dX1_best_10 : decode cX1_best 10 = .ok (.iload_n 1, 1) := by decide +kernel
theorem dX1_best_11 : decode cX1_best 11 = .ok (.iload_n 2, 1) := by decide +kernel
theorem dX1_best_12 : decode cX1_best 12 = .ok (.invokevirtual 66, 3) := by decide +kernel
theorem dX1_best_15 : decode cX1_best 15 = .ok (.goto 4, 3) := by decide +kernel
theorem dX1_best_18 : decode cX1_best 18 = .ok (.iconst 0, 1) := by decide +kernel
theorem dX1_best_19 : decode cX1_best 19 = .ok (.ireturn, 1) := by decide +kernel
theorem dX1_reaches_0 : decode cX1_reaches 0 = .ok (.aload_n 0, 1) := by decide +kernel
theorem dX1_reaches_1 : decode cX1_reaches 1 = .ok (.iload_n 1, 1) := by decide +kernel
theorem dX1_reaches_2 : decode cX1_reaches 2 = .ok (.iload_n 2, 1) := by decide +kernel
theorem dX1_reaches_3 : decode cX1_reaches 3 = .ok (.invokevirtual 59, 3) := by decide +kernel
theorem dX1_reaches_6 : decode cX1_reaches 6 = .ok (.ifCond .eq 17, 3) := by decide +kernel
theorem dX1_reaches_9 : decode cX1_reaches 9 = .ok (.aload_n 0, 1) := by decide +kernel
theorem dX1_reaches_10 : decode cX1_reaches 10 = .ok (.iload_n 1, 1) := by decide +kernel
theorem dX1_reaches_11 : decode cX1_reaches 11 = .ok (.iload_n 2, 1) := by decide +kernel
theorem dX1_reaches_12 : decode cX1_reaches 12 = .ok (.invokevirtual 63, 3) := by decide +kernel
theorem dX1_reaches_15 : decode cX1_reaches 15 = .ok (.iload_n 3, 1) := by decide +kernel
theorem dX1_reaches_16 : decode cX1_reaches 16 = .ok (.if_icmp .lt 7, 3) := by decide +kernel
theorem dX1_reaches_19 : decode cX1_reaches 19 = .ok (.iconst 1, 1) := by decide +kernel
theorem dX1_reaches_20 : decode cX1_reaches 20 = .ok (.goto 4, 3) := by decide +kernel
theorem dX1_reaches_23 : decode cX1_reaches 23 = .ok (.iconst 0, 1) := by decide +kernel
theorem dX1_reaches_24 : decode cX1_reaches 24 = .ok (.ireturn, 1) := by decide +kernel
theorem dX1_line_0 : decode cX1_line 0 = .ok (.aload_n 0, 1) := by decide +kernel
theorem dX1_line_1 : decode cX1_line 1 = .ok (.iload_n 1, 1) := by decide +kernel
theorem dX1_line_2 : decode cX1_line 2 = .ok (.iload_n 2, 1) := by decide +kernel
theorem dX1_line_3 : decode cX1_line 3 = .ok (.invokevirtual 59, 3) := by decide +kernel
theorem dX1_line_6 : decode cX1_line 6 = .ok (.ifCond .ne 5, 3) := by decide +kernel
theorem dX1_line_9 : decode cX1_line 9 = .ok (.iconst 0, 1) := by decide +kernel
theorem dX1_line_10 : decode cX1_line 10 = .ok (.ireturn, 1) := by decide +kernel
theorem dX1_line_11 : decode cX1_line 11 = .ok (.iload_n 3, 1) := by decide +kernel
theorem dX1_line_12 : decode cX1_line 12 = .ok (.ifCond .ge 7, 3) := by decide +kernel
theorem dX1_line_15 : decode cX1_line 15 = .ok (.iconst (-1), 1) := by decide +kernel
theorem dX1_line_16 : decode cX1_line 16 = .ok (.goto 4, 3) := by decide +kernel
theorem dX1_line_19 : decode cX1_line 19 = .ok (.iload_n 1, 1) := by decide +kernel
theorem dX1_line_20 : decode cX1_line 20 = .ok (.istore 4, 2) := by decide +kernel
theorem dX1_line_22 : decode cX1_line 22 = .ok (.iconst 0, 1) := by decide +kernel
theorem dX1_line_23 : decode cX1_line 23 = .ok (.istore 5, 2) := by decide +kernel
theorem dX1_line_25 : decode cX1_line 25 = .ok (.iload 5, 2) := by decide +kernel
theorem dX1_line_27 : decode cX1_line 27 = .ok (.iload_n 3, 1) := by decide +kernel
theorem dX1_line_28 : decode cX1_line 28 = .ok (.if_icmp .ge 60, 3) := by decide +kernel
theorem dX1_line_31 : decode cX1_line 31 = .ok (.iload 4, 2) := by decide +kernel
theorem dX1_line_33 : decode cX1_line 33 = .ok (.ifCond .lt 55, 3) := by decide +kernel
theorem dX1_line_36 : decode cX1_line 36 = .ok (.iload 5, 2) := by decide +kernel
theorem dX1_line_38 : decode cX1_line 38 = .ok (.iload_n 2, 1) := by decide +kernel
theorem dX1_line_39 : decode cX1_line 39 = .ok (.if_icmp .ge 16, 3) := by decide +kernel
theorem dX1_line_42 : decode cX1_line 42 = .ok (.aload_n 0, 1) := by decide +kernel
theorem dX1_line_43 : decode cX1_line 43 = .ok (.iload 4, 2) := by decide +kernel
theorem dX1_line_45 : decode cX1_line 45 = .ok (.iload_n 2, 1) := by decide +kernel
theorem dX1_line_46 : decode cX1_line 46 = .ok (.iload 5, 2) := by decide +kernel
theorem dX1_line_48 : decode cX1_line 48 = .ok (.isub, 1) := by decide +kernel
theorem dX1_line_49 : decode cX1_line 49 = .ok (.invokevirtual 66, 3) := by decide +kernel
theorem dX1_line_52 : decode cX1_line 52 = .ok (.goto 4, 3) := by decide +kernel
theorem dX1_line_55 : decode cX1_line 55 = .ok (.iconst (-1), 1) := by decide +kernel
theorem dX1_line_56 : decode cX1_line 56 = .ok (.istore 6, 2) := by decide +kernel
theorem dX1_line_58 : decode cX1_line 58 = .ok (.iload 6, 2) := by decide +kernel
theorem dX1_line_60 : decode cX1_line 60 = .ok (.ifCond .ge 7, 3) := by decide +kernel
theorem dX1_line_63 : decode cX1_line 63 = .ok (.iconst (-1), 1) := by decide +kernel
theorem dX1_line_64 : decode cX1_line 64 = .ok (.goto 16, 3) := by decide +kernel
theorem dX1_line_67 : decode cX1_line 67 = .ok (.aload_n 0, 1) := by decide +kernel
theorem dX1_line_68 : decode cX1_line 68 = .ok (.getfield 20, 3) := by decide +kernel
theorem dX1_line_71 : decode cX1_line 71 = .ok (.bipush 6, 2) := by decide +kernel
theorem dX1_line_73 : decode cX1_line 73 = .ok (.iload 4, 2) := by decide +kernel
theorem dX1_line_75 : decode cX1_line 75 = .ok (.imul, 1) := by decide +kernel
theorem dX1_line_76 : decode cX1_line 76 = .ok (.iload 6, 2) := by decide +kernel
theorem dX1_line_78 : decode cX1_line 78 = .ok (.iadd, 1) := by decide +kernel
theorem dX1_line_79 : decode cX1_line 79 = .ok (.iaload, 1) := by decide +kernel
theorem dX1_line_80 : decode cX1_line 80 = .ok (.istore 4, 2) := by decide +kernel
theorem dX1_line_82 : decode cX1_line 82 = .ok (.iinc 5 1, 3) := by decide +kernel
theorem dX1_line_85 : decode cX1_line 85 = .ok (.goto (-60), 3) := by decide +kernel
theorem dX1_line_88 : decode cX1_line 88 = .ok (.iload 4, 2) := by decide +kernel
theorem dX1_line_90 : decode cX1_line 90 = .ok (.ireturn, 1) := by decide +kernel
theorem dX1_ties_0 : decode cX1_ties 0 = .ok (.aload_n 0, 1) := by decide +kernel
theorem dX1_ties_1 : decode cX1_ties 1 = .ok (.iload_n 1, 1) := by decide +kernel
theorem dX1_ties_2 : decode cX1_ties 2 = .ok (.iload_n 2, 1) := by decide +kernel
theorem dX1_ties_3 : decode cX1_ties 3 = .ok (.invokevirtual 59, 3) := by decide +kernel
theorem dX1_ties_6 : decode cX1_ties 6 = .ok (.ifCond .eq 7, 3) := by decide +kernel
theorem dX1_ties_9 : decode cX1_ties 9 = .ok (.iload_n 2, 1) := by decide +kernel
theorem dX1_ties_10 : decode cX1_ties 10 = .ok (.ifCond .ne 5, 3) := by decide +kernel
theorem dX1_ties_13 : decode cX1_ties 13 = .ok (.iconst 0, 1) := by decide +kernel
theorem dX1_ties_14 : decode cX1_ties 14 = .ok (.ireturn, 1) := by decide +kernel
theorem dX1_ties_15 : decode cX1_ties 15 = .ok (.iconst 0, 1) := by decide +kernel
theorem dX1_ties_16 : decode cX1_ties 16 = .ok (.istore_n 3, 1) := by decide +kernel
theorem dX1_ties_17 : decode cX1_ties 17 = .ok (.iconst 0, 1) := by decide +kernel
theorem dX1_ties_18 : decode cX1_ties 18 = .ok (.istore 4, 2) := by decide +kernel
theorem dX1_ties_20 : decode cX1_ties 20 = .ok (.iload 4, 2) := by decide +kernel
theorem dX1_ties_22 : decode cX1_ties 22 = .ok (.aload_n 0, 1) := by decide +kernel
theorem dX1_ties_23 : decode cX1_ties 23 = .ok (.getfield 17, 3) := by decide +kernel
theorem dX1_ties_26 : decode cX1_ties 26 = .ok (.iload_n 1, 1) := by decide +kernel
theorem dX1_ties_27 : decode cX1_ties 27 = .ok (.iaload, 1) := by decide +kernel
theorem dX1_ties_28 : decode cX1_ties 28 = .ok (.if_icmp .ge 34, 3) := by decide +kernel
theorem dX1_ties_31 : decode cX1_ties 31 = .ok (.iload_n 3, 1) := by decide +kernel
theorem dX1_ties_32 : decode cX1_ties 32 = .ok (.aload_n 0, 1) := by decide +kernel
theorem dX1_ties_33 : decode cX1_ties 33 = .ok (.iload_n 1, 1) := by decide +kernel
theorem dX1_ties_34 : decode cX1_ties 34 = .ok (.iload 4, 2) := by decide +kernel
theorem dX1_ties_36 : decode cX1_ties 36 = .ok (.iload_n 2, 1) := by decide +kernel
theorem dX1_ties_37 : decode cX1_ties 37 = .ok (.invokevirtual 47, 3) := by decide +kernel
theorem dX1_ties_40 : decode cX1_ties 40 = .ok (.aload_n 0, 1) := by decide +kernel
theorem dX1_ties_41 : decode cX1_ties 41 = .ok (.iload_n 1, 1) := by decide +kernel
theorem dX1_ties_42 : decode cX1_ties 42 = .ok (.iload_n 2, 1) := by decide +kernel
theorem dX1_ties_43 : decode cX1_ties 43 = .ok (.invokevirtual 63, 3) := by decide +kernel
theorem dX1_ties_46 : decode cX1_ties 46 = .ok (.if_icmp .ne 7, 3) := by decide +kernel
theorem dX1_ties_49 : decode cX1_ties 49 = .ok (.iconst 1, 1) := by decide +kernel
theorem dX1_ties_50 : decode cX1_ties 50 = .ok (.goto 4, 3) := by decide +kernel
theorem dX1_ties_53 : decode cX1_ties 53 = .ok (.iconst 0, 1) := by decide +kernel
theorem dX1_ties_54 : decode cX1_ties 54 = .ok (.iadd, 1) := by decide +kernel
theorem dX1_ties_55 : decode cX1_ties 55 = .ok (.istore_n 3, 1) := by decide +kernel
theorem dX1_ties_56 : decode cX1_ties 56 = .ok (.iinc 4 1, 3) := by decide +kernel
theorem dX1_ties_59 : decode cX1_ties 59 = .ok (.goto (-39), 3) := by decide +kernel
theorem dX1_ties_62 : decode cX1_ties 62 = .ok (.iload_n 3, 1) := by decide +kernel
theorem dX1_ties_63 : decode cX1_ties 63 = .ok (.ireturn, 1) := by decide +kernel
theorem dX1_settled_0 : decode cX1_settled 0 = .ok (.aload_n 0, 1) := by decide +kernel
theorem dX1_settled_1 : decode cX1_settled 1 = .ok (.iload_n 1, 1) := by decide +kernel
theorem dX1_settled_2 : decode cX1_settled 2 = .ok (.iload_n 2, 1) := by decide +kernel
theorem dX1_settled_3 : decode cX1_settled 3 = .ok (.invokevirtual 59, 3) := by decide +kernel
theorem dX1_settled_6 : decode cX1_settled 6 = .ok (.ifCond .ne 5, 3) := by decide +kernel
theorem dX1_settled_9 : decode cX1_settled 9 = .ok (.iconst 0, 1) := by decide +kernel
theorem dX1_settled_10 : decode cX1_settled 10 = .ok (.ireturn, 1) := by decide +kernel
theorem dX1_settled_11 : decode cX1_settled 11 = .ok (.iload_n 2, 1) := by decide +kernel
theorem dX1_settled_12 : decode cX1_settled 12 = .ok (.istore_n 3, 1) := by decide +kernel
theorem dX1_settled_13 : decode cX1_settled 13 = .ok (.iload_n 2, 1) := by decide +kernel
theorem dX1_settled_14 : decode cX1_settled 14 = .ok (.istore 4, 2) := by decide +kernel
theorem dX1_settled_16 : decode cX1_settled 16 = .ok (.iload 4, 2) := by decide +kernel
theorem dX1_settled_18 : decode cX1_settled 18 = .ok (.ifCond .lt 28, 3) := by decide +kernel
theorem dX1_settled_21 : decode cX1_settled 21 = .ok (.aload_n 0, 1) := by decide +kernel
theorem dX1_settled_22 : decode cX1_settled 22 = .ok (.iload_n 1, 1) := by decide +kernel
theorem dX1_settled_23 : decode cX1_settled 23 = .ok (.iload 4, 2) := by decide +kernel
theorem dX1_settled_25 : decode cX1_settled 25 = .ok (.invokevirtual 63, 3) := by decide +kernel
theorem dX1_settled_28 : decode cX1_settled 28 = .ok (.aload_n 0, 1) := by decide +kernel
theorem dX1_settled_29 : decode cX1_settled 29 = .ok (.iload_n 1, 1) := by decide +kernel
theorem dX1_settled_30 : decode cX1_settled 30 = .ok (.iload_n 2, 1) := by decide +kernel
theorem dX1_settled_31 : decode cX1_settled 31 = .ok (.invokevirtual 63, 3) := by decide +kernel
theorem dX1_settled_34 : decode cX1_settled 34 = .ok (.if_icmp .ne 12, 3) := by decide +kernel
theorem dX1_settled_37 : decode cX1_settled 37 = .ok (.iload 4, 2) := by decide +kernel
theorem dX1_settled_39 : decode cX1_settled 39 = .ok (.istore_n 3, 1) := by decide +kernel
theorem dX1_settled_40 : decode cX1_settled 40 = .ok (.iinc 4 (-1), 3) := by decide +kernel
theorem dX1_settled_43 : decode cX1_settled 43 = .ok (.goto (-27), 3) := by decide +kernel
theorem dX1_settled_46 : decode cX1_settled 46 = .ok (.iload_n 3, 1) := by decide +kernel
theorem dX1_settled_47 : decode cX1_settled 47 = .ok (.ireturn, 1) := by decide +kernel
theorem dX1_of_0 : decode cX1_of 0 = .ok (.aload_n 0, 1) := by decide +kernel
theorem dX1_of_1 : decode cX1_of 1 = .ok (.iconst 0, 1) := by decide +kernel
theorem dX1_of_2 : decode cX1_of 2 = .ok (.putfield 29, 3) := by decide +kernel
theorem dX1_of_5 : decode cX1_of 5 = .ok (.aload_n 0, 1) := by decide +kernel
theorem dX1_of_6 : decode cX1_of 6 = .ok (.iload_n 1, 1) := by decide +kernel
theorem dX1_of_7 : decode cX1_of 7 = .ok (.invokevirtual 40, 3) := by decide +kernel
theorem dX1_of_10 : decode cX1_of 10 = .ok (.ifCond .eq 13, 3) := by decide +kernel
theorem dX1_of_13 : decode cX1_of 13 = .ok (.iload_n 2, 1) := by decide +kernel
theorem dX1_of_14 : decode cX1_of 14 = .ok (.ifCond .lt 9, 3) := by decide +kernel
theorem dX1_of_17 : decode cX1_of 17 = .ok (.iload_n 2, 1) := by decide +kernel
theorem dX1_of_18 : decode cX1_of 18 = .ok (.bipush 8, 2) := by decide +kernel
theorem dX1_of_20 : decode cX1_of 20 = .ok (.if_icmp .le 5, 3) := by decide +kernel
theorem dX1_of_23 : decode cX1_of 23 = .ok (.iconst (-1), 1) := by decide +kernel
theorem dX1_of_24 : decode cX1_of 24 = .ok (.ireturn, 1) := by decide +kernel
theorem dX1_of_25 : decode cX1_of 25 = .ok (.iload_n 2, 1) := by decide +kernel
theorem dX1_of_26 : decode cX1_of 26 = .ok (.iconst 3, 1) := by decide +kernel
theorem dX1_of_27 : decode cX1_of 27 = .ok (.if_icmp .ge 45, 3) := by decide +kernel
theorem dX1_of_30 : decode cX1_of 30 = .ok (.iload_n 2, 1) := by decide +kernel
theorem dX1_of_31 : decode cX1_of 31 = .ok (.ifCond .ne 12, 3) := by decide +kernel
theorem dX1_of_34 : decode cX1_of 34 = .ok (.aload_n 0, 1) := by decide +kernel
theorem dX1_of_35 : decode cX1_of 35 = .ok (.getfield 7, 3) := by decide +kernel
theorem dX1_of_38 : decode cX1_of 38 = .ok (.iload_n 1, 1) := by decide +kernel
theorem dX1_of_39 : decode cX1_of 39 = .ok (.iaload, 1) := by decide +kernel
theorem dX1_of_40 : decode cX1_of 40 = .ok (.goto 31, 3) := by decide +kernel
theorem dX1_of_43 : decode cX1_of 43 = .ok (.iload_n 2, 1) := by decide +kernel
theorem dX1_of_44 : decode cX1_of 44 = .ok (.iconst 1, 1) := by decide +kernel
theorem dX1_of_45 : decode cX1_of 45 = .ok (.if_icmp .ne 20, 3) := by decide +kernel
theorem dX1_of_48 : decode cX1_of 48 = .ok (.aload_n 0, 1) := by decide +kernel
theorem dX1_of_49 : decode cX1_of 49 = .ok (.getfield 13, 3) := by decide +kernel
theorem dX1_of_52 : decode cX1_of 52 = .ok (.iload_n 1, 1) := by decide +kernel
theorem dX1_of_53 : decode cX1_of 53 = .ok (.baload, 1) := by decide +kernel
theorem dX1_of_54 : decode cX1_of 54 = .ok (.ifCond .eq 7, 3) := by decide +kernel
theorem dX1_of_57 : decode cX1_of 57 = .ok (.iconst 1, 1) := by decide +kernel
theorem dX1_of_58 : decode cX1_of 58 = .ok (.goto 13, 3) := by decide +kernel
theorem dX1_of_61 : decode cX1_of 61 = .ok (.iconst 0, 1) := by decide +kernel
theorem dX1_of_62 : decode cX1_of 62 = .ok (.goto 9, 3) := by decide +kernel
theorem dX1_of_65 : decode cX1_of 65 = .ok (.aload_n 0, 1) := by decide +kernel
theorem dX1_of_66 : decode cX1_of 66 = .ok (.getfield 17, 3) := by decide +kernel
theorem dX1_of_69 : decode cX1_of 69 = .ok (.iload_n 1, 1) := by decide +kernel
theorem dX1_of_70 : decode cX1_of 70 = .ok (.iaload, 1) := by decide +kernel
theorem dX1_of_71 : decode cX1_of 71 = .ok (.ireturn, 1) := by decide +kernel
theorem dX1_of_72 : decode cX1_of 72 = .ok (.iload_n 2, 1) := by decide +kernel
theorem dX1_of_73 : decode cX1_of 73 = .ok (.iconst 3, 1) := by decide +kernel
theorem dX1_of_74 : decode cX1_of 74 = .ok (.isub, 1) := by decide +kernel
theorem dX1_of_75 : decode cX1_of 75 = .ok (.aload_n 0, 1) := by decide +kernel
theorem dX1_of_76 : decode cX1_of 76 = .ok (.getfield 17, 3) := by decide +kernel
theorem dX1_of_79 : decode cX1_of 79 = .ok (.iload_n 1, 1) := by decide +kernel
theorem dX1_of_80 : decode cX1_of 80 = .ok (.iaload, 1) := by decide +kernel
theorem dX1_of_81 : decode cX1_of 81 = .ok (.if_icmp .ge 19, 3) := by decide +kernel
theorem dX1_of_84 : decode cX1_of 84 = .ok (.aload_n 0, 1) := by decide +kernel
theorem dX1_of_85 : decode cX1_of 85 = .ok (.getfield 20, 3) := by decide +kernel
theorem dX1_of_88 : decode cX1_of 88 = .ok (.bipush 6, 2) := by decide +kernel
theorem dX1_of_90 : decode cX1_of 90 = .ok (.iload_n 1, 1) := by decide +kernel
theorem dX1_of_91 : decode cX1_of 91 = .ok (.imul, 1) := by decide +kernel
theorem dX1_of_92 : decode cX1_of 92 = .ok (.iload_n 2, 1) := by decide +kernel
theorem dX1_of_93 : decode cX1_of 93 = .ok (.iadd, 1) := by decide +kernel
theorem dX1_of_94 : decode cX1_of 94 = .ok (.iconst 3, 1) := by decide +kernel
theorem dX1_of_95 : decode cX1_of 95 = .ok (.isub, 1) := by decide +kernel
theorem dX1_of_96 : decode cX1_of 96 = .ok (.iaload, 1) := by decide +kernel
theorem dX1_of_97 : decode cX1_of 97 = .ok (.goto 4, 3) := by decide +kernel
theorem dX1_of_100 : decode cX1_of 100 = .ok (.iconst (-1), 1) := by decide +kernel
theorem dX1_of_101 : decode cX1_of 101 = .ok (.ireturn, 1) := by decide +kernel
theorem dX1_around_0 : decode cX1_around 0 = .ok (.aload_n 0, 1) := by decide +kernel
theorem dX1_around_1 : decode cX1_around 1 = .ok (.aload_n 0, 1) := by decide +kernel
theorem dX1_around_2 : decode cX1_around 2 = .ok (.iload_n 1, 1) := by decide +kernel
theorem dX1_around_3 : decode cX1_around 3 = .ok (.invokevirtual 40, 3) := by decide +kernel
theorem dX1_around_6 : decode cX1_around 6 = .ok (.ifCond .eq 17, 3) := by decide +kernel
theorem dX1_around_9 : decode cX1_around 9 = .ok (.iload_n 2, 1) := by decide +kernel
theorem dX1_around_10 : decode cX1_around 10 = .ok (.ifCond .lt 13, 3) := by decide +kernel
theorem dX1_around_13 : decode cX1_around 13 = .ok (.iload_n 2, 1) := by decide +kernel
theorem dX1_around_14 : decode cX1_around 14 = .ok (.bipush 7, 2) := by decide +kernel
theorem dX1_around_16 : decode cX1_around 16 = .ok (.if_icmp .gt 7, 3) := by decide +kernel
theorem dX1_around_19 : decode cX1_around 19 = .ok (.iconst 0, 1) := by decide +kernel
theorem dX1_around_20 : decode cX1_around 20 = .ok (.goto 4, 3) := by decide +kernel
theorem dX1_around_23 : decode cX1_around 23 = .ok (.iconst 1, 1) := by decide +kernel
theorem dX1_around_24 : decode cX1_around 24 = .ok (.putfield 29, 3) := by decide +kernel
theorem dX1_around_27 : decode cX1_around 27 = .ok (.aload_n 0, 1) := by decide +kernel
theorem dX1_around_28 : decode cX1_around 28 = .ok (.getfield 29, 3) := by decide +kernel
theorem dX1_around_31 : decode cX1_around 31 = .ok (.ifCond .le 5, 3) := by decide +kernel
theorem dX1_around_34 : decode cX1_around 34 = .ok (.iconst 0, 1) := by decide +kernel
theorem dX1_around_35 : decode cX1_around 35 = .ok (.ireturn, 1) := by decide +kernel
theorem dX1_around_36 : decode cX1_around 36 = .ok (.iconst 0, 1) := by decide +kernel
theorem dX1_around_37 : decode cX1_around 37 = .ok (.istore_n 3, 1) := by decide +kernel
theorem dX1_around_38 : decode cX1_around 38 = .ok (.iload_n 3, 1) := by decide +kernel
theorem dX1_around_39 : decode cX1_around 39 = .ok (.aload_n 0, 1) := by decide +kernel
theorem dX1_around_40 : decode cX1_around 40 = .ok (.getfield 33, 3) := by decide +kernel
theorem dX1_around_43 : decode cX1_around 43 = .ok (.if_icmp .ge 26, 3) := by decide +kernel
theorem dX1_around_46 : decode cX1_around 46 = .ok (.aload_n 0, 1) := by decide +kernel
theorem dX1_around_47 : decode cX1_around 47 = .ok (.getfield 26, 3) := by decide +kernel
theorem dX1_around_50 : decode cX1_around 50 = .ok (.iload_n 3, 1) := by decide +kernel
theorem dX1_around_51 : decode cX1_around 51 = .ok (.iload_n 3, 1) := by decide +kernel
theorem dX1_around_52 : decode cX1_around 52 = .ok (.iload_n 1, 1) := by decide +kernel
theorem dX1_around_53 : decode cX1_around 53 = .ok (.if_icmp .ne 7, 3) := by decide +kernel
theorem dX1_around_56 : decode cX1_around 56 = .ok (.iconst 0, 1) := by decide +kernel
theorem dX1_around_57 : decode cX1_around 57 = .ok (.goto 5, 3) := by decide +kernel
theorem dX1_around_60 : decode cX1_around 60 = .ok (.bipush 100, 2) := by decide +kernel
theorem dX1_around_62 : decode cX1_around 62 = .ok (.iastore, 1) := by decide +kernel
theorem dX1_around_63 : decode cX1_around 63 = .ok (.iinc 3 1, 3) := by decide +kernel
theorem dX1_around_66 : decode cX1_around 66 = .ok (.goto (-28), 3) := by decide +kernel
theorem dX1_around_69 : decode cX1_around 69 = .ok (.iconst 0, 1) := by decide +kernel
theorem dX1_around_70 : decode cX1_around 70 = .ok (.istore_n 3, 1) := by decide +kernel
theorem dX1_around_71 : decode cX1_around 71 = .ok (.iload_n 3, 1) := by decide +kernel
theorem dX1_around_72 : decode cX1_around 72 = .ok (.iload_n 2, 1) := by decide +kernel
theorem dX1_around_73 : decode cX1_around 73 = .ok (.if_icmp .ge 105, 3) := by decide +kernel
theorem dX1_around_76 : decode cX1_around 76 = .ok (.iconst 0, 1) := by decide +kernel
theorem dX1_around_77 : decode cX1_around 77 = .ok (.istore 4, 2) := by decide +kernel
theorem dX1_around_79 : decode cX1_around 79 = .ok (.iload 4, 2) := by decide +kernel
theorem dX1_around_81 : decode cX1_around 81 = .ok (.aload_n 0, 1) := by decide +kernel
theorem dX1_around_82 : decode cX1_around 82 = .ok (.getfield 33, 3) := by decide +kernel
theorem dX1_around_85 : decode cX1_around 85 = .ok (.if_icmp .ge 87, 3) := by decide +kernel
theorem dX1_around_88 : decode cX1_around 88 = .ok (.iconst 0, 1) := by decide +kernel
theorem dX1_around_89 : decode cX1_around 89 = .ok (.istore 5, 2) := by decide +kernel
theorem dX1_around_91 : decode cX1_around 91 = .ok (.iload 5, 2) := by decide +kernel
theorem dX1_around_93 : decode cX1_around 93 = .ok (.aload_n 0, 1) := by decide +kernel
theorem dX1_around_94 : decode cX1_around 94 = .ok (.getfield 17, 3) := by decide +kernel
theorem dX1_around_97 : decode cX1_around 97 = .ok (.iload 4, 2) := by decide +kernel
theorem dX1_around_99 : decode cX1_around 99 = .ok (.iaload, 1) := by decide +kernel
theorem dX1_around_100 : decode cX1_around 100 = .ok (.if_icmp .ge 66, 3) := by decide +kernel
theorem dX1_around_103 : decode cX1_around 103 = .ok (.aload_n 0, 1) := by decide +kernel
theorem dX1_around_104 : decode cX1_around 104 = .ok (.getfield 26, 3) := by decide +kernel
theorem dX1_around_107 : decode cX1_around 107 = .ok (.iload 4, 2) := by decide +kernel
theorem dX1_around_109 : decode cX1_around 109 = .ok (.iaload, 1) := by decide +kernel
theorem dX1_around_110 : decode cX1_around 110 = .ok (.iload_n 3, 1) := by decide +kernel
theorem dX1_around_111 : decode cX1_around 111 = .ok (.if_icmp .ne 55, 3) := by decide +kernel
theorem dX1_around_114 : decode cX1_around 114 = .ok (.aload_n 0, 1) := by decide +kernel
theorem dX1_around_115 : decode cX1_around 115 = .ok (.getfield 20, 3) := by decide +kernel
theorem dX1_around_118 : decode cX1_around 118 = .ok (.bipush 6, 2) := by decide +kernel
theorem dX1_around_120 : decode cX1_around 120 = .ok (.iload 4, 2) := by decide +kernel
theorem dX1_around_122 : decode cX1_around 122 = .ok (.imul, 1) := by decide +kernel
theorem dX1_around_123 : decode cX1_around 123 = .ok (.iload 5, 2) := by decide +kernel
theorem dX1_around_125 : decode cX1_around 125 = .ok (.iadd, 1) := by decide +kernel
theorem dX1_around_126 : decode cX1_around 126 = .ok (.iaload, 1) := by decide +kernel
theorem dX1_around_127 : decode cX1_around 127 = .ok (.istore 6, 2) := by decide +kernel
theorem dX1_around_129 : decode cX1_around 129 = .ok (.aload_n 0, 1) := by decide +kernel
theorem dX1_around_130 : decode cX1_around 130 = .ok (.getfield 26, 3) := by decide +kernel
theorem dX1_around_133 : decode cX1_around 133 = .ok (.iload 6, 2) := by decide +kernel
theorem dX1_around_135 : decode cX1_around 135 = .ok (.aload_n 0, 1) := by decide +kernel
theorem dX1_around_136 : decode cX1_around 136 = .ok (.getfield 26, 3) := by decide +kernel
theorem dX1_around_139 : decode cX1_around 139 = .ok (.iload 6, 2) := by decide +kernel
theorem dX1_around_141 : decode cX1_around 141 = .ok (.iaload, 1) := by decide +kernel
theorem dX1_around_142 : decode cX1_around 142 = .ok (.iload_n 3, 1) := by decide +kernel
theorem dX1_around_143 : decode cX1_around 143 = .ok (.if_icmp .le 9, 3) := by decide +kernel
theorem dX1_around_146 : decode cX1_around 146 = .ok (.iload_n 3, 1) := by decide +kernel
theorem dX1_around_147 : decode cX1_around 147 = .ok (.iconst 1, 1) := by decide +kernel
theorem dX1_around_148 : decode cX1_around 148 = .ok (.iadd, 1) := by decide +kernel
theorem dX1_around_149 : decode cX1_around 149 = .ok (.goto 10, 3) := by decide +kernel
theorem dX1_around_152 : decode cX1_around 152 = .ok (.aload_n 0, 1) := by decide +kernel
theorem dX1_around_153 : decode cX1_around 153 = .ok (.getfield 26, 3) := by decide +kernel
theorem dX1_around_156 : decode cX1_around 156 = .ok (.iload 6, 2) := by decide +kernel
theorem dX1_around_158 : decode cX1_around 158 = .ok (.iaload, 1) := by decide +kernel
theorem dX1_around_159 : decode cX1_around 159 = .ok (.iastore, 1) := by decide +kernel
theorem dX1_around_160 : decode cX1_around 160 = .ok (.iinc 5 1, 3) := by decide +kernel
theorem dX1_around_163 : decode cX1_around 163 = .ok (.goto (-72), 3) := by decide +kernel
theorem dX1_around_166 : decode cX1_around 166 = .ok (.iinc 4 1, 3) := by decide +kernel
theorem dX1_around_169 : decode cX1_around 169 = .ok (.goto (-90), 3) := by decide +kernel
theorem dX1_around_172 : decode cX1_around 172 = .ok (.iinc 3 1, 3) := by decide +kernel
theorem dX1_around_175 : decode cX1_around 175 = .ok (.goto (-104), 3) := by decide +kernel
theorem dX1_around_178 : decode cX1_around 178 = .ok (.iconst 0, 1) := by decide +kernel
theorem dX1_around_179 : decode cX1_around 179 = .ok (.istore_n 3, 1) := by decide +kernel
theorem dX1_around_180 : decode cX1_around 180 = .ok (.iconst 0, 1) := by decide +kernel
theorem dX1_around_181 : decode cX1_around 181 = .ok (.istore 4, 2) := by decide +kernel
theorem dX1_around_183 : decode cX1_around 183 = .ok (.iload 4, 2) := by decide +kernel
theorem dX1_around_185 : decode cX1_around 185 = .ok (.aload_n 0, 1) := by decide +kernel
theorem dX1_around_186 : decode cX1_around 186 = .ok (.getfield 33, 3) := by decide +kernel
theorem dX1_around_189 : decode cX1_around 189 = .ok (.if_icmp .ge 29, 3) := by decide +kernel
theorem dX1_around_192 : decode cX1_around 192 = .ok (.iload_n 3, 1) := by decide +kernel
theorem dX1_around_193 : decode cX1_around 193 = .ok (.aload_n 0, 1) := by decide +kernel
theorem dX1_around_194 : decode cX1_around 194 = .ok (.getfield 26, 3) := by decide +kernel
theorem dX1_around_197 : decode cX1_around 197 = .ok (.iload 4, 2) := by decide +kernel
theorem dX1_around_199 : decode cX1_around 199 = .ok (.iaload, 1) := by decide +kernel
theorem dX1_around_200 : decode cX1_around 200 = .ok (.bipush 100, 2) := by decide +kernel
theorem dX1_around_202 : decode cX1_around 202 = .ok (.if_icmp .ge 7, 3) := by decide +kernel
theorem dX1_around_205 : decode cX1_around 205 = .ok (.iconst 1, 1) := by decide +kernel
theorem dX1_around_206 : decode cX1_around 206 = .ok (.goto 4, 3) := by decide +kernel
theorem dX1_around_209 : decode cX1_around 209 = .ok (.iconst 0, 1) := by decide +kernel
theorem dX1_around_210 : decode cX1_around 210 = .ok (.iadd, 1) := by decide +kernel
theorem dX1_around_211 : decode cX1_around 211 = .ok (.istore_n 3, 1) := by decide +kernel
theorem dX1_around_212 : decode cX1_around 212 = .ok (.iinc 4 1, 3) := by decide +kernel
theorem dX1_around_215 : decode cX1_around 215 = .ok (.goto (-32), 3) := by decide +kernel
theorem dX1_around_218 : decode cX1_around 218 = .ok (.iload_n 3, 1) := by decide +kernel
theorem dX1_around_219 : decode cX1_around 219 = .ok (.ireturn, 1) := by decide +kernel
theorem dX1_look_0 : decode cX1_look 0 = .ok (.aload_n 0, 1) := by decide +kernel
theorem dX1_look_1 : decode cX1_look 1 = .ok (.iconst 0, 1) := by decide +kernel
theorem dX1_look_2 : decode cX1_look 2 = .ok (.putfield 29, 3) := by decide +kernel
theorem dX1_look_5 : decode cX1_look 5 = .ok (.iconst 0, 1) := by decide +kernel
theorem dX1_look_6 : decode cX1_look 6 = .ok (.istore_n 2, 1) := by decide +kernel
theorem dX1_look_7 : decode cX1_look 7 = .ok (.iconst 0, 1) := by decide +kernel
theorem dX1_look_8 : decode cX1_look 8 = .ok (.istore_n 3, 1) := by decide +kernel
theorem dX1_look_9 : decode cX1_look 9 = .ok (.iload_n 3, 1) := by decide +kernel
theorem dX1_look_10 : decode cX1_look 10 = .ok (.aload_n 0, 1) := by decide +kernel
theorem dX1_look_11 : decode cX1_look 11 = .ok (.getfield 33, 3) := by decide +kernel
theorem dX1_look_14 : decode cX1_look 14 = .ok (.if_icmp .ge 18, 3) := by decide +kernel
theorem dX1_look_17 : decode cX1_look 17 = .ok (.iload_n 2, 1) := by decide +kernel
theorem dX1_look_18 : decode cX1_look 18 = .ok (.aload_n 0, 1) := by decide +kernel
theorem dX1_look_19 : decode cX1_look 19 = .ok (.getfield 17, 3) := by decide +kernel
theorem dX1_look_22 : decode cX1_look 22 = .ok (.iload_n 3, 1) := by decide +kernel
theorem dX1_look_23 : decode cX1_look 23 = .ok (.iaload, 1) := by decide +kernel
theorem dX1_look_24 : decode cX1_look 24 = .ok (.iadd, 1) := by decide +kernel
theorem dX1_look_25 : decode cX1_look 25 = .ok (.istore_n 2, 1) := by decide +kernel
theorem dX1_look_26 : decode cX1_look 26 = .ok (.iinc 3 1, 3) := by decide +kernel
theorem dX1_look_29 : decode cX1_look 29 = .ok (.goto (-20), 3) := by decide +kernel
theorem dX1_look_32 : decode cX1_look 32 = .ok (.iload_n 1, 1) := by decide +kernel
theorem dX1_look_33 : decode cX1_look 33 = .ok (.ifCond .ne 10, 3) := by decide +kernel
theorem dX1_look_36 : decode cX1_look 36 = .ok (.aload_n 0, 1) := by decide +kernel
theorem dX1_look_37 : decode cX1_look 37 = .ok (.getfield 33, 3) := by decide +kernel
theorem dX1_look_40 : decode cX1_look 40 = .ok (.goto 13, 3) := by decide +kernel
theorem dX1_look_43 : decode cX1_look 43 = .ok (.iload_n 1, 1) := by decide +kernel
theorem dX1_look_44 : decode cX1_look 44 = .ok (.iconst 1, 1) := by decide +kernel
theorem dX1_look_45 : decode cX1_look 45 = .ok (.if_icmp .ne 7, 3) := by decide +kernel
theorem dX1_look_48 : decode cX1_look 48 = .ok (.iload_n 2, 1) := by decide +kernel
theorem dX1_look_49 : decode cX1_look 49 = .ok (.goto 4, 3) := by decide +kernel
theorem dX1_look_52 : decode cX1_look 52 = .ok (.iconst (-1), 1) := by decide +kernel
theorem dX1_look_53 : decode cX1_look 53 = .ok (.ireturn, 1) := by decide +kernel
theorem dJ9_max_7cf53_0 : decode cJ9_max_7cf53 0 = .ok (.iload_n 0, 1) := by decide +kernel
theorem dJ9_max_7cf53_1 : decode cJ9_max_7cf53 1 = .ok (.iload_n 1, 1) := by decide +kernel
theorem dJ9_max_7cf53_2 : decode cJ9_max_7cf53 2 = .ok (.if_icmp .lt 7, 3) := by decide +kernel
theorem dJ9_max_7cf53_5 : decode cJ9_max_7cf53 5 = .ok (.iload_n 0, 1) := by decide +kernel
theorem dJ9_max_7cf53_6 : decode cJ9_max_7cf53 6 = .ok (.goto 4, 3) := by decide +kernel
theorem dJ9_max_7cf53_9 : decode cJ9_max_7cf53 9 = .ok (.iload_n 1, 1) := by decide +kernel
theorem dJ9_max_7cf53_10 : decode cJ9_max_7cf53 10 = .ok (.ireturn, 1) := by decide +kernel
