theorem dL_cell_0 : decode cL_cell 0 = .ok (.iload_n 1, 1) := by decide +kernel
theorem dL_cell_1 : decode cL_cell 1 = .ok (.aload_n 0, 1) := by decide +kernel
theorem dL_cell_2 : decode cL_cell 2 = .ok (.arraylength, 1) := by decide +kernel
theorem dL_cell_3 : decode cL_cell 3 = .ok (.if_icmp .ge 9, 3) := by decide +kernel
theorem dL_cell_6 : decode cL_cell 6 = .ok (.aload_n 0, 1) := by decide +kernel
theorem dL_cell_7 : decode cL_cell 7 = .ok (.iload_n 1, 1) := by decide +kernel
theorem dL_cell_8 : decode cL_cell 8 = .ok (.iaload, 1) := by decide +kernel
theorem dL_cell_9 : decode cL_cell 9 = .ok (.goto 4, 3) := by decide +kernel
theorem dL_cell_12 : decode cL_cell 12 = .ok (.iconst 0, 1) := by decide +kernel
theorem dL_cell_13 : decode cL_cell 13 = .ok (.ireturn, 1) := by decide +kernel
theorem dL_node_0 : decode cL_node 0 = .ok (.aload_n 3, 1) := by decide +kernel
theorem dL_node_1 : decode cL_node 1 = .ok (.iconst 0, 1) := by decide +kernel
theorem dL_node_2 : decode cL_node 2 = .ok (.aload_n 0, 1) := by decide +kernel
theorem dL_node_3 : decode cL_node 3 = .ok (.iload_n 1, 1) := by decide +kernel
theorem dL_node_4 : decode cL_node 4 = .ok (.iload_n 2, 1) := by decide +kernel
theorem dL_node_5 : decode cL_node 5 = .ok (.invokevirtual 7, 3) := by decide +kernel
theorem dL_node_8 : decode cL_node 8 = .ok (.i2l, 1) := by decide +kernel
theorem dL_node_9 : decode cL_node 9 = .ok (.lastore, 1) := by decide +kernel
theorem dL_node_10 : decode cL_node 10 = .ok (.goto 11, 3) := by decide +kernel
theorem dL_node_13 : decode cL_node 13 = .ok (.astore 4, 2) := by decide +kernel
theorem dL_node_15 : decode cL_node 15 = .ok (.iconst 1, 1) := by decide +kernel
theorem dL_node_16 : decode cL_node 16 = .ok (.ireturn, 1) := by decide +kernel
theorem dL_node_17 : decode cL_node 17 = .ok (.astore 4, 2) := by decide +kernel
theorem dL_node_19 : decode cL_node 19 = .ok (.iconst 2, 1) := by decide +kernel
theorem dL_node_20 : decode cL_node 20 = .ok (.ireturn, 1) := by decide +kernel
theorem dL_node_21 : decode cL_node 21 = .ok (.iconst 0, 1) := by decide +kernel
theorem dL_node_22 : decode cL_node 22 = .ok (.ireturn, 1) := by decide +kernel
theorem dL_move_0 : decode cL_move 0 = .ok (.aload_n 3, 1) := by decide +kernel
theorem dL_move_1 : decode cL_move 1 = .ok (.iconst 0, 1) := by decide +kernel
theorem dL_move_2 : decode cL_move 2 = .ok (.aload_n 0, 1) := by decide +kernel
theorem dL_move_3 : decode cL_move 3 = .ok (.iload_n 1, 1) := by decide +kernel
theorem dL_move_4 : decode cL_move 4 = .ok (.iload_n 2, 1) := by decide +kernel
theorem dL_move_5 : decode cL_move 5 = .ok (.invokevirtual 17, 3) := by decide +kernel
theorem dL_move_8 : decode cL_move 8 = .ok (.i2l, 1) := by decide +kernel
theorem dL_move_9 : decode cL_move 9 = .ok (.lastore, 1) := by decide +kernel
theorem dL_move_10 : decode cL_move 10 = .ok (.goto 11, 3) := by decide +kernel
theorem dL_move_13 : decode cL_move 13 = .ok (.astore 4, 2) := by decide +kernel
theorem dL_move_15 : decode cL_move 15 = .ok (.iconst 1, 1) := by decide +kernel
theorem dL_move_16 : decode cL_move 16 = .ok (.ireturn, 1) := by decide +kernel
theorem dL_move_17 : decode cL_move 17 = .ok (.astore 4, 2) := by decide +kernel
theorem dL_move_19 : decode cL_move 19 = .ok (.iconst 2, 1) := by decide +kernel
theorem dL_move_20 : decode cL_move 20 = .ok (.ireturn, 1) := by decide +kernel
theorem dL_move_21 : decode cL_move 21 = .ok (.iconst 0, 1) := by decide +kernel
theorem dL_move_22 : decode cL_move 22 = .ok (.ireturn, 1) := by decide +kernel
theorem dL_value_0 : decode cL_value 0 = .ok (.aload_n 3, 1) := by decide +kernel
theorem dL_value_1 : decode cL_value 1 = .ok (.iconst 0, 1) := by decide +kernel
theorem dL_value_2 : decode cL_value 2 = .ok (.aload_n 0, 1) := by decide +kernel
theorem dL_value_3 : decode cL_value 3 = .ok (.iload_n 1, 1) := by decide +kernel
theorem dL_value_4 : decode cL_value 4 = .ok (.iload_n 2, 1) := by decide +kernel
theorem dL_value_5 : decode cL_value 5 = .ok (.invokevirtual 21, 3) := by decide +kernel
theorem dL_value_8 : decode cL_value 8 = .ok (.i2l, 1) := by decide +kernel
theorem dL_value_9 : decode cL_value 9 = .ok (.lastore, 1) := by decide +kernel
theorem dL_value_10 : decode cL_value 10 = .ok (.goto 7, 3) := by decide +kernel
theorem dL_value_13 : decode cL_value 13 = .ok (.astore 4, 2) := by decide +kernel
theorem dL_value_15 : decode cL_value 15 = .ok (.iconst 1, 1) := by decide +kernel
theorem dL_value_16 : decode cL_value 16 = .ok (.ireturn, 1) := by decide +kernel
theorem dL_value_17 : decode cL_value 17 = .ok (.iconst 0, 1) := by decide +kernel
theorem dL_value_18 : decode cL_value 18 = .ok (.ireturn, 1) := by decide +kernel
theorem dL_best_0 : decode cL_best 0 = .ok (.aload_n 3, 1) := by decide +kernel
theorem dL_best_1 : decode cL_best 1 = .ok (.iconst 0, 1) := by decide +kernel
theorem dL_best_2 : decode cL_best 2 = .ok (.aload_n 0, 1) := by decide +kernel
theorem dL_best_3 : decode cL_best 3 = .ok (.iload_n 1, 1) := by decide +kernel
theorem dL_best_4 : decode cL_best 4 = .ok (.iload_n 2, 1) := by decide +kernel
theorem dL_best_5 : decode cL_best 5 = .ok (.invokevirtual 24, 3) := by decide +kernel
theorem dL_best_8 : decode cL_best 8 = .ok (.i2l, 1) := by decide +kernel
theorem dL_best_9 : decode cL_best 9 = .ok (.lastore, 1) := by decide +kernel
theorem dL_best_10 : decode cL_best 10 = .ok (.goto 7, 3) := by decide +kernel
theorem dL_best_13 : decode cL_best 13 = .ok (.astore 4, 2) := by decide +kernel
theorem dL_best_15 : decode cL_best 15 = .ok (.iconst 1, 1) := by decide +kernel
theorem dL_best_16 : decode cL_best 16 = .ok (.ireturn, 1) := by decide +kernel
theorem dL_best_17 : decode cL_best 17 = .ok (.iconst 0, 1) := by decide +kernel
theorem dL_best_18 : decode cL_best 18 = .ok (.ireturn, 1) := by decide +kernel
theorem dL_reaches_0 : decode cL_reaches 0 = .ok (.aload 4, 2) := by decide +kernel
theorem dL_reaches_2 : decode cL_reaches 2 = .ok (.iconst 0, 1) := by decide +kernel
theorem dL_reaches_3 : decode cL_reaches 3 = .ok (.aload_n 0, 1) := by decide +kernel
theorem dL_reaches_4 : decode cL_reaches 4 = .ok (.iload_n 1, 1) := by decide +kernel
theorem dL_reaches_5 : decode cL_reaches 5 = .ok (.iload_n 2, 1) := by decide +kernel
theorem dL_reaches_6 : decode cL_reaches 6 = .ok (.iload_n 3, 1) := by decide +kernel
theorem dL_reaches_7 : decode cL_reaches 7 = .ok (.invokevirtual 27, 3) := by decide +kernel
theorem dL_reaches_10 : decode cL_reaches 10 = .ok (.ifCond .eq 7, 3) := by decide +kernel
theorem dL_reaches_13 : decode cL_reaches 13 = .ok (.lconst 1, 1) := by decide +kernel
theorem dL_reaches_14 : decode cL_reaches 14 = .ok (.goto 4, 3) := by decide +kernel
theorem dL_reaches_17 : decode cL_reaches 17 = .ok (.lconst 0, 1) := by decide +kernel
theorem dL_reaches_18 : decode cL_reaches 18 = .ok (.lastore, 1) := by decide +kernel
theorem dL_reaches_19 : decode cL_reaches 19 = .ok (.goto 7, 3) := by decide +kernel
theorem dL_reaches_22 : decode cL_reaches 22 = .ok (.astore 5, 2) := by decide +kernel
theorem dL_reaches_24 : decode cL_reaches 24 = .ok (.iconst 1, 1) := by decide +kernel
theorem dL_reaches_25 : decode cL_reaches 25 = .ok (.ireturn, 1) := by decide +kernel
theorem dL_reaches_26 : decode cL_reaches 26 = .ok (.iconst 0, 1) := by decide +kernel
theorem dL_reaches_27 : decode cL_reaches 27 = .ok (.ireturn, 1) := by decide +kernel
theorem dL_line_0 : decode cL_line 0 = .ok (.aload 4, 2) := by decide +kernel
theorem dL_line_2 : decode cL_line 2 = .ok (.iconst 0, 1) := by decide +kernel
theorem dL_line_3 : decode cL_line 3 = .ok (.aload_n 0, 1) := by decide +kernel
theorem dL_line_4 : decode cL_line 4 = .ok (.iload_n 1, 1) := by decide +kernel
theorem dL_line_5 : decode cL_line 5 = .ok (.iload_n 2, 1) := by decide +kernel
theorem dL_line_6 : decode cL_line 6 = .ok (.iload_n 3, 1) := by decide +kernel
theorem dL_line_7 : decode cL_line 7 = .ok (.invokevirtual 31, 3) := by decide +kernel
theorem dL_line_10 : decode cL_line 10 = .ok (.i2l, 1) := by decide +kernel
theorem dL_line_11 : decode cL_line 11 = .ok (.lastore, 1) := by decide +kernel
theorem dL_line_12 : decode cL_line 12 = .ok (.goto 7, 3) := by decide +kernel
theorem dL_line_15 : decode cL_line 15 = .ok (.astore 5, 2) := by decide +kernel
theorem dL_line_17 : decode cL_line 17 = .ok (.iconst 1, 1) := by decide +kernel
theorem dL_line_18 : decode cL_line 18 = .ok (.ireturn, 1) := by decide +kernel
theorem dL_line_19 : decode cL_line 19 = .ok (.iconst 0, 1) := by decide +kernel
theorem dL_line_20 : decode cL_line 20 = .ok (.ireturn, 1) := by decide +kernel
theorem dL_ties_0 : decode cL_ties 0 = .ok (.aload_n 3, 1) := by decide +kernel
theorem dL_ties_1 : decode cL_ties 1 = .ok (.iconst 0, 1) := by decide +kernel
theorem dL_ties_2 : decode cL_ties 2 = .ok (.aload_n 0, 1) := by decide +kernel
theorem dL_ties_3 : decode cL_ties 3 = .ok (.iload_n 1, 1) := by decide +kernel
theorem dL_ties_4 : decode cL_ties 4 = .ok (.iload_n 2, 1) := by decide +kernel
theorem dL_ties_5 : decode cL_ties 5 = .ok (.invokevirtual 35, 3) := by decide +kernel
theorem dL_ties_8 : decode cL_ties 8 = .ok (.i2l, 1) := by decide +kernel
theorem dL_ties_9 : decode cL_ties 9 = .ok (.lastore, 1) := by decide +kernel
theorem dL_ties_10 : decode cL_ties 10 = .ok (.goto 7, 3) := by decide +kernel
theorem dL_ties_13 : decode cL_ties 13 = .ok (.astore 4, 2) := by decide +kernel
theorem dL_ties_15 : decode cL_ties 15 = .ok (.iconst 1, 1) := by decide +kernel
theorem dL_ties_16 : decode cL_ties 16 = .ok (.ireturn, 1) := by decide +kernel
theorem dL_ties_17 : decode cL_ties 17 = .ok (.iconst 0, 1) := by decide +kernel
theorem dL_ties_18 : decode cL_ties 18 = .ok (.ireturn, 1) := by decide +kernel
theorem dL_settled_0 : decode cL_settled 0 = .ok (.aload_n 3, 1) := by decide +kernel
theorem dL_settled_1 : decode cL_settled 1 = .ok (.iconst 0, 1) := by decide +kernel
theorem dL_settled_2 : decode cL_settled 2 = .ok (.aload_n 0, 1) := by decide +kernel
theorem dL_settled_3 : decode cL_settled 3 = .ok (.iload_n 1, 1) := by decide +kernel
theorem dL_settled_4 : decode cL_settled 4 = .ok (.iload_n 2, 1) := by decide +kernel
theorem dL_settled_5 : decode cL_settled 5 = .ok (.invokevirtual 38, 3) := by decide +kernel
theorem dL_settled_8 : decode cL_settled 8 = .ok (.i2l, 1) := by decide +kernel
theorem dL_settled_9 : decode cL_settled 9 = .ok (.lastore, 1) := by decide +kernel
theorem dL_settled_10 : decode cL_settled 10 = .ok (.goto 7, 3) := by decide +kernel
theorem dL_settled_13 : decode cL_settled 13 = .ok (.astore 4, 2) := by decide +kernel
theorem dL_settled_15 : decode cL_settled 15 = .ok (.iconst 1, 1) := by decide +kernel
theorem dL_settled_16 : decode cL_settled 16 = .ok (.ireturn, 1) := by decide +kernel
theorem dL_settled_17 : decode cL_settled 17 = .ok (.iconst 0, 1) := by decide +kernel
theorem dL_settled_18 : decode cL_settled 18 = .ok (.ireturn, 1) := by decide +kernel
theorem dL_around_0 : decode cL_around 0 = .ok (.aload_n 3, 1) := by decide +kernel
theorem dL_around_1 : decode cL_around 1 = .ok (.iconst 0, 1) := by decide +kernel
theorem dL_around_2 : decode cL_around 2 = .ok (.aload_n 0, 1) := by decide +kernel
theorem dL_around_3 : decode cL_around 3 = .ok (.iload_n 1, 1) := by decide +kernel
theorem dL_around_4 : decode cL_around 4 = .ok (.iload_n 2, 1) := by decide +kernel
theorem dL_around_5 : decode cL_around 5 = .ok (.invokevirtual 41, 3) := by decide +kernel
theorem dL_around_8 : decode cL_around 8 = .ok (.i2l, 1) := by decide +kernel
theorem dL_around_9 : decode cL_around 9 = .ok (.lastore, 1) := by decide +kernel
theorem dL_around_10 : decode cL_around 10 = .ok (.goto 7, 3) := by decide +kernel
theorem dL_around_13 : decode cL_around 13 = .ok (.astore 4, 2) := by decide +kernel
theorem dL_around_15 : decode cL_around 15 = .ok (.iconst 1, 1) := by decide +kernel
theorem dL_around_16 : decode cL_around 16 = .ok (.ireturn, 1) := by decide +kernel
theorem dL_around_17 : decode cL_around 17 = .ok (.iconst 0, 1) := by decide +kernel
theorem dL_around_18 : decode cL_around 18 = .ok (.ireturn, 1) := by decide +kernel
