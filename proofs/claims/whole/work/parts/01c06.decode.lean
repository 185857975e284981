theorem dL_position_13 : decode cL_position 13 = .ok (.iconst 1, 1) := by decide +kernel
theorem dL_position_14 : decode cL_position 14 = .ok (.ireturn, 1) := by decide +kernel
theorem dL_position_15 : decode cL_position 15 = .ok (.iconst 0, 1) := by decide +kernel
theorem dL_position_16 : decode cL_position 16 = .ok (.ireturn, 1) := by decide +kernel
theorem dL_rowAt_0 : decode cL_rowAt 0 = .ok (.aload_n 2, 1) := by decide +kernel
theorem dL_rowAt_1 : decode cL_rowAt 1 = .ok (.iconst 0, 1) := by decide +kernel
theorem dL_rowAt_2 : decode cL_rowAt 2 = .ok (.aload_n 0, 1) := by decide +kernel
theorem dL_rowAt_3 : decode cL_rowAt 3 = .ok (.iload_n 1, 1) := by decide +kernel
theorem dL_rowAt_4 : decode cL_rowAt 4 = .ok (.invokevirtual 32, 3) := by decide +kernel
theorem dL_rowAt_7 : decode cL_rowAt 7 = .ok (.i2l, 1) := by decide +kernel
theorem dL_rowAt_8 : decode cL_rowAt 8 = .ok (.lastore, 1) := by decide +kernel
theorem dL_rowAt_9 : decode cL_rowAt 9 = .ok (.goto 6, 3) := by decide +kernel
theorem dL_rowAt_12 : decode cL_rowAt 12 = .ok (.astore_n 3, 1) := by decide +kernel
theorem dL_rowAt_13 : decode cL_rowAt 13 = .ok (.iconst 1, 1) := by decide +kernel
theorem dL_rowAt_14 : decode cL_rowAt 14 = .ok (.ireturn, 1) := by decide +kernel
theorem dL_rowAt_15 : decode cL_rowAt 15 = .ok (.iconst 0, 1) := by decide +kernel
theorem dL_rowAt_16 : decode cL_rowAt 16 = .ok (.ireturn, 1) := by decide +kernel
theorem dL_isJoined_0 : decode cL_isJoined 0 = .ok (.aload_n 3, 1) := by decide +kernel
theorem dL_isJoined_1 : decode cL_isJoined 1 = .ok (.iconst 0, 1) := by decide +kernel
theorem dL_isJoined_2 : decode cL_isJoined 2 = .ok (.aload_n 0, 1) := by decide +kernel
theorem dL_isJoined_3 : decode cL_isJoined 3 = .ok (.iload_n 1, 1) := by decide +kernel
theorem dL_isJoined_4 : decode cL_isJoined 4 = .ok (.iload_n 2, 1) := by decide +kernel
theorem dL_isJoined_5 : decode cL_isJoined 5 = .ok (.invokevirtual 35, 3) := by decide +kernel
theorem dL_isJoined_8 : decode cL_isJoined 8 = .ok (.ifCond .eq 7, 3) := by decide +kernel
theorem dL_isJoined_11 : decode cL_isJoined 11 = .ok (.lconst 1, 1) := by decide +kernel
theorem dL_isJoined_12 : decode cL_isJoined 12 = .ok (.goto 4, 3) := by decide +kernel
theorem dL_isJoined_15 : decode cL_isJoined 15 = .ok (.lconst 0, 1) := by decide +kernel
theorem dL_isJoined_16 : decode cL_isJoined 16 = .ok (.lastore, 1) := by decide +kernel
theorem dL_isJoined_17 : decode cL_isJoined 17 = .ok (.goto 7, 3) := by decide +kernel
theorem dL_isJoined_20 : decode cL_isJoined 20 = .ok (.astore 4, 2) := by decide +kernel
theorem dL_isJoined_22 : decode cL_isJoined 22 = .ok (.iconst 1, 1) := by decide +kernel
theorem dL_isJoined_23 : decode cL_isJoined 23 = .ok (.ireturn, 1) := by decide +kernel
theorem dL_isJoined_24 : decode cL_isJoined 24 = .ok (.iconst 0, 1) := by decide +kernel
theorem dL_isJoined_25 : decode cL_isJoined 25 = .ok (.ireturn, 1) := by decide +kernel
theorem dL_width_0 : decode cL_width 0 = .ok (.aload_n 2, 1) := by decide +kernel
theorem dL_width_1 : decode cL_width 1 = .ok (.iconst 0, 1) := by decide +kernel
theorem dL_width_2 : decode cL_width 2 = .ok (.aload_n 0, 1) := by decide +kernel
theorem dL_width_3 : decode cL_width 3 = .ok (.iload_n 1, 1) := by decide +kernel
theorem dL_width_4 : decode cL_width 4 = .ok (.invokevirtual 38, 3) := by decide +kernel
theorem dL_width_7 : decode cL_width 7 = .ok (.i2l, 1) := by decide +kernel
theorem dL_width_8 : decode cL_width 8 = .ok (.lastore, 1) := by decide +kernel
theorem dL_width_9 : decode cL_width 9 = .ok (.goto 6, 3) := by decide +kernel
theorem dL_width_12 : decode cL_width 12 = .ok (.astore_n 3, 1) := by decide +kernel
theorem dL_width_13 : decode cL_width 13 = .ok (.iconst 1, 1) := by decide +kernel
theorem dL_width_14 : decode cL_width 14 = .ok (.ireturn, 1) := by decide +kernel
theorem dL_width_15 : decode cL_width 15 = .ok (.iconst 0, 1) := by decide +kernel
theorem dL_width_16 : decode cL_width 16 = .ok (.ireturn, 1) := by decide +kernel
theorem dL_parent_0 : decode cL_parent 0 = .ok (.aload_n 2, 1) := by decide +kernel
theorem dL_parent_1 : decode cL_parent 1 = .ok (.iconst 0, 1) := by decide +kernel
theorem dL_parent_2 : decode cL_parent 2 = .ok (.aload_n 0, 1) := by decide +kernel
theorem dL_parent_3 : decode cL_parent 3 = .ok (.iload_n 1, 1) := by decide +kernel
theorem dL_parent_4 : decode cL_parent 4 = .ok (.invokevirtual 41, 3) := by decide +kernel
theorem dL_parent_7 : decode cL_parent 7 = .ok (.i2l, 1) := by decide +kernel
theorem dL_parent_8 : decode cL_parent 8 = .ok (.lastore, 1) := by decide +kernel
theorem dL_parent_9 : decode cL_parent 9 = .ok (.goto 6, 3) := by decide +kernel
theorem dL_parent_12 : decode cL_parent 12 = .ok (.astore_n 3, 1) := by decide +kernel
theorem dL_parent_13 : decode cL_parent 13 = .ok (.iconst 1, 1) := by decide +kernel
theorem dL_parent_14 : decode cL_parent 14 = .ok (.ireturn, 1) := by decide +kernel
theorem dL_parent_15 : decode cL_parent 15 = .ok (.iconst 0, 1) := by decide +kernel
theorem dL_parent_16 : decode cL_parent 16 = .ok (.ireturn, 1) := by decide +kernel
theorem dL_depth_0 : decode cL_depth 0 = .ok (.aload_n 2, 1) := by decide +kernel
theorem dL_depth_1 : decode cL_depth 1 = .ok (.iconst 0, 1) := by decide +kernel
theorem dL_depth_2 : decode cL_depth 2 = .ok (.aload_n 0, 1) := by decide +kernel
theorem dL_depth_3 : decode cL_depth 3 = .ok (.iload_n 1, 1) := by decide +kernel
theorem dL_depth_4 : decode cL_depth 4 = .ok (.invokevirtual 44, 3) := by decide +kernel
theorem dL_depth_7 : decode cL_depth 7 = .ok (.i2l, 1) := by decide +kernel
theorem dL_depth_8 : decode cL_depth 8 = .ok (.lastore, 1) := by decide +kernel
theorem dL_depth_9 : decode cL_depth 9 = .ok (.goto 6, 3) := by decide +kernel
theorem dL_depth_12 : decode cL_depth 12 = .ok (.astore_n 3, 1) := by decide +kernel
theorem dL_depth_13 : decode cL_depth 13 = .ok (.iconst 1, 1) := by decide +kernel
theorem dL_depth_14 : decode cL_depth 14 = .ok (.ireturn, 1) := by decide +kernel
theorem dL_depth_15 : decode cL_depth 15 = .ok (.iconst 0, 1) := by decide +kernel
theorem dL_depth_16 : decode cL_depth 16 = .ok (.ireturn, 1) := by decide +kernel
theorem dL_subtree_0 : decode cL_subtree 0 = .ok (.aload_n 2, 1) := by decide +kernel
theorem dL_subtree_1 : decode cL_subtree 1 = .ok (.iconst 0, 1) := by decide +kernel
theorem dL_subtree_2 : decode cL_subtree 2 = .ok (.aload_n 0, 1) := by decide +kernel
theorem dL_subtree_3 : decode cL_subtree 3 = .ok (.iload_n 1, 1) := by decide +kernel
theorem dL_subtree_4 : decode cL_subtree 4 = .ok (.invokevirtual 47, 3) := by decide +kernel
theorem dL_subtree_7 : decode cL_subtree 7 = .ok (.i2l, 1) := by decide +kernel
theorem dL_subtree_8 : decode cL_subtree 8 = .ok (.lastore, 1) := by decide +kernel
theorem dL_subtree_9 : decode cL_subtree 9 = .ok (.goto 6, 3) := by decide +kernel
theorem dL_subtree_12 : decode cL_subtree 12 = .ok (.astore_n 3, 1) := by decide +kernel
theorem dL_subtree_13 : decode cL_subtree 13 = .ok (.iconst 1, 1) := by decide +kernel
theorem dL_subtree_14 : decode cL_subtree 14 = .ok (.ireturn, 1) := by decide +kernel
theorem dL_subtree_15 : decode cL_subtree 15 = .ok (.iconst 0, 1) := by decide +kernel
theorem dL_subtree_16 : decode cL_subtree 16 = .ok (.ireturn, 1) := by decide +kernel
theorem dL_meeting_0 : decode cL_meeting 0 = .ok (.aload_n 3, 1) := by decide +kernel
theorem dL_meeting_1 : decode cL_meeting 1 = .ok (.iconst 0, 1) := by decide +kernel
theorem dL_meeting_2 : decode cL_meeting 2 = .ok (.aload_n 0, 1) := by decide +kernel
theorem dL_meeting_3 : decode cL_meeting 3 = .ok (.iload_n 1, 1) := by decide +kernel
theorem dL_meeting_4 : decode cL_meeting 4 = .ok (.iload_n 2, 1) := by decide +kernel
theorem dL_meeting_5 : decode cL_meeting 5 = .ok (.invokevirtual 50, 3) := by decide +kernel
theorem dL_meeting_8 : decode cL_meeting 8 = .ok (.i2l, 1) := by decide +kernel
theorem dL_meeting_9 : decode cL_meeting 9 = .ok (.lastore, 1) := by decide +kernel
theorem dL_meeting_10 : decode cL_meeting 10 = .ok (.goto 7, 3) := by decide +kernel
theorem dL_meeting_13 : decode cL_meeting 13 = .ok (.astore 4, 2) := by decide +kernel
theorem dL_meeting_15 : decode cL_meeting 15 = .ok (.iconst 1, 1) := by decide +kernel
theorem dL_meeting_16 : decode cL_meeting 16 = .ok (.ireturn, 1) := by decide +kernel
theorem dL_meeting_17 : decode cL_meeting 17 = .ok (.iconst 0, 1) := by decide +kernel
theorem dL_meeting_18 : decode cL_meeting 18 = .ok (.ireturn, 1) := by decide +kernel
theorem dL_reached_0 : decode cL_reached 0 = .ok (.aload_n 2, 1) := by decide +kernel
theorem dL_reached_1 : decode cL_reached 1 = .ok (.iconst 0, 1) := by decide +kernel
theorem dL_reached_2 : decode cL_reached 2 = .ok (.aload_n 0, 1) := by decide +kernel
theorem dL_reached_3 : decode cL_reached 3 = .ok (.iload_n 1, 1) := by decide +kernel
theorem dL_reached_4 : decode cL_reached 4 = .ok (.invokevirtual 53, 3) := by decide +kernel
theorem dL_reached_7 : decode cL_reached 7 = .ok (.i2l, 1) := by decide +kernel
theorem dL_reached_8 : decode cL_reached 8 = .ok (.lastore, 1) := by decide +kernel
theorem dL_reached_9 : decode cL_reached 9 = .ok (.goto 6, 3) := by decide +kernel
theorem dL_reached_12 : decode cL_reached 12 = .ok (.astore_n 3, 1) := by decide +kernel
theorem dL_reached_13 : decode cL_reached 13 = .ok (.iconst 1, 1) := by decide +kernel
theorem dL_reached_14 : decode cL_reached 14 = .ok (.ireturn, 1) := by decide +kernel
theorem dL_reached_15 : decode cL_reached 15 = .ok (.iconst 0, 1) := by decide +kernel
theorem dL_reached_16 : decode cL_reached 16 = .ok (.ireturn, 1) := by decide +kernel
theorem dL_pivot_0 : decode cL_pivot 0 = .ok (.aload_n 2, 1) := by decide +kernel
theorem dL_pivot_1 : decode cL_pivot 1 = .ok (.iconst 0, 1) := by decide +kernel
theorem dL_pivot_2 : decode cL_pivot 2 = .ok (.aload_n 0, 1) := by decide +kernel
theorem dL_pivot_3 : decode cL_pivot 3 = .ok (.iload_n 1, 1) := by decide +kernel
theorem dL_pivot_4 : decode cL_pivot 4 = .ok (.invokevirtual 56, 3) := by decide +kernel
theorem dL_pivot_7 : decode cL_pivot 7 = .ok (.i2l, 1) := by decide +kernel
theorem dL_pivot_8 : decode cL_pivot 8 = .ok (.lastore, 1) := by decide +kernel
theorem dL_pivot_9 : decode cL_pivot 9 = .ok (.goto 9, 3) := by decide +kernel
theorem dL_pivot_12 : decode cL_pivot 12 = .ok (.astore_n 3, 1) := by decide +kernel
theorem dL_pivot_13 : decode cL_pivot 13 = .ok (.iconst 1, 1) := by decide +kernel
theorem dL_pivot_14 : decode cL_pivot 14 = .ok (.ireturn, 1) := by decide +kernel
theorem dL_pivot_15 : decode cL_pivot 15 = .ok (.astore_n 3, 1) := by decide +kernel
theorem dL_pivot_16 : decode cL_pivot 16 = .ok (.iconst 2, 1) := by decide +kernel
theorem dL_pivot_17 : decode cL_pivot 17 = .ok (.ireturn, 1) := by decide +kernel
theorem dL_pivot_18 : decode cL_pivot 18 = .ok (.iconst 0, 1) := by decide +kernel
theorem dL_pivot_19 : decode cL_pivot 19 = .ok (.ireturn, 1) := by decide +kernel
theorem dL_lower_0 : decode cL_lower 0 = .ok (.aload_n 3, 1) := by decide +kernel
theorem dL_lower_1 : decode cL_lower 1 = .ok (.iconst 0, 1) := by decide +kernel
theorem dL_lower_2 : decode cL_lower 2 = .ok (.aload_n 0, 1) := by decide +kernel
theorem dL_lower_3 : decode cL_lower 3 = .ok (.iload_n 1, 1) := by decide +kernel
theorem dL_lower_4 : decode cL_lower 4 = .ok (.iload_n 2, 1) := by decide +kernel
theorem dL_lower_5 : decode cL_lower 5 = .ok (.invokevirtual 61, 3) := by decide +kernel
theorem dL_lower_8 : decode cL_lower 8 = .ok (.i2l, 1) := by decide +kernel
theorem dL_lower_9 : decode cL_lower 9 = .ok (.lastore, 1) := by decide +kernel
theorem dL_lower_10 : decode cL_lower 10 = .ok (.goto 11, 3) := by decide +kernel
theorem dL_lower_13 : decode cL_lower 13 = .ok (.astore 4, 2) := by decide +kernel
theorem dL_lower_15 : decode cL_lower 15 = .ok (.iconst 1, 1) := by decide +kernel
theorem dL_lower_16 : decode cL_lower 16 = .ok (.ireturn, 1) := by decide +kernel
theorem dL_lower_17 : decode cL_lower 17 = .ok (.astore 4, 2) := by decide +kernel
theorem dL_lower_19 : decode cL_lower 19 = .ok (.iconst 2, 1) := by decide +kernel
theorem dL_lower_20 : decode cL_lower 20 = .ok (.ireturn, 1) := by decide +kernel
theorem dL_lower_21 : decode cL_lower 21 = .ok (.iconst 0, 1) := by decide +kernel
theorem dL_lower_22 : decode cL_lower 22 = .ok (.ireturn, 1) := by decide +kernel
theorem dL_setWeight_0 : decode cL_setWeight 0 = .ok (.aload_n 3, 1) := by decide +kernel
theorem dL_setWeight_1 : decode cL_setWeight 1 = .ok (.iconst 0, 1) := by decide +kernel
theorem dL_setWeight_2 : decode cL_setWeight 2 = .ok (.aload_n 0, 1) := by decide +kernel
theorem dL_setWeight_3 : decode cL_setWeight 3 = .ok (.iload_n 1, 1) := by decide +kernel
theorem dL_setWeight_4 : decode cL_setWeight 4 = .ok (.iload_n 2, 1) := by decide +kernel
theorem dL_setWeight_5 : decode cL_setWeight 5 = .ok (.invokevirtual 64, 3) := by decide +kernel
theorem dL_setWeight_8 : decode cL_setWeight 8 = .ok (.i2l, 1) := by decide +kernel
theorem dL_setWeight_9 : decode cL_setWeight 9 = .ok (.lastore, 1) := by decide +kernel
theorem dL_setWeight_10 : decode cL_setWeight 10 = .ok (.goto 11, 3) := by decide +kernel
theorem dL_setWeight_13 : decode cL_setWeight 13 = .ok (.astore 4, 2) := by decide +kernel
theorem dL_setWeight_15 : decode cL_setWeight 15 = .ok (.iconst 1, 1) := by decide +kernel
theorem dL_setWeight_16 : decode cL_setWeight 16 = .ok (.ireturn, 1) := by decide +kernel
theorem dL_setWeight_17 : decode cL_setWeight 17 = .ok (.astore 4, 2) := by decide +kernel
theorem dL_setWeight_19 : decode cL_setWeight 19 = .ok (.iconst 2, 1) := by decide +kernel
theorem dL_setWeight_20 : decode cL_setWeight 20 = .ok (.ireturn, 1) := by decide +kernel
theorem dL_setWeight_21 : decode cL_setWeight 21 = .ok (.iconst 0, 1) := by decide +kernel
theorem dL_setWeight_22 : decode cL_setWeight 22 = .ok (.ireturn, 1) := by decide +kernel
theorem dL_update_0 : decode cL_update 0 = .ok (.aload_n 2, 1) := by decide +kernel
theorem dL_update_1 : decode cL_update 1 = .ok (.iconst 0, 1) := by decide +kernel
theorem dL_update_2 : decode cL_update 2 = .ok (.aload_n 0, 1) := by decide +kernel
theorem dL_update_3 : decode cL_update 3 = .ok (.iload_n 1, 1) := by decide +kernel
theorem dL_update_4 : decode cL_update 4 = .ok (.invokevirtual 67, 3) := by decide +kernel
theorem dL_update_7 : decode cL_update 7 = .ok (.i2l, 1) := by decide +kernel
theorem dL_update_8 : decode cL_update 8 = .ok (.lastore, 1) := by decide +kernel
theorem dL_update_9 : decode cL_update 9 = .ok (.goto 9, 3) := by decide +kernel
theorem dL_update_12 : decode cL_update 12 = .ok (.astore_n 3, 1) := by decide +kernel
theorem dL_update_13 : decode cL_update 13 = .ok (.iconst 1, 1) := by decide +kernel
theorem dL_update_14 : decode cL_update 14 = .ok (.ireturn, 1) := by decide +kernel
theorem dL_update_15 : decode cL_update 15 = .ok (.astore_n 3, 1) := by decide +kernel
theorem dL_update_16 : decode cL_update 16 = .ok (.iconst 2, 1) := by decide +kernel
theorem dL_update_17 : decode cL_update 17 = .ok (.ireturn, 1) := by decide +kernel
theorem dL_update_18 : decode cL_update 18 = .ok (.iconst 0, 1) := by decide +kernel
theorem dL_update_19 : decode cL_update 19 = .ok (.ireturn, 1) := by decide +kernel
theorem dL_setRight_0 : decode cL_setRight 0 = .ok (.aload_n 3, 1) := by decide +kernel
theorem dL_setRight_1 : decode cL_setRight 1 = .ok (.iconst 0, 1) := by decide +kernel
theorem dL_setRight_2 : decode cL_setRight 2 = .ok (.aload_n 0, 1) := by decide +kernel
theorem dL_setRight_3 : decode cL_setRight 3 = .ok (.iload_n 1, 1) := by decide +kernel
theorem dL_setRight_4 : decode cL_setRight 4 = .ok (.iload_n 2, 1) := by decide +kernel
theorem dL_setRight_5 : decode cL_setRight 5 = .ok (.invokevirtual 70, 3) := by decide +kernel
theorem dL_setRight_8 : decode cL_setRight 8 = .ok (.i2l, 1) := by decide +kernel
theorem dL_setRight_9 : decode cL_setRight 9 = .ok (.lastore, 1) := by decide +kernel
theorem dL_setRight_10 : decode cL_setRight 10 = .ok (.goto 11, 3) := by decide +kernel
theorem dL_setRight_13 : decode cL_setRight 13 = .ok (.astore 4, 2) := by decide +kernel
theorem dL_setRight_15 : decode cL_setRight 15 = .ok (.iconst 1, 1) := by decide +kernel
theorem dL_setRight_16 : decode cL_setRight 16 = .ok (.ireturn, 1) := by decide +kernel
theorem dL_setRight_17 : decode cL_setRight 17 = .ok (.astore 4, 2) := by decide +kernel
theorem dL_setRight_19 : decode cL_setRight 19 = .ok (.iconst 2, 1) := by decide +kernel
theorem dL_setRight_20 : decode cL_setRight 20 = .ok (.ireturn, 1) := by decide +kernel
theorem dL_setRight_21 : decode cL_setRight 21 = .ok (.iconst 0, 1) := by decide +kernel
theorem dL_setRight_22 : decode cL_setRight 22 = .ok (.ireturn, 1) := by decide +kernel
theorem dL_solve_0 : decode cL_solve 0 = .ok (.aload_n 1, 1) := by decide +kernel
theorem dL_solve_1 : decode cL_solve 1 = .ok (.iconst 0, 1) := by decide +kernel
theorem dL_solve_2 : decode cL_solve 2 = .ok (.aload_n 0, 1) := by decide +kernel
theorem dL_solve_3 : decode cL_solve 3 = .ok (.invokevirtual 73, 3) := by decide +kernel
theorem dL_solve_6 : decode cL_solve 6 = .ok (.i2l, 1) := by decide +kernel
theorem dL_solve_7 : decode cL_solve 7 = .ok (.lastore, 1) := by decide +kernel
theorem dL_solve_8 : decode cL_solve 8 = .ok (.goto 6, 3) := by decide +kernel
theorem dL_solve_11 : decode cL_solve 11 = .ok (.astore_n 2, 1) := by decide +kernel
theorem dL_solve_12 : decode cL_solve 12 = .ok (.iconst 1, 1) := by decide +kernel
theorem dL_solve_13 : decode cL_solve 13 = .ok (.ireturn, 1) := by decide +kernel
theorem dL_solve_14 : decode cL_solve 14 = .ok (.iconst 0, 1) := by decide +kernel
theorem dL_solve_15 : decode cL_solve 15 = .ok (.ireturn, 1) := by decide +kernel
theorem dL_component_0 : decode cL_component 0 = .ok (.aload_n 2, 1) := by decide +kernel
theorem dL_component_1 : decode cL_component 1 = .ok (.iconst 0, 1) := by decide +kernel
theorem dL_component_2 : decode cL_component 2 = .ok (.aload_n 0, 1) := by decide +kernel
theorem dL_component_3 : decode cL_component 3 = .ok (.iload_n 1, 1) := by decide +kernel
theorem dL_component_4 : decode cL_component 4 = .ok (.invokevirtual 77, 3) := by decide +kernel
theorem dL_component_7 : decode cL_component 7 = .ok (.i2l, 1) := by decide +kernel
theorem dL_component_8 : decode cL_component 8 = .ok (.lastore, 1) := by decide +kernel
theorem dL_component_9 : decode cL_component 9 = .ok (.goto 9, 3) := by decide +kernel
theorem dL_component_12 : decode cL_component 12 = .ok (.astore_n 3, 1) := by decide +kernel
theorem dL_component_13 : decode cL_component 13 = .ok (.iconst 1, 1) := by decide +kernel
theorem dL_component_14 : decode cL_component 14 = .ok (.ireturn, 1) := by decide +kernel
theorem dL_component_15 : decode cL_component 15 = .ok (.astore_n 3, 1) := by decide +kernel
theorem dL_component_16 : decode cL_component 16 = .ok (.iconst 2, 1) := by decide +kernel
theorem dL_component_17 : decode cL_component 17 = .ok (.ireturn, 1) := by decide +kernel
theorem dL_component_18 : decode cL_component 18 = .ok (.iconst 0, 1) := by decide +kernel
theorem dL_component_19 : decode cL_component 19 = .ok (.ireturn, 1) := by decide +kernel
theorem dL_inverse_0 : decode cL_inverse 0 = .ok (.aload_n 3, 1) := by decide +kernel
theorem dL_inverse_1 : decode cL_inverse 1 = .ok (.iconst 0, 1) := by decide +kernel
theorem dL_inverse_2 : decode cL_inverse 2 = .ok (.aload_n 0, 1) := by decide +kernel
theorem dL_inverse_3 : decode cL_inverse 3 = .ok (.iload_n 1, 1) := by decide +kernel
theorem dL_inverse_4 : decode cL_inverse 4 = .ok (.iload_n 2, 1) := by decide +kernel
theorem dL_inverse_5 : decode cL_inverse 5 = .ok (.invokevirtual 82, 3) := by decide +kernel
theorem dL_inverse_8 : decode cL_inverse 8 = .ok (.i2l, 1) := by decide +kernel
theorem dL_inverse_9 : decode cL_inverse 9 = .ok (.lastore, 1) := by decide +kernel
theorem dL_inverse_10 : decode cL_inverse 10 = .ok (.goto 11, 3) := by decide +kernel
theorem dL_inverse_13 : decode cL_inverse 13 = .ok (.astore 4, 2) := by decide +kernel
theorem dL_inverse_15 : decode cL_inverse 15 = .ok (.iconst 1, 1) := by decide +kernel
theorem dL_inverse_16 : decode cL_inverse 16 = .ok (.ireturn, 1) := by decide +kernel
theorem dL_inverse_17 : decode cL_inverse 17 = .ok (.astore 4, 2) := by decide +kernel
theorem dL_inverse_19 : decode cL_inverse 19 = .ok (.iconst 2, 1) := by decide +kernel
theorem dL_inverse_20 : decode cL_inverse 20 = .ok (.ireturn, 1) := by decide +kernel
theorem dL_inverse_21 : decode cL_inverse 21 = .ok (.iconst 0, 1) := by decide +kernel
theorem dL_inverse_22 : decode cL_inverse 22 = .ok (.ireturn, 1) := by decide +kernel
theorem dL_push_0 : decode cL_push 0 = .ok (.aload_n 1, 1) := by decide +kernel
theorem dL_push_1 : decode cL_push 1 = .ok (.iconst 0, 1) := by decide +kernel
theorem dL_push_2 : decode cL_push 2 = .ok (.aload_n 0, 1) := by decide +kernel
theorem dL_push_3 : decode cL_push 3 = .ok (.invokevirtual 85, 3) := by decide +kernel
theorem dL_push_6 : decode cL_push 6 = .ok (.i2l, 1) := by decide +kernel
theorem dL_push_7 : decode cL_push 7 = .ok (.lastore, 1) := by decide +kernel
theorem dL_push_8 : decode cL_push 8 = .ok (.goto 6, 3) := by decide +kernel
theorem dL_push_11 : decode cL_push 11 = .ok (.astore_n 2, 1) := by decide +kernel
theorem dL_push_12 : decode cL_push 12 = .ok (.iconst 1, 1) := by decide +kernel
theorem dL_push_13 : decode cL_push 13 = .ok (.ireturn, 1) := by decide +kernel
theorem dL_push_14 : decode cL_push 14 = .ok (.iconst 0, 1) := by decide +kernel
theorem dL_push_15 : decode cL_push 15 = .ok (.ireturn, 1) := by decide +kernel
theorem dL_pop_0 : decode cL_pop 0 = .ok (.aload_n 1, 1) := by decide +kernel
theorem dL_pop_1 : decode cL_pop 1 = .ok (.iconst 0, 1) := by decide +kernel
theorem dL_pop_2 : decode cL_pop 2 = .ok (.aload_n 0, 1) := by decide +kernel
theorem dL_pop_3 : decode cL_pop 3 = .ok (.invokevirtual 88, 3) := by decide +kernel
theorem dL_pop_6 : decode cL_pop 6 = .ok (.i2l, 1) := by decide +kernel
theorem dL_pop_7 : decode cL_pop 7 = .ok (.lastore, 1) := by decide +kernel
theorem dL_pop_8 : decode cL_pop 8 = .ok (.goto 6, 3) := by decide +kernel
theorem dL_pop_11 : decode cL_pop 11 = .ok (.astore_n 2, 1) := by decide +kernel
theorem dL_pop_12 : decode cL_pop 12 = .ok (.iconst 1, 1) := by decide +kernel
theorem dL_pop_13 : decode cL_pop 13 = .ok (.ireturn, 1) := by decide +kernel
theorem dL_pop_14 : decode cL_pop 14 = .ok (.iconst 0, 1) := by decide +kernel
theorem dL_pop_15 : decode cL_pop 15 = .ok (.ireturn, 1) := by decide +kernel
theorem dL_law_0 : decode cL_law 0 = .ok (.new 8, 3) := by decide +kernel
theorem dL_law_3 : decode cL_law 3 = .ok (.dup, 1) := by decide +kernel
theorem dL_law_4 : decode cL_law 4 = .ok (.invokespecial 91, 3) := by decide +kernel
theorem dL_law_7 : decode cL_law 7 = .ok (.astore_n 1, 1) := by decide +kernel
theorem dL_law_8 : decode cL_law 8 = .ok (.new 92, 3) := by decide +kernel
theorem dL_law_11 : decode cL_law 11 = .ok (.dup, 1) := by decide +kernel
theorem dL_law_12 : decode cL_law 12 = .ok (.invokespecial 94, 3) := by decide +kernel
theorem dL_law_15 : decode cL_law 15 = .ok (.astore_n 2, 1) := by decide +kernel
theorem dL_law_16 : decode cL_law 16 = .ok (.iconst 1, 1) := by decide +kernel
theorem dL_law_17 : decode cL_law 17 = .ok (.newarray .long, 2) := by decide +kernel
theorem dL_law_19 : decode cL_law 19 = .ok (.astore_n 3, 1) := by decide +kernel
theorem dL_law_20 : decode cL_law 20 = .ok (.iconst 0, 1) := by decide +kernel
theorem dL_law_21 : decode cL_law 21 = .ok (.istore 4, 2) := by decide +kernel
theorem dL_law_23 : decode cL_law 23 = .ok (.iload 4, 2) := by decide +kernel
theorem dL_law_25 : decode cL_law 25 = .ok (.aload_n 0, 1) := by decide +kernel
theorem dL_law_26 : decode cL_law 26 = .ok (.arraylength, 1) := by decide +kernel
theorem dL_law_27 : decode cL_law 27 = .ok (.iconst 4, 1) := by decide +kernel
theorem dL_law_28 : decode cL_law 28 = .ok (.isub, 1) := by decide +kernel
theorem dL_law_29 : decode cL_law 29 = .ok (.if_icmp .gt 1729, 3) := by decide +kernel
theorem dL_law_32 : decode cL_law 32 = .ok (.aload_n 0, 1) := by decide +kernel
theorem dL_law_33 : decode cL_law 33 = .ok (.iload 4, 2) := by decide +kernel
theorem dL_law_35 : decode cL_law 35 = .ok (.iaload, 1) := by decide +kernel
theorem dL_law_36 : decode cL_law 36 = .ok (.bipush 63, 2) := by decide +kernel
theorem dL_law_38 : decode cL_law 38 = .ok (.iand, 1) := by decide +kernel
theorem dL_law_39 : decode cL_law 39 = .ok (.tableswitch 1713 0 35 #[157, 213, 226, 306, 374, 387, 400, 475, 488, 501, 557, 613, 626, 639, 714, 727, 783, 796, 852, 908, 964, 977, 1045, 1101, 1114, 1127, 1183, 1251, 1319, 1375, 1443, 1487, 1543, 1611, 1655, 1699], 157) := by decide +kernel
theorem dL_law_196 : decode cL_law 196 = .ok (.aload_n 1, 1) := by decide +kernel
theorem dL_law_197 : decode cL_law 197 = .ok (.aload_n 0, 1) := by decide +kernel
theorem dL_law_198 : decode cL_law 198 = .ok (.iload 4, 2) := by decide +kernel
theorem dL_law_200 : decode cL_law 200 = .ok (.iconst 1, 1) := by decide +kernel
theorem dL_law_201 : decode cL_law 201 = .ok (.iadd, 1) := by decide +kernel
theorem dL_law_202 : decode cL_law 202 = .ok (.iaload, 1) := by decide +kernel
theorem dL_law_203 : decode cL_law 203 = .ok (.aload_n 3, 1) := by decide +kernel
theorem dL_law_204 : decode cL_law 204 = .ok (.invokestatic 95, 3) := by decide +kernel
theorem dL_law_207 : decode cL_law 207 = .ok (.istore 5, 2) := by decide +kernel
theorem dL_law_209 : decode cL_law 209 = .ok (.aload_n 2, 1) := by decide +kernel
theorem dL_law_210 : decode cL_law 210 = .ok (.aload_n 0, 1) := by decide +kernel
theorem dL_law_211 : decode cL_law 211 = .ok (.iload 4, 2) := by decide +kernel
theorem dL_law_213 : decode cL_law 213 = .ok (.iconst 1, 1) := by decide +kernel
theorem dL_law_214 : decode cL_law 214 = .ok (.iadd, 1) := by decide +kernel
theorem dL_law_215 : decode cL_law 215 = .ok (.iaload, 1) := by decide +kernel
theorem dL_law_216 : decode cL_law 216 = .ok (.invokevirtual 100, 3) := by decide +kernel
theorem dL_law_219 : decode cL_law 219 = .ok (.istore 6, 2) := by decide +kernel
theorem dL_law_221 : decode cL_law 221 = .ok (.aload_n 2, 1) := by decide +kernel
theorem dL_law_222 : decode cL_law 222 = .ok (.invokevirtual 101, 3) := by decide +kernel
theorem dL_law_225 : decode cL_law 225 = .ok (.iload 5, 2) := by decide +kernel
theorem dL_law_227 : decode cL_law 227 = .ok (.if_icmp .eq 5, 3) := by decide +kernel
theorem dL_law_230 : decode cL_law 230 = .ok (.iconst 0, 1) := by decide +kernel
theorem dL_law_231 : decode cL_law 231 = .ok (.ireturn, 1) := by decide +kernel
theorem dL_law_232 : decode cL_law 232 = .ok (.iload 5, 2) := by decide +kernel
theorem dL_law_234 : decode cL_law 234 = .ok (.ifCond .ne 15, 3) := by decide +kernel
theorem dL_law_237 : decode cL_law 237 = .ok (.aload_n 3, 1) := by decide +kernel
theorem dL_law_238 : decode cL_law 238 = .ok (.iconst 0, 1) := by decide +kernel
theorem dL_law_239 : decode cL_law 239 = .ok (.laload, 1) := by decide +kernel
theorem dL_law_240 : decode cL_law 240 = .ok (.iload 6, 2) := by decide +kernel
theorem dL_law_242 : decode cL_law 242 = .ok (.i2l, 1) := by decide +kernel
theorem dL_law_243 : decode cL_law 243 = .ok (.lcmp, 1) := by decide +kernel
theorem dL_law_244 : decode cL_law 244 = .ok (.ifCond .eq 5, 3) := by decide +kernel
theorem dL_law_247 : decode cL_law 247 = .ok (.iconst 0, 1) := by decide +kernel
theorem dL_law_248 : decode cL_law 248 = .ok (.ireturn, 1) := by decide +kernel
theorem dL_law_249 : decode cL_law 249 = .ok (.goto 1503, 3) := by decide +kernel
theorem dL_law_252 : decode cL_law 252 = .ok (.aload_n 1, 1) := by decide +kernel
theorem dL_law_253 : decode cL_law 253 = .ok (.invokevirtual 104, 3) := by decide +kernel
theorem dL_law_256 : decode cL_law 256 = .ok (.aload_n 2, 1) := by decide +kernel
theorem dL_law_257 : decode cL_law 257 = .ok (.invokevirtual 107, 3) := by decide +kernel
theorem dL_law_260 : decode cL_law 260 = .ok (.if_icmp .eq 1492, 3) := by decide +kernel
theorem dL_law_263 : decode cL_law 263 = .ok (.iconst 0, 1) := by decide +kernel
theorem dL_law_264 : decode cL_law 264 = .ok (.ireturn, 1) := by decide +kernel
theorem dL_law_265 : decode cL_law 265 = .ok (.aload_n 1, 1) := by decide +kernel
theorem dL_law_266 : decode cL_law 266 = .ok (.aload_n 0, 1) := by decide +kernel
theorem dL_law_267 : decode cL_law 267 = .ok (.iload 4, 2) := by decide +kernel
theorem dL_law_269 : decode cL_law 269 = .ok (.iconst 1, 1) := by decide +kernel
theorem dL_law_270 : decode cL_law 270 = .ok (.iadd, 1) := by decide +kernel
theorem dL_law_271 : decode cL_law 271 = .ok (.iaload, 1) := by decide +kernel
theorem dL_law_272 : decode cL_law 272 = .ok (.aload_n 0, 1) := by decide +kernel
theorem dL_law_273 : decode cL_law 273 = .ok (.iload 4, 2) := by decide +kernel
theorem dL_law_275 : decode cL_law 275 = .ok (.iconst 2, 1) := by decide +kernel
theorem dL_law_276 : decode cL_law 276 = .ok (.iadd, 1) := by decide +kernel
theorem dL_law_277 : decode cL_law 277 = .ok (.iaload, 1) := by decide +kernel
theorem dL_law_278 : decode cL_law 278 = .ok (.aload_n 0, 1) := by decide +kernel
theorem dL_law_279 : decode cL_law 279 = .ok (.iload 4, 2) := by decide +kernel
theorem dL_law_281 : decode cL_law 281 = .ok (.iconst 3, 1) := by decide +kernel
theorem dL_law_282 : decode cL_law 282 = .ok (.iadd, 1) := by decide +kernel
theorem dL_law_283 : decode cL_law 283 = .ok (.iaload, 1) := by decide +kernel
theorem dL_law_284 : decode cL_law 284 = .ok (.aload_n 3, 1) := by decide +kernel
theorem dL_law_285 : decode cL_law 285 = .ok (.invokestatic 108, 3) := by decide +kernel
theorem dL_law_288 : decode cL_law 288 = .ok (.istore 5, 2) := by decide +kernel
theorem dL_law_290 : decode cL_law 290 = .ok (.aload_n 2, 1) := by decide +kernel
theorem dL_law_291 : decode cL_law 291 = .ok (.aload_n 0, 1) := by decide +kernel
theorem dL_law_292 : decode cL_law 292 = .ok (.iload 4, 2) := by decide +kernel
theorem dL_law_294 : decode cL_law 294 = .ok (.iconst 1, 1) := by decide +kernel
theorem dL_law_295 : decode cL_law 295 = .ok (.iadd, 1) := by decide +kernel
theorem dL_law_296 : decode cL_law 296 = .ok (.iaload, 1) := by decide +kernel
theorem dL_law_297 : decode cL_law 297 = .ok (.aload_n 0, 1) := by decide +kernel
theorem dL_law_298 : decode cL_law 298 = .ok (.iload 4, 2) := by decide +kernel
theorem dL_law_300 : decode cL_law 300 = .ok (.iconst 2, 1) := by decide +kernel
theorem dL_law_301 : decode cL_law 301 = .ok (.iadd, 1) := by decide +kernel
theorem dL_law_302 : decode cL_law 302 = .ok (.iaload, 1) := by decide +kernel
theorem dL_law_303 : decode cL_law 303 = .ok (.aload_n 0, 1) := by decide +kernel
theorem dL_law_304 : decode cL_law 304 = .ok (.iload 4, 2) := by decide +kernel
theorem dL_law_306 : decode cL_law 306 = .ok (.iconst 3, 1) := by decide +kernel
theorem dL_law_307 : decode cL_law 307 = .ok (.iadd, 1) := by decide +kernel
theorem dL_law_308 : decode cL_law 308 = .ok (.iaload, 1) := by decide +kernel
theorem dL_law_309 : decode cL_law 309 = .ok (.invokevirtual 111, 3) := by decide +kernel
theorem dL_law_312 : decode cL_law 312 = .ok (.istore 6, 2) := by decide +kernel
theorem dL_law_314 : decode cL_law 314 = .ok (.aload_n 2, 1) := by decide +kernel
theorem dL_law_315 : decode cL_law 315 = .ok (.invokevirtual 101, 3) := by decide +kernel
theorem dL_law_318 : decode cL_law 318 = .ok (.iload 5, 2) := by decide +kernel
theorem dL_law_320 : decode cL_law 320 = .ok (.if_icmp .eq 5, 3) := by decide +kernel
theorem dL_law_323 : decode cL_law 323 = .ok (.iconst 0, 1) := by decide +kernel
theorem dL_law_324 : decode cL_law 324 = .ok (.ireturn, 1) := by decide +kernel
theorem dL_law_325 : decode cL_law 325 = .ok (.iload 5, 2) := by decide +kernel
theorem dL_law_327 : decode cL_law 327 = .ok (.ifCond .ne 15, 3) := by decide +kernel
theorem dL_law_330 : decode cL_law 330 = .ok (.aload_n 3, 1) := by decide +kernel
theorem dL_law_331 : decode cL_law 331 = .ok (.iconst 0, 1) := by decide +kernel
theorem dL_law_332 : decode cL_law 332 = .ok (.laload, 1) := by decide +kernel
theorem dL_law_333 : decode cL_law 333 = .ok (.iload 6, 2) := by decide +kernel
theorem dL_law_335 : decode cL_law 335 = .ok (.i2l, 1) := by decide +kernel
theorem dL_law_336 : decode cL_law 336 = .ok (.lcmp, 1) := by decide +kernel
theorem dL_law_337 : decode cL_law 337 = .ok (.ifCond .eq 5, 3) := by decide +kernel
theorem dL_law_340 : decode cL_law 340 = .ok (.iconst 0, 1) := by decide +kernel
theorem dL_law_341 : decode cL_law 341 = .ok (.ireturn, 1) := by decide +kernel
theorem dL_law_342 : decode cL_law 342 = .ok (.goto 1410, 3) := by decide +kernel
theorem dL_law_345 : decode cL_law 345 = .ok (.aload_n 1, 1) := by decide +kernel
theorem dL_law_346 : decode cL_law 346 = .ok (.aload_n 0, 1) := by decide +kernel
theorem dL_law_347 : decode cL_law 347 = .ok (.iload 4, 2) := by decide +kernel
theorem dL_law_349 : decode cL_law 349 = .ok (.iconst 1, 1) := by decide +kernel
theorem dL_law_350 : decode cL_law 350 = .ok (.iadd, 1) := by decide +kernel
theorem dL_law_351 : decode cL_law 351 = .ok (.iaload, 1) := by decide +kernel
theorem dL_law_352 : decode cL_law 352 = .ok (.aload_n 0, 1) := by decide +kernel
theorem dL_law_353 : decode cL_law 353 = .ok (.iload 4, 2) := by decide +kernel
theorem dL_law_355 : decode cL_law 355 = .ok (.iconst 2, 1) := by decide +kernel
theorem dL_law_356 : decode cL_law 356 = .ok (.iadd, 1) := by decide +kernel
theorem dL_law_357 : decode cL_law 357 = .ok (.iaload, 1) := by decide +kernel
theorem dL_law_358 : decode cL_law 358 = .ok (.aload_n 3, 1) := by decide +kernel
theorem dL_law_359 : decode cL_law 359 = .ok (.invokestatic 112, 3) := by decide +kernel
theorem dL_law_362 : decode cL_law 362 = .ok (.istore 5, 2) := by decide +kernel
theorem dL_law_364 : decode cL_law 364 = .ok (.aload_n 2, 1) := by decide +kernel
theorem dL_law_365 : decode cL_law 365 = .ok (.aload_n 0, 1) := by decide +kernel
theorem dL_law_366 : decode cL_law 366 = .ok (.iload 4, 2) := by decide +kernel
theorem dL_law_368 : decode cL_law 368 = .ok (.iconst 1, 1) := by decide +kernel
theorem dL_law_369 : decode cL_law 369 = .ok (.iadd, 1) := by decide +kernel
theorem dL_law_370 : decode cL_law 370 = .ok (.iaload, 1) := by decide +kernel
theorem dL_law_371 : decode cL_law 371 = .ok (.aload_n 0, 1) := by decide +kernel
theorem dL_law_372 : decode cL_law 372 = .ok (.iload 4, 2) := by decide +kernel
theorem dL_law_374 : decode cL_law 374 = .ok (.iconst 2, 1) := by decide +kernel
theorem dL_law_375 : decode cL_law 375 = .ok (.iadd, 1) := by decide +kernel
theorem dL_law_376 : decode cL_law 376 = .ok (.iaload, 1) := by decide +kernel
theorem dL_law_377 : decode cL_law 377 = .ok (.invokevirtual 115, 3) := by decide +kernel
theorem dL_law_380 : decode cL_law 380 = .ok (.istore 6, 2) := by decide +kernel
theorem dL_law_382 : decode cL_law 382 = .ok (.aload_n 2, 1) := by decide +kernel
theorem dL_law_383 : decode cL_law 383 = .ok (.invokevirtual 101, 3) := by decide +kernel
theorem dL_law_386 : decode cL_law 386 = .ok (.iload 5, 2) := by decide +kernel
theorem dL_law_388 : decode cL_law 388 = .ok (.if_icmp .eq 5, 3) := by decide +kernel
theorem dL_law_391 : decode cL_law 391 = .ok (.iconst 0, 1) := by decide +kernel
theorem dL_law_392 : decode cL_law 392 = .ok (.ireturn, 1) := by decide +kernel
theorem dL_law_393 : decode cL_law 393 = .ok (.iload 5, 2) := by decide +kernel
theorem dL_law_395 : decode cL_law 395 = .ok (.ifCond .ne 15, 3) := by decide +kernel
theorem dL_law_398 : decode cL_law 398 = .ok (.aload_n 3, 1) := by decide +kernel
theorem dL_law_399 : decode cL_law 399 = .ok (.iconst 0, 1) := by decide +kernel
theorem dL_law_400 : decode cL_law 400 = .ok (.laload, 1) := by decide +kernel
theorem dL_law_401 : decode cL_law 401 = .ok (.iload 6, 2) := by decide +kernel
theorem dL_law_403 : decode cL_law 403 = .ok (.i2l, 1) := by decide +kernel
theorem dL_law_404 : decode cL_law 404 = .ok (.lcmp, 1) := by decide +kernel
theorem dL_law_405 : decode cL_law 405 = .ok (.ifCond .eq 5, 3) := by decide +kernel
theorem dL_law_408 : decode cL_law 408 = .ok (.iconst 0, 1) := by decide +kernel
theorem dL_law_409 : decode cL_law 409 = .ok (.ireturn, 1) := by decide +kernel
theorem dL_law_410 : decode cL_law 410 = .ok (.goto 1342, 3) := by decide +kernel
theorem dL_law_413 : decode cL_law 413 = .ok (.aload_n 1, 1) := by decide +kernel
theorem dL_law_414 : decode cL_law 414 = .ok (.invokevirtual 116, 3) := by decide +kernel
theorem dL_law_417 : decode cL_law 417 = .ok (.aload_n 2, 1) := by decide +kernel
theorem dL_law_418 : decode cL_law 418 = .ok (.invokevirtual 119, 3) := by decide +kernel
theorem dL_law_421 : decode cL_law 421 = .ok (.if_icmp .eq 1331, 3) := by decide +kernel
theorem dL_law_424 : decode cL_law 424 = .ok (.iconst 0, 1) := by decide +kernel
theorem dL_law_425 : decode cL_law 425 = .ok (.ireturn, 1) := by decide +kernel
theorem dL_law_426 : decode cL_law 426 = .ok (.aload_n 1, 1) := by decide +kernel
theorem dL_law_427 : decode cL_law 427 = .ok (.invokevirtual 120, 3) := by decide +kernel
theorem dL_law_430 : decode cL_law 430 = .ok (.aload_n 2, 1) := by decide +kernel
theorem dL_law_431 : decode cL_law 431 = .ok (.invokevirtual 123, 3) := by decide +kernel
theorem dL_law_434 : decode cL_law 434 = .ok (.if_icmp .eq 1318, 3) := by decide +kernel
theorem dL_law_437 : decode cL_law 437 = .ok (.iconst 0, 1) := by decide +kernel
theorem dL_law_438 : decode cL_law 438 = .ok (.ireturn, 1) := by decide +kernel
theorem dL_law_439 : decode cL_law 439 = .ok (.aload_n 1, 1) := by decide +kernel
theorem dL_law_440 : decode cL_law 440 = .ok (.aload_n 0, 1) := by decide +kernel
theorem dL_law_441 : decode cL_law 441 = .ok (.iload 4, 2) := by decide +kernel
theorem dL_law_443 : decode cL_law 443 = .ok (.iconst 1, 1) := by decide +kernel
theorem dL_law_444 : decode cL_law 444 = .ok (.iadd, 1) := by decide +kernel
theorem dL_law_445 : decode cL_law 445 = .ok (.iaload, 1) := by decide +kernel
theorem dL_law_446 : decode cL_law 446 = .ok (.aload_n 0, 1) := by decide +kernel
theorem dL_law_447 : decode cL_law 447 = .ok (.iload 4, 2) := by decide +kernel
theorem dL_law_449 : decode cL_law 449 = .ok (.iconst 2, 1) := by decide +kernel
theorem dL_law_450 : decode cL_law 450 = .ok (.iadd, 1) := by decide +kernel
theorem dL_law_451 : decode cL_law 451 = .ok (.iaload, 1) := by decide +kernel
theorem dL_law_452 : decode cL_law 452 = .ok (.aload_n 3, 1) := by decide +kernel
theorem dL_law_453 : decode cL_law 453 = .ok (.invokestatic 124, 3) := by decide +kernel
theorem dL_law_456 : decode cL_law 456 = .ok (.istore 5, 2) := by decide +kernel
theorem dL_law_458 : decode cL_law 458 = .ok (.aload_n 2, 1) := by decide +kernel
theorem dL_law_459 : decode cL_law 459 = .ok (.aload_n 0, 1) := by decide +kernel
theorem dL_law_460 : decode cL_law 460 = .ok (.iload 4, 2) := by decide +kernel
theorem dL_law_462 : decode cL_law 462 = .ok (.iconst 1, 1) := by decide +kernel
theorem dL_law_463 : decode cL_law 463 = .ok (.iadd, 1) := by decide +kernel
theorem dL_law_464 : decode cL_law 464 = .ok (.iaload, 1) := by decide +kernel
theorem dL_law_465 : decode cL_law 465 = .ok (.aload_n 0, 1) := by decide +kernel
theorem dL_law_466 : decode cL_law 466 = .ok (.iload 4, 2) := by decide +kernel
theorem dL_law_468 : decode cL_law 468 = .ok (.iconst 2, 1) := by decide +kernel
theorem dL_law_469 : decode cL_law 469 = .ok (.iadd, 1) := by decide +kernel
theorem dL_law_470 : decode cL_law 470 = .ok (.iaload, 1) := by decide +kernel
theorem dL_law_471 : decode cL_law 471 = .ok (.invokevirtual 126, 3) := by decide +kernel
theorem dL_law_474 : decode cL_law 474 = .ok (.istore 6, 2) := by decide +kernel
theorem dL_law_476 : decode cL_law 476 = .ok (.aload_n 2, 1) := by decide +kernel
theorem dL_law_477 : decode cL_law 477 = .ok (.invokevirtual 101, 3) := by decide +kernel
theorem dL_law_480 : decode cL_law 480 = .ok (.iload 5, 2) := by decide +kernel
theorem dL_law_482 : decode cL_law 482 = .ok (.if_icmp .eq 5, 3) := by decide +kernel
theorem dL_law_485 : decode cL_law 485 = .ok (.iconst 0, 1) := by decide +kernel
theorem dL_law_486 : decode cL_law 486 = .ok (.ireturn, 1) := by decide +kernel
theorem dL_law_487 : decode cL_law 487 = .ok (.iload 5, 2) := by decide +kernel
theorem dL_law_489 : decode cL_law 489 = .ok (.ifCond .ne 22, 3) := by decide +kernel
theorem dL_law_492 : decode cL_law 492 = .ok (.aload_n 3, 1) := by decide +kernel
theorem dL_law_493 : decode cL_law 493 = .ok (.iconst 0, 1) := by decide +kernel
theorem dL_law_494 : decode cL_law 494 = .ok (.laload, 1) := by decide +kernel
theorem dL_law_495 : decode cL_law 495 = .ok (.iload 6, 2) := by decide +kernel
theorem dL_law_497 : decode cL_law 497 = .ok (.ifCond .eq 7, 3) := by decide +kernel
theorem dL_law_500 : decode cL_law 500 = .ok (.lconst 1, 1) := by decide +kernel
theorem dL_law_501 : decode cL_law 501 = .ok (.goto 4, 3) := by decide +kernel
theorem dL_law_504 : decode cL_law 504 = .ok (.lconst 0, 1) := by decide +kernel
theorem dL_law_505 : decode cL_law 505 = .ok (.lcmp, 1) := by decide +kernel
theorem dL_law_506 : decode cL_law 506 = .ok (.ifCond .eq 5, 3) := by decide +kernel
theorem dL_law_509 : decode cL_law 509 = .ok (.iconst 0, 1) := by decide +kernel
theorem dL_law_510 : decode cL_law 510 = .ok (.ireturn, 1) := by decide +kernel
theorem dL_law_511 : decode cL_law 511 = .ok (.goto 1241, 3) := by decide +kernel
theorem dL_law_514 : decode cL_law 514 = .ok (.aload_n 1, 1) := by decide +kernel
theorem dL_law_515 : decode cL_law 515 = .ok (.invokevirtual 127, 3) := by decide +kernel
theorem dL_law_518 : decode cL_law 518 = .ok (.aload_n 2, 1) := by decide +kernel
theorem dL_law_519 : decode cL_law 519 = .ok (.invokevirtual 130, 3) := by decide +kernel
theorem dL_law_522 : decode cL_law 522 = .ok (.if_icmp .eq 1230, 3) := by decide +kernel
theorem dL_law_525 : decode cL_law 525 = .ok (.iconst 0, 1) := by decide +kernel
theorem dL_law_526 : decode cL_law 526 = .ok (.ireturn, 1) := by decide +kernel
theorem dL_law_527 : decode cL_law 527 = .ok (.aload_n 1, 1) := by decide +kernel
theorem dL_law_528 : decode cL_law 528 = .ok (.invokevirtual 131, 3) := by decide +kernel
theorem dL_law_531 : decode cL_law 531 = .ok (.aload_n 2, 1) := by decide +kernel
theorem dL_law_532 : decode cL_law 532 = .ok (.invokevirtual 134, 3) := by decide +kernel
theorem dL_law_535 : decode cL_law 535 = .ok (.if_icmp .eq 1217, 3) := by decide +kernel
theorem dL_law_538 : decode cL_law 538 = .ok (.iconst 0, 1) := by decide +kernel
theorem dL_law_539 : decode cL_law 539 = .ok (.ireturn, 1) := by decide +kernel
theorem dL_law_540 : decode cL_law 540 = .ok (.aload_n 1, 1) := by decide +kernel
theorem dL_law_541 : decode cL_law 541 = .ok (.aload_n 0, 1) := by decide +kernel
theorem dL_law_542 : decode cL_law 542 = .ok (.iload 4, 2) := by decide +kernel
theorem dL_law_544 : decode cL_law 544 = .ok (.iconst 1, 1) := by decide +kernel
theorem dL_law_545 : decode cL_law 545 = .ok (.iadd, 1) := by decide +kernel
theorem dL_law_546 : decode cL_law 546 = .ok (.iaload, 1) := by decide +kernel
theorem dL_law_547 : decode cL_law 547 = .ok (.aload_n 3, 1) := by decide +kernel
theorem dL_law_548 : decode cL_law 548 = .ok (.invokestatic 135, 3) := by decide +kernel
theorem dL_law_551 : decode cL_law 551 = .ok (.istore 5, 2) := by decide +kernel
theorem dL_law_553 : decode cL_law 553 = .ok (.aload_n 2, 1) := by decide +kernel
theorem dL_law_554 : decode cL_law 554 = .ok (.aload_n 0, 1) := by decide +kernel
theorem dL_law_555 : decode cL_law 555 = .ok (.iload 4, 2) := by decide +kernel
theorem dL_law_557 : decode cL_law 557 = .ok (.iconst 1, 1) := by decide +kernel
theorem dL_law_558 : decode cL_law 558 = .ok (.iadd, 1) := by decide +kernel
theorem dL_law_559 : decode cL_law 559 = .ok (.iaload, 1) := by decide +kernel
theorem dL_law_560 : decode cL_law 560 = .ok (.invokevirtual 137, 3) := by decide +kernel
theorem dL_law_563 : decode cL_law 563 = .ok (.istore 6, 2) := by decide +kernel
theorem dL_law_565 : decode cL_law 565 = .ok (.aload_n 2, 1) := by decide +kernel
theorem dL_law_566 : decode cL_law 566 = .ok (.invokevirtual 101, 3) := by decide +kernel
theorem dL_law_569 : decode cL_law 569 = .ok (.iload 5, 2) := by decide +kernel
theorem dL_law_571 : decode cL_law 571 = .ok (.if_icmp .eq 5, 3) := by decide +kernel
theorem dL_law_574 : decode cL_law 574 = .ok (.iconst 0, 1) := by decide +kernel
theorem dL_law_575 : decode cL_law 575 = .ok (.ireturn, 1) := by decide +kernel
theorem dL_law_576 : decode cL_law 576 = .ok (.iload 5, 2) := by decide +kernel
theorem dL_law_578 : decode cL_law 578 = .ok (.ifCond .ne 15, 3) := by decide +kernel
theorem dL_law_581 : decode cL_law 581 = .ok (.aload_n 3, 1) := by decide +kernel
theorem dL_law_582 : decode cL_law 582 = .ok (.iconst 0, 1) := by decide +kernel
theorem dL_law_583 : decode cL_law 583 = .ok (.laload, 1) := by decide +kernel
theorem dL_law_584 : decode cL_law 584 = .ok (.iload 6, 2) := by decide +kernel
theorem dL_law_586 : decode cL_law 586 = .ok (.i2l, 1) := by decide +kernel
theorem dL_law_587 : decode cL_law 587 = .ok (.lcmp, 1) := by decide +kernel
theorem dL_law_588 : decode cL_law 588 = .ok (.ifCond .eq 5, 3) := by decide +kernel
theorem dL_law_591 : decode cL_law 591 = .ok (.iconst 0, 1) := by decide +kernel
theorem dL_law_592 : decode cL_law 592 = .ok (.ireturn, 1) := by decide +kernel
theorem dL_law_593 : decode cL_law 593 = .ok (.goto 1159, 3) := by decide +kernel
theorem dL_law_596 : decode cL_law 596 = .ok (.aload_n 1, 1) := by decide +kernel
theorem dL_law_597 : decode cL_law 597 = .ok (.aload_n 0, 1) := by decide +kernel
theorem dL_law_598 : decode cL_law 598 = .ok (.iload 4, 2) := by decide +kernel
theorem dL_law_600 : decode cL_law 600 = .ok (.iconst 1, 1) := by decide +kernel
theorem dL_law_601 : decode cL_law 601 = .ok (.iadd, 1) := by decide +kernel
theorem dL_law_602 : decode cL_law 602 = .ok (.iaload, 1) := by decide +kernel
theorem dL_law_603 : decode cL_law 603 = .ok (.aload_n 3, 1) := by decide +kernel
theorem dL_law_604 : decode cL_law 604 = .ok (.invokestatic 138, 3) := by decide +kernel
theorem dL_law_607 : decode cL_law 607 = .ok (.istore 5, 2) := by decide +kernel
theorem dL_law_609 : decode cL_law 609 = .ok (.aload_n 2, 1) := by decide +kernel
theorem dL_law_610 : decode cL_law 610 = .ok (.aload_n 0, 1) := by decide +kernel
theorem dL_law_611 : decode cL_law 611 = .ok (.iload 4, 2) := by decide +kernel
theorem dL_law_613 : decode cL_law 613 = .ok (.iconst 1, 1) := by decide +kernel
theorem dL_law_614 : decode cL_law 614 = .ok (.iadd, 1) := by decide +kernel
theorem dL_law_615 : decode cL_law 615 = .ok (.iaload, 1) := by decide +kernel
theorem dL_law_616 : decode cL_law 616 = .ok (.invokevirtual 140, 3) := by decide +kernel
theorem dL_law_619 : decode cL_law 619 = .ok (.istore 6, 2) := by decide +kernel
theorem dL_law_621 : decode cL_law 621 = .ok (.aload_n 2, 1) := by decide +kernel
theorem dL_law_622 : decode cL_law 622 = .ok (.invokevirtual 101, 3) := by decide +kernel
theorem dL_law_625 : decode cL_law 625 = .ok (.iload 5, 2) := by decide +kernel
theorem dL_law_627 : decode cL_law 627 = .ok (.if_icmp .eq 5, 3) := by decide +kernel
theorem dL_law_630 : decode cL_law 630 = .ok (.iconst 0, 1) := by decide +kernel
theorem dL_law_631 : decode cL_law 631 = .ok (.ireturn, 1) := by decide +kernel
theorem dL_law_632 : decode cL_law 632 = .ok (.iload 5, 2) := by decide +kernel
theorem dL_law_634 : decode cL_law 634 = .ok (.ifCond .ne 15, 3) := by decide +kernel
theorem dL_law_637 : decode cL_law 637 = .ok (.aload_n 3, 1) := by decide +kernel
theorem dL_law_638 : decode cL_law 638 = .ok (.iconst 0, 1) := by decide +kernel
theorem dL_law_639 : decode cL_law 639 = .ok (.laload, 1) := by decide +kernel
theorem dL_law_640 : decode cL_law 640 = .ok (.iload 6, 2) := by decide +kernel
theorem dL_law_642 : decode cL_law 642 = .ok (.i2l, 1) := by decide +kernel
theorem dL_law_643 : decode cL_law 643 = .ok (.lcmp, 1) := by decide +kernel
theorem dL_law_644 : decode cL_law 644 = .ok (.ifCond .eq 5, 3) := by decide +kernel
theorem dL_law_647 : decode cL_law 647 = .ok (.iconst 0, 1) := by decide +kernel
theorem dL_law_648 : decode cL_law 648 = .ok (.ireturn, 1) := by decide +kernel
theorem dL_law_649 : decode cL_law 649 = .ok (.goto 1103, 3) := by decide +kernel
theorem dL_law_652 : decode cL_law 652 = .ok (.aload_n 1, 1) := by decide +kernel
theorem dL_law_653 : decode cL_law 653 = .ok (.invokevirtual 141, 3) := by decide +kernel
theorem dL_law_656 : decode cL_law 656 = .ok (.aload_n 2, 1) := by decide +kernel
theorem dL_law_657 : decode cL_law 657 = .ok (.invokevirtual 144, 3) := by decide +kernel
theorem dL_law_660 : decode cL_law 660 = .ok (.if_icmp .eq 1092, 3) := by decide +kernel
theorem dL_law_663 : decode cL_law 663 = .ok (.iconst 0, 1) := by decide +kernel
theorem dL_law_664 : decode cL_law 664 = .ok (.ireturn, 1) := by decide +kernel
theorem dL_law_665 : decode cL_law 665 = .ok (.aload_n 1, 1) := by decide +kernel
theorem dL_law_666 : decode cL_law 666 = .ok (.invokevirtual 145, 3) := by decide +kernel
theorem dL_law_669 : decode cL_law 669 = .ok (.aload_n 2, 1) := by decide +kernel
theorem dL_law_670 : decode cL_law 670 = .ok (.invokevirtual 148, 3) := by decide +kernel
theorem dL_law_673 : decode cL_law 673 = .ok (.if_icmp .eq 1079, 3) := by decide +kernel
theorem dL_law_676 : decode cL_law 676 = .ok (.iconst 0, 1) := by decide +kernel
theorem dL_law_677 : decode cL_law 677 = .ok (.ireturn, 1) := by decide +kernel
theorem dL_law_678 : decode cL_law 678 = .ok (.aload_n 1, 1) := by decide +kernel
theorem dL_law_679 : decode cL_law 679 = .ok (.aload_n 0, 1) := by decide +kernel
theorem dL_law_680 : decode cL_law 680 = .ok (.iload 4, 2) := by decide +kernel
theorem dL_law_682 : decode cL_law 682 = .ok (.iconst 1, 1) := by decide +kernel
theorem dL_law_683 : decode cL_law 683 = .ok (.iadd, 1) := by decide +kernel
theorem dL_law_684 : decode cL_law 684 = .ok (.iaload, 1) := by decide +kernel
theorem dL_law_685 : decode cL_law 685 = .ok (.aload_n 0, 1) := by decide +kernel
theorem dL_law_686 : decode cL_law 686 = .ok (.iload 4, 2) := by decide +kernel
theorem dL_law_688 : decode cL_law 688 = .ok (.iconst 2, 1) := by decide +kernel
theorem dL_law_689 : decode cL_law 689 = .ok (.iadd, 1) := by decide +kernel
theorem dL_law_690 : decode cL_law 690 = .ok (.iaload, 1) := by decide +kernel
theorem dL_law_691 : decode cL_law 691 = .ok (.aload_n 3, 1) := by decide +kernel
theorem dL_law_692 : decode cL_law 692 = .ok (.invokestatic 149, 3) := by decide +kernel
theorem dL_law_695 : decode cL_law 695 = .ok (.istore 5, 2) := by decide +kernel
theorem dL_law_697 : decode cL_law 697 = .ok (.aload_n 2, 1) := by decide +kernel
theorem dL_law_698 : decode cL_law 698 = .ok (.aload_n 0, 1) := by decide +kernel
theorem dL_law_699 : decode cL_law 699 = .ok (.iload 4, 2) := by decide +kernel
theorem dL_law_701 : decode cL_law 701 = .ok (.iconst 1, 1) := by decide +kernel
theorem dL_law_702 : decode cL_law 702 = .ok (.iadd, 1) := by decide +kernel
theorem dL_law_703 : decode cL_law 703 = .ok (.iaload, 1) := by decide +kernel
theorem dL_law_704 : decode cL_law 704 = .ok (.aload_n 0, 1) := by decide +kernel
theorem dL_law_705 : decode cL_law 705 = .ok (.iload 4, 2) := by decide +kernel
theorem dL_law_707 : decode cL_law 707 = .ok (.iconst 2, 1) := by decide +kernel
theorem dL_law_708 : decode cL_law 708 = .ok (.iadd, 1) := by decide +kernel
theorem dL_law_709 : decode cL_law 709 = .ok (.iaload, 1) := by decide +kernel
theorem dL_law_710 : decode cL_law 710 = .ok (.invokevirtual 151, 3) := by decide +kernel
theorem dL_law_713 : decode cL_law 713 = .ok (.istore 6, 2) := by decide +kernel
theorem dL_law_715 : decode cL_law 715 = .ok (.aload_n 2, 1) := by decide +kernel
theorem dL_law_716 : decode cL_law 716 = .ok (.invokevirtual 101, 3) := by decide +kernel
theorem dL_law_719 : decode cL_law 719 = .ok (.iload 5, 2) := by decide +kernel
theorem dL_law_721 : decode cL_law 721 = .ok (.if_icmp .eq 5, 3) := by decide +kernel
theorem dL_law_724 : decode cL_law 724 = .ok (.iconst 0, 1) := by decide +kernel
theorem dL_law_725 : decode cL_law 725 = .ok (.ireturn, 1) := by decide +kernel
theorem dL_law_726 : decode cL_law 726 = .ok (.iload 5, 2) := by decide +kernel
theorem dL_law_728 : decode cL_law 728 = .ok (.ifCond .ne 22, 3) := by decide +kernel
theorem dL_law_731 : decode cL_law 731 = .ok (.aload_n 3, 1) := by decide +kernel
theorem dL_law_732 : decode cL_law 732 = .ok (.iconst 0, 1) := by decide +kernel
theorem dL_law_733 : decode cL_law 733 = .ok (.laload, 1) := by decide +kernel
theorem dL_law_734 : decode cL_law 734 = .ok (.iload 6, 2) := by decide +kernel
theorem dL_law_736 : decode cL_law 736 = .ok (.ifCond .eq 7, 3) := by decide +kernel
theorem dL_law_739 : decode cL_law 739 = .ok (.lconst 1, 1) := by decide +kernel
theorem dL_law_740 : decode cL_law 740 = .ok (.goto 4, 3) := by decide +kernel
theorem dL_law_743 : decode cL_law 743 = .ok (.lconst 0, 1) := by decide +kernel
theorem dL_law_744 : decode cL_law 744 = .ok (.lcmp, 1) := by decide +kernel
theorem dL_law_745 : decode cL_law 745 = .ok (.ifCond .eq 5, 3) := by decide +kernel
theorem dL_law_748 : decode cL_law 748 = .ok (.iconst 0, 1) := by decide +kernel
theorem dL_law_749 : decode cL_law 749 = .ok (.ireturn, 1) := by decide +kernel
theorem dL_law_750 : decode cL_law 750 = .ok (.goto 1002, 3) := by decide +kernel
theorem dL_law_753 : decode cL_law 753 = .ok (.aload_n 1, 1) := by decide +kernel
theorem dL_law_754 : decode cL_law 754 = .ok (.invokevirtual 152, 3) := by decide +kernel
theorem dL_law_757 : decode cL_law 757 = .ok (.aload_n 2, 1) := by decide +kernel
theorem dL_law_758 : decode cL_law 758 = .ok (.invokevirtual 155, 3) := by decide +kernel
theorem dL_law_761 : decode cL_law 761 = .ok (.if_icmp .eq 991, 3) := by decide +kernel
theorem dL_law_764 : decode cL_law 764 = .ok (.iconst 0, 1) := by decide +kernel
theorem dL_law_765 : decode cL_law 765 = .ok (.ireturn, 1) := by decide +kernel
theorem dL_law_766 : decode cL_law 766 = .ok (.aload_n 1, 1) := by decide +kernel
theorem dL_law_767 : decode cL_law 767 = .ok (.aload_n 0, 1) := by decide +kernel
theorem dL_law_768 : decode cL_law 768 = .ok (.iload 4, 2) := by decide +kernel
theorem dL_law_770 : decode cL_law 770 = .ok (.iconst 1, 1) := by decide +kernel
theorem dL_law_771 : decode cL_law 771 = .ok (.iadd, 1) := by decide +kernel
theorem dL_law_772 : decode cL_law 772 = .ok (.iaload, 1) := by decide +kernel
theorem dL_law_773 : decode cL_law 773 = .ok (.aload_n 3, 1) := by decide +kernel
theorem dL_law_774 : decode cL_law 774 = .ok (.invokestatic 156, 3) := by decide +kernel
theorem dL_law_777 : decode cL_law 777 = .ok (.istore 5, 2) := by decide +kernel
theorem dL_law_779 : decode cL_law 779 = .ok (.aload_n 2, 1) := by decide +kernel
theorem dL_law_780 : decode cL_law 780 = .ok (.aload_n 0, 1) := by decide +kernel
theorem dL_law_781 : decode cL_law 781 = .ok (.iload 4, 2) := by decide +kernel
theorem dL_law_783 : decode cL_law 783 = .ok (.iconst 1, 1) := by decide +kernel
theorem dL_law_784 : decode cL_law 784 = .ok (.iadd, 1) := by decide +kernel
theorem dL_law_785 : decode cL_law 785 = .ok (.iaload, 1) := by decide +kernel
theorem dL_law_786 : decode cL_law 786 = .ok (.invokevirtual 158, 3) := by decide +kernel
theorem dL_law_789 : decode cL_law 789 = .ok (.istore 6, 2) := by decide +kernel
theorem dL_law_791 : decode cL_law 791 = .ok (.aload_n 2, 1) := by decide +kernel
theorem dL_law_792 : decode cL_law 792 = .ok (.invokevirtual 101, 3) := by decide +kernel
theorem dL_law_795 : decode cL_law 795 = .ok (.iload 5, 2) := by decide +kernel
theorem dL_law_797 : decode cL_law 797 = .ok (.if_icmp .eq 5, 3) := by decide +kernel
theorem dL_law_800 : decode cL_law 800 = .ok (.iconst 0, 1) := by decide +kernel
theorem dL_law_801 : decode cL_law 801 = .ok (.ireturn, 1) := by decide +kernel
theorem dL_law_802 : decode cL_law 802 = .ok (.iload 5, 2) := by decide +kernel
theorem dL_law_804 : decode cL_law 804 = .ok (.ifCond .ne 15, 3) := by decide +kernel
theorem dL_law_807 : decode cL_law 807 = .ok (.aload_n 3, 1) := by decide +kernel
theorem dL_law_808 : decode cL_law 808 = .ok (.iconst 0, 1) := by decide +kernel
theorem dL_law_809 : decode cL_law 809 = .ok (.laload, 1) := by decide +kernel
theorem dL_law_810 : decode cL_law 810 = .ok (.iload 6, 2) := by decide +kernel
theorem dL_law_812 : decode cL_law 812 = .ok (.i2l, 1) := by decide +kernel
theorem dL_law_813 : decode cL_law 813 = .ok (.lcmp, 1) := by decide +kernel
theorem dL_law_814 : decode cL_law 814 = .ok (.ifCond .eq 5, 3) := by decide +kernel
theorem dL_law_817 : decode cL_law 817 = .ok (.iconst 0, 1) := by decide +kernel
theorem dL_law_818 : decode cL_law 818 = .ok (.ireturn, 1) := by decide +kernel
theorem dL_law_819 : decode cL_law 819 = .ok (.goto 933, 3) := by decide +kernel
theorem dL_law_822 : decode cL_law 822 = .ok (.aload_n 1, 1) := by decide +kernel
theorem dL_law_823 : decode cL_law 823 = .ok (.invokevirtual 159, 3) := by decide +kernel
theorem dL_law_826 : decode cL_law 826 = .ok (.aload_n 2, 1) := by decide +kernel
theorem dL_law_827 : decode cL_law 827 = .ok (.invokevirtual 162, 3) := by decide +kernel
theorem dL_law_830 : decode cL_law 830 = .ok (.if_icmp .eq 922, 3) := by decide +kernel
theorem dL_law_833 : decode cL_law 833 = .ok (.iconst 0, 1) := by decide +kernel
theorem dL_law_834 : decode cL_law 834 = .ok (.ireturn, 1) := by decide +kernel
theorem dL_law_835 : decode cL_law 835 = .ok (.aload_n 1, 1) := by decide +kernel
theorem dL_law_836 : decode cL_law 836 = .ok (.aload_n 0, 1) := by decide +kernel
theorem dL_law_837 : decode cL_law 837 = .ok (.iload 4, 2) := by decide +kernel
theorem dL_law_839 : decode cL_law 839 = .ok (.iconst 1, 1) := by decide +kernel
theorem dL_law_840 : decode cL_law 840 = .ok (.iadd, 1) := by decide +kernel
theorem dL_law_841 : decode cL_law 841 = .ok (.iaload, 1) := by decide +kernel
theorem dL_law_842 : decode cL_law 842 = .ok (.aload_n 3, 1) := by decide +kernel
theorem dL_law_843 : decode cL_law 843 = .ok (.invokestatic 163, 3) := by decide +kernel
theorem dL_law_846 : decode cL_law 846 = .ok (.istore 5, 2) := by decide +kernel
theorem dL_law_848 : decode cL_law 848 = .ok (.aload_n 2, 1) := by decide +kernel
theorem dL_law_849 : decode cL_law 849 = .ok (.aload_n 0, 1) := by decide +kernel
