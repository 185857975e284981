theorem dX4_reached_29 : decode cX4_reached 29 = .ok (.aload_n 0, 1) := by decide +kernel
theorem dX4_reached_30 : decode cX4_reached 30 = .ok (.getfield 10, 3) := by decide +kernel
theorem dX4_reached_33 : decode cX4_reached 33 = .ok (.invokevirtual 127, 3) := by decide +kernel
theorem dX4_reached_36 : decode cX4_reached 36 = .ok (.iconst 0, 1) := by decide +kernel
theorem dX4_reached_37 : decode cX4_reached 37 = .ok (.istore_n 2, 1) := by decide +kernel
theorem dX4_reached_38 : decode cX4_reached 38 = .ok (.iconst 0, 1) := by decide +kernel
theorem dX4_reached_39 : decode cX4_reached 39 = .ok (.istore_n 3, 1) := by decide +kernel
theorem dX4_reached_40 : decode cX4_reached 40 = .ok (.iload_n 3, 1) := by decide +kernel
theorem dX4_reached_41 : decode cX4_reached 41 = .ok (.aload_n 0, 1) := by decide +kernel
theorem dX4_reached_42 : decode cX4_reached 42 = .ok (.getfield 10, 3) := by decide +kernel
theorem dX4_reached_45 : decode cX4_reached 45 = .ok (.getfield 70, 3) := by decide +kernel
theorem dX4_reached_48 : decode cX4_reached 48 = .ok (.if_icmp .ge 29, 3) := by decide +kernel
theorem dX4_reached_51 : decode cX4_reached 51 = .ok (.iload_n 1, 1) := by decide +kernel
theorem dX4_reached_52 : decode cX4_reached 52 = .ok (.iload_n 3, 1) := by decide +kernel
theorem dX4_reached_53 : decode cX4_reached 53 = .ok (.invokestatic 133, 3) := by decide +kernel
theorem dX4_reached_56 : decode cX4_reached 56 = .ok (.ifCond .eq 15, 3) := by decide +kernel
theorem dX4_reached_59 : decode cX4_reached 59 = .ok (.iload_n 2, 1) := by decide +kernel
theorem dX4_reached_60 : decode cX4_reached 60 = .ok (.aload_n 0, 1) := by decide +kernel
theorem dX4_reached_61 : decode cX4_reached 61 = .ok (.getfield 23, 3) := by decide +kernel
theorem dX4_reached_64 : decode cX4_reached 64 = .ok (.getfield 145, 3) := by decide +kernel
theorem dX4_reached_67 : decode cX4_reached 67 = .ok (.iload_n 3, 1) := by decide +kernel
theorem dX4_reached_68 : decode cX4_reached 68 = .ok (.iaload, 1) := by decide +kernel
theorem dX4_reached_69 : decode cX4_reached 69 = .ok (.ior, 1) := by decide +kernel
theorem dX4_reached_70 : decode cX4_reached 70 = .ok (.istore_n 2, 1) := by decide +kernel
theorem dX4_reached_71 : decode cX4_reached 71 = .ok (.iinc 3 1, 3) := by decide +kernel
theorem dX4_reached_74 : decode cX4_reached 74 = .ok (.goto (-34), 3) := by decide +kernel
theorem dX4_reached_77 : decode cX4_reached 77 = .ok (.iload_n 2, 1) := by decide +kernel
theorem dX4_reached_78 : decode cX4_reached 78 = .ok (.ireturn, 1) := by decide +kernel
theorem dX4_factor_0 : decode cX4_factor 0 = .ok (.aload_n 0, 1) := by decide +kernel
theorem dX4_factor_1 : decode cX4_factor 1 = .ok (.getfield 30, 3) := by decide +kernel
theorem dX4_factor_4 : decode cX4_factor 4 = .ok (.aload_n 0, 1) := by decide +kernel
theorem dX4_factor_5 : decode cX4_factor 5 = .ok (.getfield 10, 3) := by decide +kernel
theorem dX4_factor_8 : decode cX4_factor 8 = .ok (.invokevirtual 153, 3) := by decide +kernel
theorem dX4_factor_11 : decode cX4_factor 11 = .ok (.ireturn, 1) := by decide +kernel
theorem dX4_hasFactors_0 : decode cX4_hasFactors 0 = .ok (.aload_n 0, 1) := by decide +kernel
theorem dX4_hasFactors_1 : decode cX4_hasFactors 1 = .ok (.getfield 30, 3) := by decide +kernel
theorem dX4_hasFactors_4 : decode cX4_hasFactors 4 = .ok (.getfield 156, 3) := by decide +kernel
theorem dX4_hasFactors_7 : decode cX4_hasFactors 7 = .ok (.ireturn, 1) := by decide +kernel
theorem dX4_pivot_0 : decode cX4_pivot 0 = .ok (.aload_n 0, 1) := by decide +kernel
theorem dX4_pivot_1 : decode cX4_pivot 1 = .ok (.iload_n 1, 1) := by decide +kernel
theorem dX4_pivot_2 : decode cX4_pivot 2 = .ok (.invokevirtual 95, 3) := by decide +kernel
theorem dX4_pivot_5 : decode cX4_pivot 5 = .ok (.aload_n 0, 1) := by decide +kernel
theorem dX4_pivot_6 : decode cX4_pivot 6 = .ok (.invokevirtual 159, 3) := by decide +kernel
theorem dX4_pivot_9 : decode cX4_pivot 9 = .ok (.aload_n 0, 1) := by decide +kernel
theorem dX4_pivot_10 : decode cX4_pivot 10 = .ok (.getfield 30, 3) := by decide +kernel
theorem dX4_pivot_13 : decode cX4_pivot 13 = .ok (.getfield 162, 3) := by decide +kernel
theorem dX4_pivot_16 : decode cX4_pivot 16 = .ok (.iload_n 1, 1) := by decide +kernel
theorem dX4_pivot_17 : decode cX4_pivot 17 = .ok (.iaload, 1) := by decide +kernel
theorem dX4_pivot_18 : decode cX4_pivot 18 = .ok (.ireturn, 1) := by decide +kernel
theorem dX4_lower_0 : decode cX4_lower 0 = .ok (.aload_n 0, 1) := by decide +kernel
theorem dX4_lower_1 : decode cX4_lower 1 = .ok (.iload_n 1, 1) := by decide +kernel
theorem dX4_lower_2 : decode cX4_lower 2 = .ok (.invokevirtual 95, 3) := by decide +kernel
theorem dX4_lower_5 : decode cX4_lower 5 = .ok (.aload_n 0, 1) := by decide +kernel
theorem dX4_lower_6 : decode cX4_lower 6 = .ok (.iload_n 2, 1) := by decide +kernel
theorem dX4_lower_7 : decode cX4_lower 7 = .ok (.invokevirtual 95, 3) := by decide +kernel
theorem dX4_lower_10 : decode cX4_lower 10 = .ok (.aload_n 0, 1) := by decide +kernel
theorem dX4_lower_11 : decode cX4_lower 11 = .ok (.invokevirtual 159, 3) := by decide +kernel
theorem dX4_lower_14 : decode cX4_lower 14 = .ok (.iload_n 1, 1) := by decide +kernel
theorem dX4_lower_15 : decode cX4_lower 15 = .ok (.iload_n 2, 1) := by decide +kernel
theorem dX4_lower_16 : decode cX4_lower 16 = .ok (.if_icmp .ne 5, 3) := by decide +kernel
theorem dX4_lower_19 : decode cX4_lower 19 = .ok (.iconst 1, 1) := by decide +kernel
theorem dX4_lower_20 : decode cX4_lower 20 = .ok (.ireturn, 1) := by decide +kernel
theorem dX4_lower_21 : decode cX4_lower 21 = .ok (.iload_n 1, 1) := by decide +kernel
theorem dX4_lower_22 : decode cX4_lower 22 = .ok (.iload_n 2, 1) := by decide +kernel
theorem dX4_lower_23 : decode cX4_lower 23 = .ok (.if_icmp .ge 7, 3) := by decide +kernel
theorem dX4_lower_26 : decode cX4_lower 26 = .ok (.iconst 0, 1) := by decide +kernel
theorem dX4_lower_27 : decode cX4_lower 27 = .ok (.goto 16, 3) := by decide +kernel
theorem dX4_lower_30 : decode cX4_lower 30 = .ok (.aload_n 0, 1) := by decide +kernel
theorem dX4_lower_31 : decode cX4_lower 31 = .ok (.getfield 30, 3) := by decide +kernel
theorem dX4_lower_34 : decode cX4_lower 34 = .ok (.getfield 165, 3) := by decide +kernel
theorem dX4_lower_37 : decode cX4_lower 37 = .ok (.iload_n 1, 1) := by decide +kernel
theorem dX4_lower_38 : decode cX4_lower 38 = .ok (.iload_n 2, 1) := by decide +kernel
theorem dX4_lower_39 : decode cX4_lower 39 = .ok (.invokestatic 168, 3) := by decide +kernel
theorem dX4_lower_42 : decode cX4_lower 42 = .ok (.iaload, 1) := by decide +kernel
theorem dX4_lower_43 : decode cX4_lower 43 = .ok (.ireturn, 1) := by decide +kernel
theorem dX4_setWeight_0 : decode cX4_setWeight 0 = .ok (.aload_n 0, 1) := by decide +kernel
theorem dX4_setWeight_1 : decode cX4_setWeight 1 = .ok (.iload_n 1, 1) := by decide +kernel
theorem dX4_setWeight_2 : decode cX4_setWeight 2 = .ok (.invokevirtual 73, 3) := by decide +kernel
theorem dX4_setWeight_5 : decode cX4_setWeight 5 = .ok (.iload_n 2, 1) := by decide +kernel
theorem dX4_setWeight_6 : decode cX4_setWeight 6 = .ok (.invokestatic 76, 3) := by decide +kernel
theorem dX4_setWeight_9 : decode cX4_setWeight 9 = .ok (.aload_n 0, 1) := by decide +kernel
theorem dX4_setWeight_10 : decode cX4_setWeight 10 = .ok (.getfield 10, 3) := by decide +kernel
theorem dX4_setWeight_13 : decode cX4_setWeight 13 = .ok (.getfield 171, 3) := by decide +kernel
theorem dX4_setWeight_16 : decode cX4_setWeight 16 = .ok (.iload_n 1, 1) := by decide +kernel
theorem dX4_setWeight_17 : decode cX4_setWeight 17 = .ok (.iaload, 1) := by decide +kernel
theorem dX4_setWeight_18 : decode cX4_setWeight 18 = .ok (.istore_n 3, 1) := by decide +kernel
theorem dX4_setWeight_19 : decode cX4_setWeight 19 = .ok (.aload_n 0, 1) := by decide +kernel
theorem dX4_setWeight_20 : decode cX4_setWeight 20 = .ok (.getfield 10, 3) := by decide +kernel
theorem dX4_setWeight_23 : decode cX4_setWeight 23 = .ok (.getfield 171, 3) := by decide +kernel
theorem dX4_setWeight_26 : decode cX4_setWeight 26 = .ok (.iload_n 1, 1) := by decide +kernel
theorem dX4_setWeight_27 : decode cX4_setWeight 27 = .ok (.iload_n 2, 1) := by decide +kernel
theorem dX4_setWeight_28 : decode cX4_setWeight 28 = .ok (.iastore, 1) := by decide +kernel
theorem dX4_setWeight_29 : decode cX4_setWeight 29 = .ok (.iload_n 3, 1) := by decide +kernel
theorem dX4_setWeight_30 : decode cX4_setWeight 30 = .ok (.ireturn, 1) := by decide +kernel
theorem dX4_update_0 : decode cX4_update 0 = .ok (.iload_n 1, 1) := by decide +kernel
theorem dX4_update_1 : decode cX4_update 1 = .ok (.invokestatic 76, 3) := by decide +kernel
theorem dX4_update_4 : decode cX4_update 4 = .ok (.aload_n 0, 1) := by decide +kernel
theorem dX4_update_5 : decode cX4_update 5 = .ok (.invokevirtual 159, 3) := by decide +kernel
theorem dX4_update_8 : decode cX4_update 8 = .ok (.aload_n 0, 1) := by decide +kernel
theorem dX4_update_9 : decode cX4_update 9 = .ok (.getfield 10, 3) := by decide +kernel
theorem dX4_update_12 : decode cX4_update 12 = .ok (.iload_n 1, 1) := by decide +kernel
theorem dX4_update_13 : decode cX4_update 13 = .ok (.invokevirtual 174, 3) := by decide +kernel
theorem dX4_update_16 : decode cX4_update 16 = .ok (.aload_n 0, 1) := by decide +kernel
theorem dX4_update_17 : decode cX4_update 17 = .ok (.getfield 30, 3) := by decide +kernel
theorem dX4_update_20 : decode cX4_update 20 = .ok (.aload_n 0, 1) := by decide +kernel
theorem dX4_update_21 : decode cX4_update 21 = .ok (.getfield 10, 3) := by decide +kernel
theorem dX4_update_24 : decode cX4_update 24 = .ok (.invokevirtual 153, 3) := by decide +kernel
theorem dX4_update_27 : decode cX4_update 27 = .ok (.ireturn, 1) := by decide +kernel
theorem dX4_setRight_0 : decode cX4_setRight 0 = .ok (.aload_n 0, 1) := by decide +kernel
theorem dX4_setRight_1 : decode cX4_setRight 1 = .ok (.iload_n 1, 1) := by decide +kernel
theorem dX4_setRight_2 : decode cX4_setRight 2 = .ok (.invokevirtual 73, 3) := by decide +kernel
theorem dX4_setRight_5 : decode cX4_setRight 5 = .ok (.iload_n 2, 1) := by decide +kernel
theorem dX4_setRight_6 : decode cX4_setRight 6 = .ok (.invokestatic 76, 3) := by decide +kernel
theorem dX4_setRight_9 : decode cX4_setRight 9 = .ok (.aload_n 0, 1) := by decide +kernel
theorem dX4_setRight_10 : decode cX4_setRight 10 = .ok (.getfield 10, 3) := by decide +kernel
theorem dX4_setRight_13 : decode cX4_setRight 13 = .ok (.getfield 177, 3) := by decide +kernel
theorem dX4_setRight_16 : decode cX4_setRight 16 = .ok (.iload_n 1, 1) := by decide +kernel
theorem dX4_setRight_17 : decode cX4_setRight 17 = .ok (.iaload, 1) := by decide +kernel
theorem dX4_setRight_18 : decode cX4_setRight 18 = .ok (.istore_n 3, 1) := by decide +kernel
theorem dX4_setRight_19 : decode cX4_setRight 19 = .ok (.aload_n 0, 1) := by decide +kernel
theorem dX4_setRight_20 : decode cX4_setRight 20 = .ok (.getfield 10, 3) := by decide +kernel
theorem dX4_setRight_23 : decode cX4_setRight 23 = .ok (.getfield 177, 3) := by decide +kernel
theorem dX4_setRight_26 : decode cX4_setRight 26 = .ok (.iload_n 1, 1) := by decide +kernel
theorem dX4_setRight_27 : decode cX4_setRight 27 = .ok (.iload_n 2, 1) := by decide +kernel
theorem dX4_setRight_28 : decode cX4_setRight 28 = .ok (.iastore, 1) := by decide +kernel
theorem dX4_setRight_29 : decode cX4_setRight 29 = .ok (.iload_n 3, 1) := by decide +kernel
theorem dX4_setRight_30 : decode cX4_setRight 30 = .ok (.ireturn, 1) := by decide +kernel
theorem dX4_solve_0 : decode cX4_solve 0 = .ok (.aload_n 0, 1) := by decide +kernel
theorem dX4_solve_1 : decode cX4_solve 1 = .ok (.invokevirtual 159, 3) := by decide +kernel
theorem dX4_solve_4 : decode cX4_solve 4 = .ok (.aload_n 0, 1) := by decide +kernel
theorem dX4_solve_5 : decode cX4_solve 5 = .ok (.getfield 10, 3) := by decide +kernel
theorem dX4_solve_8 : decode cX4_solve 8 = .ok (.getfield 70, 3) := by decide +kernel
theorem dX4_solve_11 : decode cX4_solve 11 = .ok (.istore_n 1, 1) := by decide +kernel
theorem dX4_solve_12 : decode cX4_solve 12 = .ok (.iconst 0, 1) := by decide +kernel
theorem dX4_solve_13 : decode cX4_solve 13 = .ok (.istore_n 2, 1) := by decide +kernel
theorem dX4_solve_14 : decode cX4_solve 14 = .ok (.iload_n 2, 1) := by decide +kernel
theorem dX4_solve_15 : decode cX4_solve 15 = .ok (.iload_n 1, 1) := by decide +kernel
theorem dX4_solve_16 : decode cX4_solve 16 = .ok (.if_icmp .ge 32, 3) := by decide +kernel
theorem dX4_solve_19 : decode cX4_solve 19 = .ok (.aload_n 0, 1) := by decide +kernel
theorem dX4_solve_20 : decode cX4_solve 20 = .ok (.getfield 41, 3) := by decide +kernel
theorem dX4_solve_23 : decode cX4_solve 23 = .ok (.iload_n 2, 1) := by decide +kernel
theorem dX4_solve_24 : decode cX4_solve 24 = .ok (.aload_n 0, 1) := by decide +kernel
theorem dX4_solve_25 : decode cX4_solve 25 = .ok (.getfield 10, 3) := by decide +kernel
theorem dX4_solve_28 : decode cX4_solve 28 = .ok (.getfield 177, 3) := by decide +kernel
theorem dX4_solve_31 : decode cX4_solve 31 = .ok (.aload_n 0, 1) := by decide +kernel
theorem dX4_solve_32 : decode cX4_solve 32 = .ok (.getfield 10, 3) := by decide +kernel
theorem dX4_solve_35 : decode cX4_solve 35 = .ok (.getfield 115, 3) := by decide +kernel
theorem dX4_solve_38 : decode cX4_solve 38 = .ok (.iload_n 2, 1) := by decide +kernel
theorem dX4_solve_39 : decode cX4_solve 39 = .ok (.iaload, 1) := by decide +kernel
theorem dX4_solve_40 : decode cX4_solve 40 = .ok (.iaload, 1) := by decide +kernel
theorem dX4_solve_41 : decode cX4_solve 41 = .ok (.iastore, 1) := by decide +kernel
theorem dX4_solve_42 : decode cX4_solve 42 = .ok (.iinc 2 1, 3) := by decide +kernel
theorem dX4_solve_45 : decode cX4_solve 45 = .ok (.goto (-31), 3) := by decide +kernel
theorem dX4_solve_48 : decode cX4_solve 48 = .ok (.aload_n 0, 1) := by decide +kernel
theorem dX4_solve_49 : decode cX4_solve 49 = .ok (.getfield 30, 3) := by decide +kernel
theorem dX4_solve_52 : decode cX4_solve 52 = .ok (.aload_n 0, 1) := by decide +kernel
theorem dX4_solve_53 : decode cX4_solve 53 = .ok (.getfield 41, 3) := by decide +kernel
theorem dX4_solve_56 : decode cX4_solve 56 = .ok (.invokevirtual 180, 3) := by decide +kernel
theorem dX4_solve_59 : decode cX4_solve 59 = .ok (.iconst 0, 1) := by decide +kernel
theorem dX4_solve_60 : decode cX4_solve 60 = .ok (.istore_n 2, 1) := by decide +kernel
theorem dX4_solve_61 : decode cX4_solve 61 = .ok (.iconst 0, 1) := by decide +kernel
theorem dX4_solve_62 : decode cX4_solve 62 = .ok (.istore_n 3, 1) := by decide +kernel
theorem dX4_solve_63 : decode cX4_solve 63 = .ok (.iload_n 3, 1) := by decide +kernel
theorem dX4_solve_64 : decode cX4_solve 64 = .ok (.iload_n 1, 1) := by decide +kernel
theorem dX4_solve_65 : decode cX4_solve 65 = .ok (.if_icmp .ge 41, 3) := by decide +kernel
theorem dX4_solve_68 : decode cX4_solve 68 = .ok (.aload_n 0, 1) := by decide +kernel
theorem dX4_solve_69 : decode cX4_solve 69 = .ok (.getfield 45, 3) := by decide +kernel
theorem dX4_solve_72 : decode cX4_solve 72 = .ok (.aload_n 0, 1) := by decide +kernel
theorem dX4_solve_73 : decode cX4_solve 73 = .ok (.getfield 10, 3) := by decide +kernel
theorem dX4_solve_76 : decode cX4_solve 76 = .ok (.getfield 115, 3) := by decide +kernel
theorem dX4_solve_79 : decode cX4_solve 79 = .ok (.iload_n 3, 1) := by decide +kernel
theorem dX4_solve_80 : decode cX4_solve 80 = .ok (.iaload, 1) := by decide +kernel
theorem dX4_solve_81 : decode cX4_solve 81 = .ok (.aload_n 0, 1) := by decide +kernel
theorem dX4_solve_82 : decode cX4_solve 82 = .ok (.getfield 41, 3) := by decide +kernel
theorem dX4_solve_85 : decode cX4_solve 85 = .ok (.iload_n 3, 1) := by decide +kernel
theorem dX4_solve_86 : decode cX4_solve 86 = .ok (.iaload, 1) := by decide +kernel
theorem dX4_solve_87 : decode cX4_solve 87 = .ok (.iastore, 1) := by decide +kernel
theorem dX4_solve_88 : decode cX4_solve 88 = .ok (.aload_n 0, 1) := by decide +kernel
theorem dX4_solve_89 : decode cX4_solve 89 = .ok (.getfield 41, 3) := by decide +kernel
theorem dX4_solve_92 : decode cX4_solve 92 = .ok (.iload_n 3, 1) := by decide +kernel
theorem dX4_solve_93 : decode cX4_solve 93 = .ok (.iaload, 1) := by decide +kernel
theorem dX4_solve_94 : decode cX4_solve 94 = .ok (.ifCond .eq 6, 3) := by decide +kernel
theorem dX4_solve_97 : decode cX4_solve 97 = .ok (.iinc 2 1, 3) := by decide +kernel
theorem dX4_solve_100 : decode cX4_solve 100 = .ok (.iinc 3 1, 3) := by decide +kernel
theorem dX4_solve_103 : decode cX4_solve 103 = .ok (.goto (-40), 3) := by decide +kernel
theorem dX4_solve_106 : decode cX4_solve 106 = .ok (.aload_n 0, 1) := by decide +kernel
theorem dX4_solve_107 : decode cX4_solve 107 = .ok (.iconst 1, 1) := by decide +kernel
theorem dX4_solve_108 : decode cX4_solve 108 = .ok (.putfield 48, 3) := by decide +kernel
theorem dX4_solve_111 : decode cX4_solve 111 = .ok (.iload_n 2, 1) := by decide +kernel
theorem dX4_solve_112 : decode cX4_solve 112 = .ok (.ireturn, 1) := by decide +kernel
theorem dX4_component_0 : decode cX4_component 0 = .ok (.aload_n 0, 1) := by decide +kernel
theorem dX4_component_1 : decode cX4_component 1 = .ok (.iload_n 1, 1) := by decide +kernel
theorem dX4_component_2 : decode cX4_component 2 = .ok (.invokevirtual 73, 3) := by decide +kernel
theorem dX4_component_5 : decode cX4_component 5 = .ok (.aload_n 0, 1) := by decide +kernel
theorem dX4_component_6 : decode cX4_component 6 = .ok (.getfield 48, 3) := by decide +kernel
theorem dX4_component_9 : decode cX4_component 9 = .ok (.ifCond .ne 13, 3) := by decide +kernel
theorem dX4_component_12 : decode cX4_component 12 = .ok (.new 184, 3) := by decide +kernel
theorem dX4_component_15 : decode cX4_component 15 = .ok (.dup, 1) := by decide +kernel
theorem dX4_component_16 : decode cX4_component 16 = .ok (.ldc 186, 2) := by decide +kernel
theorem dX4_component_18 : decode cX4_component 18 = .ok (.invokespecial 188, 3) := by decide +kernel
theorem dX4_component_21 : decode cX4_component 21 = .ok (.athrow, 1) := by decide +kernel
theorem dX4_component_22 : decode cX4_component 22 = .ok (.aload_n 0, 1) := by decide +kernel
theorem dX4_component_23 : decode cX4_component 23 = .ok (.getfield 45, 3) := by decide +kernel
theorem dX4_component_26 : decode cX4_component 26 = .ok (.iload_n 1, 1) := by decide +kernel
theorem dX4_component_27 : decode cX4_component 27 = .ok (.iaload, 1) := by decide +kernel
theorem dX4_component_28 : decode cX4_component 28 = .ok (.ireturn, 1) := by decide +kernel
theorem dX4_inverse_0 : decode cX4_inverse 0 = .ok (.aload_n 0, 1) := by decide +kernel
theorem dX4_inverse_1 : decode cX4_inverse 1 = .ok (.iload_n 1, 1) := by decide +kernel
theorem dX4_inverse_2 : decode cX4_inverse 2 = .ok (.invokevirtual 73, 3) := by decide +kernel
theorem dX4_inverse_5 : decode cX4_inverse 5 = .ok (.aload_n 0, 1) := by decide +kernel
theorem dX4_inverse_6 : decode cX4_inverse 6 = .ok (.iload_n 2, 1) := by decide +kernel
theorem dX4_inverse_7 : decode cX4_inverse 7 = .ok (.invokevirtual 73, 3) := by decide +kernel
theorem dX4_inverse_10 : decode cX4_inverse 10 = .ok (.aload_n 0, 1) := by decide +kernel
theorem dX4_inverse_11 : decode cX4_inverse 11 = .ok (.invokevirtual 159, 3) := by decide +kernel
theorem dX4_inverse_14 : decode cX4_inverse 14 = .ok (.iconst 0, 1) := by decide +kernel
theorem dX4_inverse_15 : decode cX4_inverse 15 = .ok (.istore_n 3, 1) := by decide +kernel
theorem dX4_inverse_16 : decode cX4_inverse 16 = .ok (.iload_n 3, 1) := by decide +kernel
theorem dX4_inverse_17 : decode cX4_inverse 17 = .ok (.aload_n 0, 1) := by decide +kernel
theorem dX4_inverse_18 : decode cX4_inverse 18 = .ok (.getfield 10, 3) := by decide +kernel
theorem dX4_inverse_21 : decode cX4_inverse 21 = .ok (.getfield 70, 3) := by decide +kernel
theorem dX4_inverse_24 : decode cX4_inverse 24 = .ok (.if_icmp .ge 33, 3) := by decide +kernel
theorem dX4_inverse_27 : decode cX4_inverse 27 = .ok (.aload_n 0, 1) := by decide +kernel
theorem dX4_inverse_28 : decode cX4_inverse 28 = .ok (.getfield 41, 3) := by decide +kernel
theorem dX4_inverse_31 : decode cX4_inverse 31 = .ok (.iload_n 3, 1) := by decide +kernel
theorem dX4_inverse_32 : decode cX4_inverse 32 = .ok (.aload_n 0, 1) := by decide +kernel
theorem dX4_inverse_33 : decode cX4_inverse 33 = .ok (.getfield 10, 3) := by decide +kernel
theorem dX4_inverse_36 : decode cX4_inverse 36 = .ok (.getfield 115, 3) := by decide +kernel
theorem dX4_inverse_39 : decode cX4_inverse 39 = .ok (.iload_n 3, 1) := by decide +kernel
theorem dX4_inverse_40 : decode cX4_inverse 40 = .ok (.iaload, 1) := by decide +kernel
theorem dX4_inverse_41 : decode cX4_inverse 41 = .ok (.iload_n 2, 1) := by decide +kernel
theorem dX4_inverse_42 : decode cX4_inverse 42 = .ok (.if_icmp .ne 7, 3) := by decide +kernel
theorem dX4_inverse_45 : decode cX4_inverse 45 = .ok (.iconst 1, 1) := by decide +kernel
theorem dX4_inverse_46 : decode cX4_inverse 46 = .ok (.goto 4, 3) := by decide +kernel
theorem dX4_inverse_49 : decode cX4_inverse 49 = .ok (.iconst 0, 1) := by decide +kernel
theorem dX4_inverse_50 : decode cX4_inverse 50 = .ok (.iastore, 1) := by decide +kernel
theorem dX4_inverse_51 : decode cX4_inverse 51 = .ok (.iinc 3 1, 3) := by decide +kernel
theorem dX4_inverse_54 : decode cX4_inverse 54 = .ok (.goto (-38), 3) := by decide +kernel
theorem dX4_inverse_57 : decode cX4_inverse 57 = .ok (.aload_n 0, 1) := by decide +kernel
theorem dX4_inverse_58 : decode cX4_inverse 58 = .ok (.getfield 30, 3) := by decide +kernel
theorem dX4_inverse_61 : decode cX4_inverse 61 = .ok (.aload_n 0, 1) := by decide +kernel
theorem dX4_inverse_62 : decode cX4_inverse 62 = .ok (.getfield 41, 3) := by decide +kernel
theorem dX4_inverse_65 : decode cX4_inverse 65 = .ok (.invokevirtual 180, 3) := by decide +kernel
theorem dX4_inverse_68 : decode cX4_inverse 68 = .ok (.aload_n 0, 1) := by decide +kernel
theorem dX4_inverse_69 : decode cX4_inverse 69 = .ok (.getfield 41, 3) := by decide +kernel
theorem dX4_inverse_72 : decode cX4_inverse 72 = .ok (.aload_n 0, 1) := by decide +kernel
theorem dX4_inverse_73 : decode cX4_inverse 73 = .ok (.getfield 10, 3) := by decide +kernel
theorem dX4_inverse_76 : decode cX4_inverse 76 = .ok (.getfield 112, 3) := by decide +kernel
theorem dX4_inverse_79 : decode cX4_inverse 79 = .ok (.iload_n 1, 1) := by decide +kernel
theorem dX4_inverse_80 : decode cX4_inverse 80 = .ok (.iaload, 1) := by decide +kernel
theorem dX4_inverse_81 : decode cX4_inverse 81 = .ok (.iaload, 1) := by decide +kernel
theorem dX4_inverse_82 : decode cX4_inverse 82 = .ok (.ireturn, 1) := by decide +kernel
theorem dX4_push_0 : decode cX4_push 0 = .ok (.aload_n 0, 1) := by decide +kernel
theorem dX4_push_1 : decode cX4_push 1 = .ok (.getfield 52, 3) := by decide +kernel
theorem dX4_push_4 : decode cX4_push 4 = .ok (.bipush 6, 2) := by decide +kernel
theorem dX4_push_6 : decode cX4_push 6 = .ok (.if_icmp .lt 13, 3) := by decide +kernel
theorem dX4_push_9 : decode cX4_push 9 = .ok (.new 189, 3) := by decide +kernel
theorem dX4_push_12 : decode cX4_push 12 = .ok (.dup, 1) := by decide +kernel
theorem dX4_push_13 : decode cX4_push 13 = .ok (.ldc 191, 2) := by decide +kernel
theorem dX4_push_15 : decode cX4_push 15 = .ok (.invokespecial 193, 3) := by decide +kernel
theorem dX4_push_18 : decode cX4_push 18 = .ok (.athrow, 1) := by decide +kernel
theorem dX4_push_19 : decode cX4_push 19 = .ok (.aload_n 0, 1) := by decide +kernel
theorem dX4_push_20 : decode cX4_push 20 = .ok (.getfield 16, 3) := by decide +kernel
theorem dX4_push_23 : decode cX4_push 23 = .ok (.aload_n 0, 1) := by decide +kernel
theorem dX4_push_24 : decode cX4_push 24 = .ok (.getfield 52, 3) := by decide +kernel
theorem dX4_push_27 : decode cX4_push 27 = .ok (.aaload, 1) := by decide +kernel
theorem dX4_push_28 : decode cX4_push 28 = .ok (.aload_n 0, 1) := by decide +kernel
theorem dX4_push_29 : decode cX4_push 29 = .ok (.getfield 10, 3) := by decide +kernel
theorem dX4_push_32 : decode cX4_push 32 = .ok (.invokevirtual 194, 3) := by decide +kernel
theorem dX4_push_35 : decode cX4_push 35 = .ok (.aload_n 0, 1) := by decide +kernel
theorem dX4_push_36 : decode cX4_push 36 = .ok (.dup, 1) := by decide +kernel
theorem dX4_push_37 : decode cX4_push 37 = .ok (.getfield 52, 3) := by decide +kernel
theorem dX4_push_40 : decode cX4_push 40 = .ok (.iconst 1, 1) := by decide +kernel
theorem dX4_push_41 : decode cX4_push 41 = .ok (.iadd, 1) := by decide +kernel
theorem dX4_push_42 : decode cX4_push 42 = .ok (.putfield 52, 3) := by decide +kernel
theorem dX4_push_45 : decode cX4_push 45 = .ok (.aload_n 0, 1) := by decide +kernel
theorem dX4_push_46 : decode cX4_push 46 = .ok (.getfield 52, 3) := by decide +kernel
theorem dX4_push_49 : decode cX4_push 49 = .ok (.ireturn, 1) := by decide +kernel
theorem dX4_pop_0 : decode cX4_pop 0 = .ok (.aload_n 0, 1) := by decide +kernel
theorem dX4_pop_1 : decode cX4_pop 1 = .ok (.getfield 52, 3) := by decide +kernel
theorem dX4_pop_4 : decode cX4_pop 4 = .ok (.ifCond .gt 13, 3) := by decide +kernel
theorem dX4_pop_7 : decode cX4_pop 7 = .ok (.new 189, 3) := by decide +kernel
theorem dX4_pop_10 : decode cX4_pop 10 = .ok (.dup, 1) := by decide +kernel
theorem dX4_pop_11 : decode cX4_pop 11 = .ok (.ldc 197, 2) := by decide +kernel
theorem dX4_pop_13 : decode cX4_pop 13 = .ok (.invokespecial 193, 3) := by decide +kernel
theorem dX4_pop_16 : decode cX4_pop 16 = .ok (.athrow, 1) := by decide +kernel
theorem dX4_pop_17 : decode cX4_pop 17 = .ok (.aload_n 0, 1) := by decide +kernel
theorem dX4_pop_18 : decode cX4_pop 18 = .ok (.dup, 1) := by decide +kernel
theorem dX4_pop_19 : decode cX4_pop 19 = .ok (.getfield 52, 3) := by decide +kernel
theorem dX4_pop_22 : decode cX4_pop 22 = .ok (.iconst 1, 1) := by decide +kernel
theorem dX4_pop_23 : decode cX4_pop 23 = .ok (.isub, 1) := by decide +kernel
theorem dX4_pop_24 : decode cX4_pop 24 = .ok (.putfield 52, 3) := by decide +kernel
theorem dX4_pop_27 : decode cX4_pop 27 = .ok (.aload_n 0, 1) := by decide +kernel
theorem dX4_pop_28 : decode cX4_pop 28 = .ok (.getfield 10, 3) := by decide +kernel
theorem dX4_pop_31 : decode cX4_pop 31 = .ok (.aload_n 0, 1) := by decide +kernel
theorem dX4_pop_32 : decode cX4_pop 32 = .ok (.getfield 16, 3) := by decide +kernel
theorem dX4_pop_35 : decode cX4_pop 35 = .ok (.aload_n 0, 1) := by decide +kernel
theorem dX4_pop_36 : decode cX4_pop 36 = .ok (.getfield 52, 3) := by decide +kernel
theorem dX4_pop_39 : decode cX4_pop 39 = .ok (.aaload, 1) := by decide +kernel
theorem dX4_pop_40 : decode cX4_pop 40 = .ok (.invokevirtual 194, 3) := by decide +kernel
theorem dX4_pop_43 : decode cX4_pop 43 = .ok (.aload_n 0, 1) := by decide +kernel
theorem dX4_pop_44 : decode cX4_pop 44 = .ok (.getfield 30, 3) := by decide +kernel
theorem dX4_pop_47 : decode cX4_pop 47 = .ok (.invokevirtual 67, 3) := by decide +kernel
theorem dX4_pop_50 : decode cX4_pop 50 = .ok (.aload_n 0, 1) := by decide +kernel
theorem dX4_pop_51 : decode cX4_pop 51 = .ok (.iconst 0, 1) := by decide +kernel
theorem dX4_pop_52 : decode cX4_pop 52 = .ok (.putfield 48, 3) := by decide +kernel
theorem dX4_pop_55 : decode cX4_pop 55 = .ok (.aload_n 0, 1) := by decide +kernel
theorem dX4_pop_56 : decode cX4_pop 56 = .ok (.getfield 52, 3) := by decide +kernel
theorem dX4_pop_59 : decode cX4_pop 59 = .ok (.ireturn, 1) := by decide +kernel
theorem dX4_digest_0 : decode cX4_digest 0 = .ok (.ldc2_w 199, 3) := by decide +kernel
theorem dX4_digest_3 : decode cX4_digest 3 = .ok (.aload_n 0, 1) := by decide +kernel
theorem dX4_digest_4 : decode cX4_digest 4 = .ok (.getfield 10, 3) := by decide +kernel
theorem dX4_digest_7 : decode cX4_digest 7 = .ok (.getfield 70, 3) := by decide +kernel
theorem dX4_digest_10 : decode cX4_digest 10 = .ok (.i2l, 1) := by decide +kernel
theorem dX4_digest_11 : decode cX4_digest 11 = .ok (.invokestatic 201, 3) := by decide +kernel
theorem dX4_digest_14 : decode cX4_digest 14 = .ok (.lstore_n 1, 1) := by decide +kernel
theorem dX4_digest_15 : decode cX4_digest 15 = .ok (.iconst 0, 1) := by decide +kernel
theorem dX4_digest_16 : decode cX4_digest 16 = .ok (.istore_n 3, 1) := by decide +kernel
theorem dX4_digest_17 : decode cX4_digest 17 = .ok (.iload_n 3, 1) := by decide +kernel
theorem dX4_digest_18 : decode cX4_digest 18 = .ok (.aload_n 0, 1) := by decide +kernel
theorem dX4_digest_19 : decode cX4_digest 19 = .ok (.getfield 10, 3) := by decide +kernel
theorem dX4_digest_22 : decode cX4_digest 22 = .ok (.getfield 70, 3) := by decide +kernel
theorem dX4_digest_25 : decode cX4_digest 25 = .ok (.if_icmp .ge 85, 3) := by decide +kernel
theorem dX4_digest_28 : decode cX4_digest 28 = .ok (.iconst 0, 1) := by decide +kernel
theorem dX4_digest_29 : decode cX4_digest 29 = .ok (.istore 4, 2) := by decide +kernel
theorem dX4_digest_31 : decode cX4_digest 31 = .ok (.iload 4, 2) := by decide +kernel
theorem dX4_digest_33 : decode cX4_digest 33 = .ok (.iload_n 3, 1) := by decide +kernel
theorem dX4_digest_34 : decode cX4_digest 34 = .ok (.if_icmp .gt 25, 3) := by decide +kernel
theorem dX4_digest_37 : decode cX4_digest 37 = .ok (.lload_n 1, 1) := by decide +kernel
theorem dX4_digest_38 : decode cX4_digest 38 = .ok (.aload_n 0, 1) := by decide +kernel
theorem dX4_digest_39 : decode cX4_digest 39 = .ok (.getfield 10, 3) := by decide +kernel
theorem dX4_digest_42 : decode cX4_digest 42 = .ok (.iload_n 3, 1) := by decide +kernel
theorem dX4_digest_43 : decode cX4_digest 43 = .ok (.iload 4, 2) := by decide +kernel
theorem dX4_digest_45 : decode cX4_digest 45 = .ok (.invokevirtual 79, 3) := by decide +kernel
theorem dX4_digest_48 : decode cX4_digest 48 = .ok (.i2l, 1) := by decide +kernel
theorem dX4_digest_49 : decode cX4_digest 49 = .ok (.invokestatic 201, 3) := by decide +kernel
theorem dX4_digest_52 : decode cX4_digest 52 = .ok (.lstore_n 1, 1) := by decide +kernel
theorem dX4_digest_53 : decode cX4_digest 53 = .ok (.iinc 4 1, 3) := by decide +kernel
theorem dX4_digest_56 : decode cX4_digest 56 = .ok (.goto (-25), 3) := by decide +kernel
theorem dX4_digest_59 : decode cX4_digest 59 = .ok (.lload_n 1, 1) := by decide +kernel
theorem dX4_digest_60 : decode cX4_digest 60 = .ok (.aload_n 0, 1) := by decide +kernel
theorem dX4_digest_61 : decode cX4_digest 61 = .ok (.getfield 10, 3) := by decide +kernel
theorem dX4_digest_64 : decode cX4_digest 64 = .ok (.getfield 112, 3) := by decide +kernel
theorem dX4_digest_67 : decode cX4_digest 67 = .ok (.iload_n 3, 1) := by decide +kernel
theorem dX4_digest_68 : decode cX4_digest 68 = .ok (.iaload, 1) := by decide +kernel
theorem dX4_digest_69 : decode cX4_digest 69 = .ok (.i2l, 1) := by decide +kernel
theorem dX4_digest_70 : decode cX4_digest 70 = .ok (.invokestatic 201, 3) := by decide +kernel
theorem dX4_digest_73 : decode cX4_digest 73 = .ok (.lstore_n 1, 1) := by decide +kernel
theorem dX4_digest_74 : decode cX4_digest 74 = .ok (.lload_n 1, 1) := by decide +kernel
theorem dX4_digest_75 : decode cX4_digest 75 = .ok (.aload_n 0, 1) := by decide +kernel
theorem dX4_digest_76 : decode cX4_digest 76 = .ok (.getfield 10, 3) := by decide +kernel
theorem dX4_digest_79 : decode cX4_digest 79 = .ok (.getfield 177, 3) := by decide +kernel
theorem dX4_digest_82 : decode cX4_digest 82 = .ok (.iload_n 3, 1) := by decide +kernel
theorem dX4_digest_83 : decode cX4_digest 83 = .ok (.iaload, 1) := by decide +kernel
theorem dX4_digest_84 : decode cX4_digest 84 = .ok (.i2l, 1) := by decide +kernel
theorem dX4_digest_85 : decode cX4_digest 85 = .ok (.invokestatic 201, 3) := by decide +kernel
theorem dX4_digest_88 : decode cX4_digest 88 = .ok (.lstore_n 1, 1) := by decide +kernel
theorem dX4_digest_89 : decode cX4_digest 89 = .ok (.lload_n 1, 1) := by decide +kernel
theorem dX4_digest_90 : decode cX4_digest 90 = .ok (.aload_n 0, 1) := by decide +kernel
theorem dX4_digest_91 : decode cX4_digest 91 = .ok (.getfield 10, 3) := by decide +kernel
theorem dX4_digest_94 : decode cX4_digest 94 = .ok (.getfield 171, 3) := by decide +kernel
theorem dX4_digest_97 : decode cX4_digest 97 = .ok (.iload_n 3, 1) := by decide +kernel
theorem dX4_digest_98 : decode cX4_digest 98 = .ok (.iaload, 1) := by decide +kernel
theorem dX4_digest_99 : decode cX4_digest 99 = .ok (.i2l, 1) := by decide +kernel
theorem dX4_digest_100 : decode cX4_digest 100 = .ok (.invokestatic 201, 3) := by decide +kernel
theorem dX4_digest_103 : decode cX4_digest 103 = .ok (.lstore_n 1, 1) := by decide +kernel
theorem dX4_digest_104 : decode cX4_digest 104 = .ok (.iinc 3 1, 3) := by decide +kernel
theorem dX4_digest_107 : decode cX4_digest 107 = .ok (.goto (-90), 3) := by decide +kernel
theorem dX4_digest_110 : decode cX4_digest 110 = .ok (.lload_n 1, 1) := by decide +kernel
theorem dX4_digest_111 : decode cX4_digest 111 = .ok (.aload_n 0, 1) := by decide +kernel
theorem dX4_digest_112 : decode cX4_digest 112 = .ok (.getfield 52, 3) := by decide +kernel
theorem dX4_digest_115 : decode cX4_digest 115 = .ok (.i2l, 1) := by decide +kernel
theorem dX4_digest_116 : decode cX4_digest 116 = .ok (.invokestatic 201, 3) := by decide +kernel
theorem dX4_digest_119 : decode cX4_digest 119 = .ok (.lstore_n 1, 1) := by decide +kernel
theorem dX4_digest_120 : decode cX4_digest 120 = .ok (.aload_n 0, 1) := by decide +kernel
theorem dX4_digest_121 : decode cX4_digest 121 = .ok (.getfield 30, 3) := by decide +kernel
theorem dX4_digest_124 : decode cX4_digest 124 = .ok (.getfield 156, 3) := by decide +kernel
theorem dX4_digest_127 : decode cX4_digest 127 = .ok (.ifCond .ne 9, 3) := by decide +kernel
theorem dX4_digest_130 : decode cX4_digest 130 = .ok (.lload_n 1, 1) := by decide +kernel
theorem dX4_digest_131 : decode cX4_digest 131 = .ok (.lconst 0, 1) := by decide +kernel
theorem dX4_digest_132 : decode cX4_digest 132 = .ok (.invokestatic 201, 3) := by decide +kernel
theorem dX4_digest_135 : decode cX4_digest 135 = .ok (.lreturn, 1) := by decide +kernel
theorem dX4_digest_136 : decode cX4_digest 136 = .ok (.lload_n 1, 1) := by decide +kernel
theorem dX4_digest_137 : decode cX4_digest 137 = .ok (.lconst 1, 1) := by decide +kernel
theorem dX4_digest_138 : decode cX4_digest 138 = .ok (.invokestatic 201, 3) := by decide +kernel
theorem dX4_digest_141 : decode cX4_digest 141 = .ok (.lstore_n 1, 1) := by decide +kernel
theorem dX4_digest_142 : decode cX4_digest 142 = .ok (.iconst 0, 1) := by decide +kernel
theorem dX4_digest_143 : decode cX4_digest 143 = .ok (.istore_n 3, 1) := by decide +kernel
theorem dX4_digest_144 : decode cX4_digest 144 = .ok (.iload_n 3, 1) := by decide +kernel
theorem dX4_digest_145 : decode cX4_digest 145 = .ok (.aload_n 0, 1) := by decide +kernel
theorem dX4_digest_146 : decode cX4_digest 146 = .ok (.getfield 10, 3) := by decide +kernel
theorem dX4_digest_149 : decode cX4_digest 149 = .ok (.getfield 70, 3) := by decide +kernel
theorem dX4_digest_152 : decode cX4_digest 152 = .ok (.if_icmp .ge 24, 3) := by decide +kernel
theorem dX4_digest_155 : decode cX4_digest 155 = .ok (.lload_n 1, 1) := by decide +kernel
theorem dX4_digest_156 : decode cX4_digest 156 = .ok (.aload_n 0, 1) := by decide +kernel
theorem dX4_digest_157 : decode cX4_digest 157 = .ok (.getfield 30, 3) := by decide +kernel
theorem dX4_digest_160 : decode cX4_digest 160 = .ok (.getfield 162, 3) := by decide +kernel
theorem dX4_digest_163 : decode cX4_digest 163 = .ok (.iload_n 3, 1) := by decide +kernel
theorem dX4_digest_164 : decode cX4_digest 164 = .ok (.iaload, 1) := by decide +kernel
theorem dX4_digest_165 : decode cX4_digest 165 = .ok (.i2l, 1) := by decide +kernel
theorem dX4_digest_166 : decode cX4_digest 166 = .ok (.invokestatic 201, 3) := by decide +kernel
theorem dX4_digest_169 : decode cX4_digest 169 = .ok (.lstore_n 1, 1) := by decide +kernel
theorem dX4_digest_170 : decode cX4_digest 170 = .ok (.iinc 3 1, 3) := by decide +kernel
theorem dX4_digest_173 : decode cX4_digest 173 = .ok (.goto (-29), 3) := by decide +kernel
theorem dX4_digest_176 : decode cX4_digest 176 = .ok (.lload_n 1, 1) := by decide +kernel
theorem dX4_digest_177 : decode cX4_digest 177 = .ok (.lreturn, 1) := by decide +kernel
theorem dX4_countFill_0 : decode cX4_countFill 0 = .ok (.aload_n 0, 1) := by decide +kernel
theorem dX4_countFill_1 : decode cX4_countFill 1 = .ok (.getfield 23, 3) := by decide +kernel
theorem dX4_countFill_4 : decode cX4_countFill 4 = .ok (.aload_n 0, 1) := by decide +kernel
theorem dX4_countFill_5 : decode cX4_countFill 5 = .ok (.getfield 10, 3) := by decide +kernel
theorem dX4_countFill_8 : decode cX4_countFill 8 = .ok (.invokevirtual 127, 3) := by decide +kernel
theorem dX4_countFill_11 : decode cX4_countFill 11 = .ok (.aload_n 0, 1) := by decide +kernel
theorem dX4_countFill_12 : decode cX4_countFill 12 = .ok (.getfield 23, 3) := by decide +kernel
theorem dX4_countFill_15 : decode cX4_countFill 15 = .ok (.aload_n 0, 1) := by decide +kernel
theorem dX4_countFill_16 : decode cX4_countFill 16 = .ok (.getfield 10, 3) := by decide +kernel
theorem dX4_countFill_19 : decode cX4_countFill 19 = .ok (.getfield 70, 3) := by decide +kernel
theorem dX4_countFill_22 : decode cX4_countFill 22 = .ok (.invokevirtual 205, 3) := by decide +kernel
theorem dX4_countFill_25 : decode cX4_countFill 25 = .ok (.aload_n 0, 1) := by decide +kernel
theorem dX4_countFill_26 : decode cX4_countFill 26 = .ok (.getfield 10, 3) := by decide +kernel
theorem dX4_countFill_29 : decode cX4_countFill 29 = .ok (.invokevirtual 87, 3) := by decide +kernel
theorem dX4_countFill_32 : decode cX4_countFill 32 = .ok (.isub, 1) := by decide +kernel
theorem dX4_countFill_33 : decode cX4_countFill 33 = .ok (.ireturn, 1) := by decide +kernel
theorem dX4_needRow_0 : decode cX4_needRow 0 = .ok (.iload_n 1, 1) := by decide +kernel
theorem dX4_needRow_1 : decode cX4_needRow 1 = .ok (.ifCond .lt 14, 3) := by decide +kernel
theorem dX4_needRow_4 : decode cX4_needRow 4 = .ok (.iload_n 1, 1) := by decide +kernel
theorem dX4_needRow_5 : decode cX4_needRow 5 = .ok (.aload_n 0, 1) := by decide +kernel
theorem dX4_needRow_6 : decode cX4_needRow 6 = .ok (.getfield 10, 3) := by decide +kernel
theorem dX4_needRow_9 : decode cX4_needRow 9 = .ok (.getfield 70, 3) := by decide +kernel
theorem dX4_needRow_12 : decode cX4_needRow 12 = .ok (.if_icmp .lt 13, 3) := by decide +kernel
theorem dX4_needRow_15 : decode cX4_needRow 15 = .ok (.new 208, 3) := by decide +kernel
theorem dX4_needRow_18 : decode cX4_needRow 18 = .ok (.dup, 1) := by decide +kernel
theorem dX4_needRow_19 : decode cX4_needRow 19 = .ok (.ldc 210, 2) := by decide +kernel
theorem dX4_needRow_21 : decode cX4_needRow 21 = .ok (.invokespecial 212, 3) := by decide +kernel
theorem dX4_needRow_24 : decode cX4_needRow 24 = .ok (.athrow, 1) := by decide +kernel
theorem dX4_needRow_25 : decode cX4_needRow 25 = .ok (.return_, 1) := by decide +kernel
theorem dX4_needPosition_0 : decode cX4_needPosition 0 = .ok (.iload_n 1, 1) := by decide +kernel
theorem dX4_needPosition_1 : decode cX4_needPosition 1 = .ok (.ifCond .lt 14, 3) := by decide +kernel
theorem dX4_needPosition_4 : decode cX4_needPosition 4 = .ok (.iload_n 1, 1) := by decide +kernel
theorem dX4_needPosition_5 : decode cX4_needPosition 5 = .ok (.aload_n 0, 1) := by decide +kernel
theorem dX4_needPosition_6 : decode cX4_needPosition 6 = .ok (.getfield 10, 3) := by decide +kernel
theorem dX4_needPosition_9 : decode cX4_needPosition 9 = .ok (.getfield 70, 3) := by decide +kernel
theorem dX4_needPosition_12 : decode cX4_needPosition 12 = .ok (.if_icmp .lt 13, 3) := by decide +kernel
theorem dX4_needPosition_15 : decode cX4_needPosition 15 = .ok (.new 208, 3) := by decide +kernel
theorem dX4_needPosition_18 : decode cX4_needPosition 18 = .ok (.dup, 1) := by decide +kernel
theorem dX4_needPosition_19 : decode cX4_needPosition 19 = .ok (.ldc 213, 2) := by decide +kernel
theorem dX4_needPosition_21 : decode cX4_needPosition 21 = .ok (.invokespecial 212, 3) := by decide +kernel
theorem dX4_needPosition_24 : decode cX4_needPosition 24 = .ok (.athrow, 1) := by decide +kernel
theorem dX4_needPosition_25 : decode cX4_needPosition 25 = .ok (.return_, 1) := by decide +kernel
theorem dX4_needFactors_0 : decode cX4_needFactors 0 = .ok (.aload_n 0, 1) := by decide +kernel
theorem dX4_needFactors_1 : decode cX4_needFactors 1 = .ok (.getfield 30, 3) := by decide +kernel
theorem dX4_needFactors_4 : decode cX4_needFactors 4 = .ok (.getfield 156, 3) := by decide +kernel
theorem dX4_needFactors_7 : decode cX4_needFactors 7 = .ok (.ifCond .ne 13, 3) := by decide +kernel
theorem dX4_needFactors_10 : decode cX4_needFactors 10 = .ok (.new 189, 3) := by decide +kernel
theorem dX4_needFactors_13 : decode cX4_needFactors 13 = .ok (.dup, 1) := by decide +kernel
theorem dX4_needFactors_14 : decode cX4_needFactors 14 = .ok (.ldc 215, 2) := by decide +kernel
theorem dX4_needFactors_16 : decode cX4_needFactors 16 = .ok (.invokespecial 193, 3) := by decide +kernel
theorem dX4_needFactors_19 : decode cX4_needFactors 19 = .ok (.athrow, 1) := by decide +kernel
theorem dX4_needFactors_20 : decode cX4_needFactors 20 = .ok (.return_, 1) := by decide +kernel
theorem dX4_needResidue_0 : decode cX4_needResidue 0 = .ok (.iload_n 0, 1) := by decide +kernel
theorem dX4_needResidue_1 : decode cX4_needResidue 1 = .ok (.ifCond .lt 9, 3) := by decide +kernel
theorem dX4_needResidue_4 : decode cX4_needResidue 4 = .ok (.iload_n 0, 1) := by decide +kernel
theorem dX4_needResidue_5 : decode cX4_needResidue 5 = .ok (.ldc 217, 2) := by decide +kernel
theorem dX4_needResidue_7 : decode cX4_needResidue 7 = .ok (.if_icmp .lt 13, 3) := by decide +kernel
theorem dX4_needResidue_10 : decode cX4_needResidue 10 = .ok (.new 56, 3) := by decide +kernel
theorem dX4_needResidue_13 : decode cX4_needResidue 13 = .ok (.dup, 1) := by decide +kernel
theorem dX4_needResidue_14 : decode cX4_needResidue 14 = .ok (.ldc 218, 2) := by decide +kernel
theorem dX4_needResidue_16 : decode cX4_needResidue 16 = .ok (.invokespecial 60, 3) := by decide +kernel
theorem dX4_needResidue_19 : decode cX4_needResidue 19 = .ok (.athrow, 1) := by decide +kernel
theorem dX4_needResidue_20 : decode cX4_needResidue 20 = .ok (.return_, 1) := by decide +kernel
theorem dX4_mix_0 : decode cX4_mix 0 = .ok (.lload_n 0, 1) := by decide +kernel
theorem dX4_mix_1 : decode cX4_mix 1 = .ok (.ldc2_w 220, 3) := by decide +kernel
theorem dX4_mix_4 : decode cX4_mix 4 = .ok (.lmul, 1) := by decide +kernel
theorem dX4_mix_5 : decode cX4_mix 5 = .ok (.lload_n 2, 1) := by decide +kernel
theorem dX4_mix_6 : decode cX4_mix 6 = .ok (.ladd, 1) := by decide +kernel
theorem dX4_mix_7 : decode cX4_mix 7 = .ok (.lreturn, 1) := by decide +kernel
theorem dX4_cell_0 : decode cX4_cell 0 = .ok (.iload_n 0, 1) := by decide +kernel
theorem dX4_cell_1 : decode cX4_cell 1 = .ok (.bipush 16, 2) := by decide +kernel
theorem dX4_cell_3 : decode cX4_cell 3 = .ok (.imul, 1) := by decide +kernel
theorem dX4_cell_4 : decode cX4_cell 4 = .ok (.iload_n 1, 1) := by decide +kernel
theorem dX4_cell_5 : decode cX4_cell 5 = .ok (.iadd, 1) := by decide +kernel
theorem dX4_cell_6 : decode cX4_cell 6 = .ok (.ireturn, 1) := by decide +kernel
theorem dX4_bit_0 : decode cX4_bit 0 = .ok (.iconst 1, 1) := by decide +kernel
theorem dX4_bit_1 : decode cX4_bit 1 = .ok (.iload_n 0, 1) := by decide +kernel
theorem dX4_bit_2 : decode cX4_bit 2 = .ok (.ishl, 1) := by decide +kernel
theorem dX4_bit_3 : decode cX4_bit 3 = .ok (.ireturn, 1) := by decide +kernel
theorem dX4_has_0 : decode cX4_has 0 = .ok (.iload_n 0, 1) := by decide +kernel
theorem dX4_has_1 : decode cX4_has 1 = .ok (.iload_n 1, 1) := by decide +kernel
theorem dX4_has_2 : decode cX4_has 2 = .ok (.invokestatic 222, 3) := by decide +kernel
theorem dX4_has_5 : decode cX4_has 5 = .ok (.iand, 1) := by decide +kernel
theorem dX4_has_6 : decode cX4_has 6 = .ok (.ifCond .eq 7, 3) := by decide +kernel
theorem dX4_has_9 : decode cX4_has 9 = .ok (.iconst 1, 1) := by decide +kernel
theorem dX4_has_10 : decode cX4_has 10 = .ok (.goto 4, 3) := by decide +kernel
theorem dX4_has_13 : decode cX4_has 13 = .ok (.iconst 0, 1) := by decide +kernel
theorem dX4_has_14 : decode cX4_has 14 = .ok (.ireturn, 1) := by decide +kernel
theorem dX4_plus_0 : decode cX4_plus 0 = .ok (.iload_n 0, 1) := by decide +kernel
theorem dX4_plus_1 : decode cX4_plus 1 = .ok (.iload_n 1, 1) := by decide +kernel
theorem dX4_plus_2 : decode cX4_plus 2 = .ok (.iadd, 1) := by decide +kernel
theorem dX4_plus_3 : decode cX4_plus 3 = .ok (.istore_n 2, 1) := by decide +kernel
theorem dX4_plus_4 : decode cX4_plus 4 = .ok (.iload_n 2, 1) := by decide +kernel
theorem dX4_plus_5 : decode cX4_plus 5 = .ok (.ldc 217, 2) := by decide +kernel
theorem dX4_plus_7 : decode cX4_plus 7 = .ok (.if_icmp .lt 10, 3) := by decide +kernel
theorem dX4_plus_10 : decode cX4_plus 10 = .ok (.iload_n 2, 1) := by decide +kernel
theorem dX4_plus_11 : decode cX4_plus 11 = .ok (.ldc 217, 2) := by decide +kernel
theorem dX4_plus_13 : decode cX4_plus 13 = .ok (.isub, 1) := by decide +kernel
theorem dX4_plus_14 : decode cX4_plus 14 = .ok (.goto 4, 3) := by decide +kernel
theorem dX4_plus_17 : decode cX4_plus 17 = .ok (.iload_n 2, 1) := by decide +kernel
theorem dX4_plus_18 : decode cX4_plus 18 = .ok (.ireturn, 1) := by decide +kernel
theorem dX4_minus_0 : decode cX4_minus 0 = .ok (.iload_n 0, 1) := by decide +kernel
theorem dX4_minus_1 : decode cX4_minus 1 = .ok (.iload_n 1, 1) := by decide +kernel
theorem dX4_minus_2 : decode cX4_minus 2 = .ok (.isub, 1) := by decide +kernel
theorem dX4_minus_3 : decode cX4_minus 3 = .ok (.istore_n 2, 1) := by decide +kernel
theorem dX4_minus_4 : decode cX4_minus 4 = .ok (.iload_n 2, 1) := by decide +kernel
theorem dX4_minus_5 : decode cX4_minus 5 = .ok (.ifCond .ge 10, 3) := by decide +kernel
theorem dX4_minus_8 : decode cX4_minus 8 = .ok (.iload_n 2, 1) := by decide +kernel
theorem dX4_minus_9 : decode cX4_minus 9 = .ok (.ldc 217, 2) := by decide +kernel
theorem dX4_minus_11 : decode cX4_minus 11 = .ok (.iadd, 1) := by decide +kernel
theorem dX4_minus_12 : decode cX4_minus 12 = .ok (.goto 4, 3) := by decide +kernel
theorem dX4_minus_15 : decode cX4_minus 15 = .ok (.iload_n 2, 1) := by decide +kernel
theorem dX4_minus_16 : decode cX4_minus 16 = .ok (.ireturn, 1) := by decide +kernel
theorem dX4_times_0 : decode cX4_times 0 = .ok (.iload_n 0, 1) := by decide +kernel
theorem dX4_times_1 : decode cX4_times 1 = .ok (.i2l, 1) := by decide +kernel
theorem dX4_times_2 : decode cX4_times 2 = .ok (.iload_n 1, 1) := by decide +kernel
theorem dX4_times_3 : decode cX4_times 3 = .ok (.i2l, 1) := by decide +kernel
theorem dX4_times_4 : decode cX4_times 4 = .ok (.lmul, 1) := by decide +kernel
theorem dX4_times_5 : decode cX4_times 5 = .ok (.ldc2_w 225, 3) := by decide +kernel
theorem dX4_times_8 : decode cX4_times 8 = .ok (.lrem, 1) := by decide +kernel
theorem dX4_times_9 : decode cX4_times 9 = .ok (.l2i, 1) := by decide +kernel
theorem dX4_times_10 : decode cX4_times 10 = .ok (.ireturn, 1) := by decide +kernel
theorem dX4_reciprocal_0 : decode cX4_reciprocal 0 = .ok (.iconst 1, 1) := by decide +kernel
theorem dX4_reciprocal_1 : decode cX4_reciprocal 1 = .ok (.istore_n 1, 1) := by decide +kernel
theorem dX4_reciprocal_2 : decode cX4_reciprocal 2 = .ok (.iload_n 0, 1) := by decide +kernel
theorem dX4_reciprocal_3 : decode cX4_reciprocal 3 = .ok (.istore_n 2, 1) := by decide +kernel
theorem dX4_reciprocal_4 : decode cX4_reciprocal 4 = .ok (.iconst 0, 1) := by decide +kernel
theorem dX4_reciprocal_5 : decode cX4_reciprocal 5 = .ok (.istore_n 3, 1) := by decide +kernel
theorem dX4_reciprocal_6 : decode cX4_reciprocal 6 = .ok (.iload_n 3, 1) := by decide +kernel
theorem dX4_reciprocal_7 : decode cX4_reciprocal 7 = .ok (.bipush 16, 2) := by decide +kernel
theorem dX4_reciprocal_9 : decode cX4_reciprocal 9 = .ok (.if_icmp .ge 30, 3) := by decide +kernel
theorem dX4_reciprocal_12 : decode cX4_reciprocal 12 = .ok (.ldc 227, 2) := by decide +kernel
theorem dX4_reciprocal_14 : decode cX4_reciprocal 14 = .ok (.iload_n 3, 1) := by decide +kernel
theorem dX4_reciprocal_15 : decode cX4_reciprocal 15 = .ok (.invokestatic 133, 3) := by decide +kernel
theorem dX4_reciprocal_18 : decode cX4_reciprocal 18 = .ok (.ifCond .eq 9, 3) := by decide +kernel
theorem dX4_reciprocal_21 : decode cX4_reciprocal 21 = .ok (.iload_n 1, 1) := by decide +kernel
theorem dX4_reciprocal_22 : decode cX4_reciprocal 22 = .ok (.iload_n 2, 1) := by decide +kernel
theorem dX4_reciprocal_23 : decode cX4_reciprocal 23 = .ok (.invokestatic 228, 3) := by decide +kernel
theorem dX4_reciprocal_26 : decode cX4_reciprocal 26 = .ok (.istore_n 1, 1) := by decide +kernel
theorem dX4_reciprocal_27 : decode cX4_reciprocal 27 = .ok (.iload_n 2, 1) := by decide +kernel
theorem dX4_reciprocal_28 : decode cX4_reciprocal 28 = .ok (.iload_n 2, 1) := by decide +kernel
theorem dX4_reciprocal_29 : decode cX4_reciprocal 29 = .ok (.invokestatic 228, 3) := by decide +kernel
theorem dX4_reciprocal_32 : decode cX4_reciprocal 32 = .ok (.istore_n 2, 1) := by decide +kernel
theorem dX4_reciprocal_33 : decode cX4_reciprocal 33 = .ok (.iinc 3 1, 3) := by decide +kernel
theorem dX4_reciprocal_36 : decode cX4_reciprocal 36 = .ok (.goto (-30), 3) := by decide +kernel
theorem dX4_reciprocal_39 : decode cX4_reciprocal 39 = .ok (.iload_n 1, 1) := by decide +kernel
theorem dX4_reciprocal_40 : decode cX4_reciprocal 40 = .ok (.ireturn, 1) := by decide +kernel
theorem dX5_init_0 : decode cX5_init 0 = .ok (.aload_n 0, 1) := by decide +kernel
theorem dX5_init_1 : decode cX5_init 1 = .ok (.invokespecial 3, 3) := by decide +kernel
theorem dX5_init_4 : decode cX5_init 4 = .ok (.aload_n 0, 1) := by decide +kernel
theorem dX5_init_5 : decode cX5_init 5 = .ok (.iconst 1, 1) := by decide +kernel
theorem dX5_init_6 : decode cX5_init 6 = .ok (.putfield 9, 3) := by decide +kernel
theorem dX5_init_9 : decode cX5_init 9 = .ok (.aload_n 0, 1) := by decide +kernel
theorem dX5_init_10 : decode cX5_init 10 = .ok (.sipush 256, 3) := by decide +kernel
theorem dX5_init_13 : decode cX5_init 13 = .ok (.newarray .int, 2) := by decide +kernel
theorem dX5_init_15 : decode cX5_init 15 = .ok (.putfield 13, 3) := by decide +kernel
theorem dX5_init_18 : decode cX5_init 18 = .ok (.aload_n 0, 1) := by decide +kernel
theorem dX5_init_19 : decode cX5_init 19 = .ok (.bipush 16, 2) := by decide +kernel
theorem dX5_init_21 : decode cX5_init 21 = .ok (.newarray .int, 2) := by decide +kernel
theorem dX5_init_23 : decode cX5_init 23 = .ok (.putfield 17, 3) := by decide +kernel
theorem dX5_init_26 : decode cX5_init 26 = .ok (.aload_n 0, 1) := by decide +kernel
theorem dX5_init_27 : decode cX5_init 27 = .ok (.bipush 16, 2) := by decide +kernel
theorem dX5_init_29 : decode cX5_init 29 = .ok (.newarray .int, 2) := by decide +kernel
theorem dX5_init_31 : decode cX5_init 31 = .ok (.putfield 20, 3) := by decide +kernel
theorem dX5_init_34 : decode cX5_init 34 = .ok (.aload_n 0, 1) := by decide +kernel
theorem dX5_init_35 : decode cX5_init 35 = .ok (.bipush 16, 2) := by decide +kernel
theorem dX5_init_37 : decode cX5_init 37 = .ok (.newarray .int, 2) := by decide +kernel
theorem dX5_init_39 : decode cX5_init 39 = .ok (.putfield 23, 3) := by decide +kernel
theorem dX5_init_42 : decode cX5_init 42 = .ok (.aload_n 0, 1) := by decide +kernel
theorem dX5_init_43 : decode cX5_init 43 = .ok (.bipush 16, 2) := by decide +kernel
theorem dX5_init_45 : decode cX5_init 45 = .ok (.newarray .int, 2) := by decide +kernel
theorem dX5_init_47 : decode cX5_init 47 = .ok (.putfield 26, 3) := by decide +kernel
theorem dX5_init_50 : decode cX5_init 50 = .ok (.aload_n 0, 1) := by decide +kernel
theorem dX5_init_51 : decode cX5_init 51 = .ok (.bipush 16, 2) := by decide +kernel
theorem dX5_init_53 : decode cX5_init 53 = .ok (.newarray .int, 2) := by decide +kernel
theorem dX5_init_55 : decode cX5_init 55 = .ok (.putfield 29, 3) := by decide +kernel
theorem dX5_init_58 : decode cX5_init 58 = .ok (.aload_n 0, 1) := by decide +kernel
theorem dX5_init_59 : decode cX5_init 59 = .ok (.sipush 256, 3) := by decide +kernel
theorem dX5_init_62 : decode cX5_init 62 = .ok (.newarray .int, 2) := by decide +kernel
theorem dX5_init_64 : decode cX5_init 64 = .ok (.putfield 32, 3) := by decide +kernel
theorem dX5_init_67 : decode cX5_init 67 = .ok (.aload_n 0, 1) := by decide +kernel
theorem dX5_init_68 : decode cX5_init 68 = .ok (.bipush 16, 2) := by decide +kernel
theorem dX5_init_70 : decode cX5_init 70 = .ok (.newarray .int, 2) := by decide +kernel
theorem dX5_init_72 : decode cX5_init 72 = .ok (.putfield 35, 3) := by decide +kernel
theorem dX5_init_75 : decode cX5_init 75 = .ok (.aload_n 0, 1) := by decide +kernel
theorem dX5_init_76 : decode cX5_init 76 = .ok (.sipush 272, 3) := by decide +kernel
theorem dX5_init_79 : decode cX5_init 79 = .ok (.newarray .int, 2) := by decide +kernel
theorem dX5_init_81 : decode cX5_init 81 = .ok (.putfield 38, 3) := by decide +kernel
theorem dX5_init_84 : decode cX5_init 84 = .ok (.aload_n 0, 1) := by decide +kernel
theorem dX5_init_85 : decode cX5_init 85 = .ok (.sipush 256, 3) := by decide +kernel
theorem dX5_init_88 : decode cX5_init 88 = .ok (.newarray .boolean, 2) := by decide +kernel
theorem dX5_init_90 : decode cX5_init 90 = .ok (.putfield 41, 3) := by decide +kernel
theorem dX5_init_93 : decode cX5_init 93 = .ok (.aload_n 0, 1) := by decide +kernel
theorem dX5_init_94 : decode cX5_init 94 = .ok (.sipush 1830, 3) := by decide +kernel
theorem dX5_init_97 : decode cX5_init 97 = .ok (.newarray .int, 2) := by decide +kernel
theorem dX5_init_99 : decode cX5_init 99 = .ok (.putfield 45, 3) := by decide +kernel
theorem dX5_init_102 : decode cX5_init 102 = .ok (.aload_n 0, 1) := by decide +kernel
theorem dX5_init_103 : decode cX5_init 103 = .ok (.invokevirtual 48, 3) := by decide +kernel
theorem dX5_init_106 : decode cX5_init 106 = .ok (.return_, 1) := by decide +kernel
theorem dX5_thrown_0 : decode cX5_thrown 0 = .ok (.aload_n 0, 1) := by decide +kernel
theorem dX5_thrown_1 : decode cX5_thrown 1 = .ok (.getfield 51, 3) := by decide +kernel
theorem dX5_thrown_4 : decode cX5_thrown 4 = .ok (.ireturn, 1) := by decide +kernel
theorem dX5_no_0 : decode cX5_no 0 = .ok (.aload_n 0, 1) := by decide +kernel
theorem dX5_no_1 : decode cX5_no 1 = .ok (.iload_n 1, 1) := by decide +kernel
theorem dX5_no_2 : decode cX5_no 2 = .ok (.putfield 51, 3) := by decide +kernel
theorem dX5_no_5 : decode cX5_no 5 = .ok (.iconst 0, 1) := by decide +kernel
theorem dX5_no_6 : decode cX5_no 6 = .ok (.ireturn, 1) := by decide +kernel
theorem dX5_isRow_0 : decode cX5_isRow 0 = .ok (.iload_n 1, 1) := by decide +kernel
theorem dX5_isRow_1 : decode cX5_isRow 1 = .ok (.ifCond .lt 15, 3) := by decide +kernel
theorem dX5_isRow_4 : decode cX5_isRow 4 = .ok (.iload_n 1, 1) := by decide +kernel
theorem dX5_isRow_5 : decode cX5_isRow 5 = .ok (.aload_n 0, 1) := by decide +kernel
theorem dX5_isRow_6 : decode cX5_isRow 6 = .ok (.getfield 9, 3) := by decide +kernel
theorem dX5_isRow_9 : decode cX5_isRow 9 = .ok (.if_icmp .ge 7, 3) := by decide +kernel
theorem dX5_isRow_12 : decode cX5_isRow 12 = .ok (.iconst 1, 1) := by decide +kernel
theorem dX5_isRow_13 : decode cX5_isRow 13 = .ok (.goto 4, 3) := by decide +kernel
theorem dX5_isRow_16 : decode cX5_isRow 16 = .ok (.iconst 0, 1) := by decide +kernel
theorem dX5_isRow_17 : decode cX5_isRow 17 = .ok (.ireturn, 1) := by decide +kernel
theorem dX5_isResidue_0 : decode cX5_isResidue 0 = .ok (.iload_n 0, 1) := by decide +kernel
theorem dX5_isResidue_1 : decode cX5_isResidue 1 = .ok (.ifCond .lt 13, 3) := by decide +kernel
theorem dX5_isResidue_4 : decode cX5_isResidue 4 = .ok (.iload_n 0, 1) := by decide +kernel
theorem dX5_isResidue_5 : decode cX5_isResidue 5 = .ok (.ldc 54, 2) := by decide +kernel
theorem dX5_isResidue_7 : decode cX5_isResidue 7 = .ok (.if_icmp .ge 7, 3) := by decide +kernel
theorem dX5_isResidue_10 : decode cX5_isResidue 10 = .ok (.iconst 1, 1) := by decide +kernel
theorem dX5_isResidue_11 : decode cX5_isResidue 11 = .ok (.goto 4, 3) := by decide +kernel
theorem dX5_isResidue_14 : decode cX5_isResidue 14 = .ok (.iconst 0, 1) := by decide +kernel
theorem dX5_isResidue_15 : decode cX5_isResidue 15 = .ok (.ireturn, 1) := by decide +kernel
theorem dX5_at_0 : decode cX5_at 0 = .ok (.bipush 16, 2) := by decide +kernel
theorem dX5_at_2 : decode cX5_at 2 = .ok (.iload_n 0, 1) := by decide +kernel
theorem dX5_at_3 : decode cX5_at 3 = .ok (.imul, 1) := by decide +kernel
theorem dX5_at_4 : decode cX5_at 4 = .ok (.iload_n 1, 1) := by decide +kernel
theorem dX5_at_5 : decode cX5_at 5 = .ok (.iadd, 1) := by decide +kernel
theorem dX5_at_6 : decode cX5_at 6 = .ok (.ireturn, 1) := by decide +kernel
theorem dX5_times_0 : decode cX5_times 0 = .ok (.iload_n 0, 1) := by decide +kernel
theorem dX5_times_1 : decode cX5_times 1 = .ok (.i2l, 1) := by decide +kernel
theorem dX5_times_2 : decode cX5_times 2 = .ok (.iload_n 1, 1) := by decide +kernel
theorem dX5_times_3 : decode cX5_times 3 = .ok (.i2l, 1) := by decide +kernel
theorem dX5_times_4 : decode cX5_times 4 = .ok (.lmul, 1) := by decide +kernel
theorem dX5_times_5 : decode cX5_times 5 = .ok (.ldc2_w 55, 3) := by decide +kernel
theorem dX5_times_8 : decode cX5_times 8 = .ok (.lrem, 1) := by decide +kernel
theorem dX5_times_9 : decode cX5_times 9 = .ok (.l2i, 1) := by decide +kernel
theorem dX5_times_10 : decode cX5_times 10 = .ok (.ireturn, 1) := by decide +kernel
theorem dX5_minus_0 : decode cX5_minus 0 = .ok (.iload_n 0, 1) := by decide +kernel
theorem dX5_minus_1 : decode cX5_minus 1 = .ok (.iload_n 1, 1) := by decide +kernel
theorem dX5_minus_2 : decode cX5_minus 2 = .ok (.isub, 1) := by decide +kernel
theorem dX5_minus_3 : decode cX5_minus 3 = .ok (.ldc 54, 2) := by decide +kernel
theorem dX5_minus_5 : decode cX5_minus 5 = .ok (.iadd, 1) := by decide +kernel
theorem dX5_minus_6 : decode cX5_minus 6 = .ok (.ldc 54, 2) := by decide +kernel
theorem dX5_minus_8 : decode cX5_minus 8 = .ok (.irem, 1) := by decide +kernel
theorem dX5_minus_9 : decode cX5_minus 9 = .ok (.ireturn, 1) := by decide +kernel
theorem dX5_over_0 : decode cX5_over 0 = .ok (.iconst 1, 1) := by decide +kernel
theorem dX5_over_1 : decode cX5_over 1 = .ok (.istore_n 1, 1) := by decide +kernel
theorem dX5_over_2 : decode cX5_over 2 = .ok (.iload_n 0, 1) := by decide +kernel
theorem dX5_over_3 : decode cX5_over 3 = .ok (.istore_n 2, 1) := by decide +kernel
theorem dX5_over_4 : decode cX5_over 4 = .ok (.ldc 57, 2) := by decide +kernel
theorem dX5_over_6 : decode cX5_over 6 = .ok (.istore_n 3, 1) := by decide +kernel
theorem dX5_over_7 : decode cX5_over 7 = .ok (.iload_n 3, 1) := by decide +kernel
theorem dX5_over_8 : decode cX5_over 8 = .ok (.ifCond .le 29, 3) := by decide +kernel
theorem dX5_over_11 : decode cX5_over 11 = .ok (.iload_n 3, 1) := by decide +kernel
theorem dX5_over_12 : decode cX5_over 12 = .ok (.iconst 2, 1) := by decide +kernel
theorem dX5_over_13 : decode cX5_over 13 = .ok (.irem, 1) := by decide +kernel
theorem dX5_over_14 : decode cX5_over 14 = .ok (.iconst 1, 1) := by decide +kernel
theorem dX5_over_15 : decode cX5_over 15 = .ok (.if_icmp .ne 9, 3) := by decide +kernel
theorem dX5_over_18 : decode cX5_over 18 = .ok (.iload_n 1, 1) := by decide +kernel
theorem dX5_over_19 : decode cX5_over 19 = .ok (.iload_n 2, 1) := by decide +kernel
theorem dX5_over_20 : decode cX5_over 20 = .ok (.invokestatic 58, 3) := by decide +kernel
theorem dX5_over_23 : decode cX5_over 23 = .ok (.istore_n 1, 1) := by decide +kernel
theorem dX5_over_24 : decode cX5_over 24 = .ok (.iload_n 2, 1) := by decide +kernel
theorem dX5_over_25 : decode cX5_over 25 = .ok (.iload_n 2, 1) := by decide +kernel
theorem dX5_over_26 : decode cX5_over 26 = .ok (.invokestatic 58, 3) := by decide +kernel
theorem dX5_over_29 : decode cX5_over 29 = .ok (.istore_n 2, 1) := by decide +kernel
theorem dX5_over_30 : decode cX5_over 30 = .ok (.iload_n 3, 1) := by decide +kernel
theorem dX5_over_31 : decode cX5_over 31 = .ok (.iconst 2, 1) := by decide +kernel
theorem dX5_over_32 : decode cX5_over 32 = .ok (.idiv, 1) := by decide +kernel
theorem dX5_over_33 : decode cX5_over 33 = .ok (.istore_n 3, 1) := by decide +kernel
theorem dX5_over_34 : decode cX5_over 34 = .ok (.goto (-27), 3) := by decide +kernel
theorem dX5_over_37 : decode cX5_over 37 = .ok (.iload_n 1, 1) := by decide +kernel
theorem dX5_over_38 : decode cX5_over 38 = .ok (.ireturn, 1) := by decide +kernel
theorem dX5_clear_0 : decode cX5_clear 0 = .ok (.iconst 0, 1) := by decide +kernel
theorem dX5_clear_1 : decode cX5_clear 1 = .ok (.istore_n 1, 1) := by decide +kernel
theorem dX5_clear_2 : decode cX5_clear 2 = .ok (.iload_n 1, 1) := by decide +kernel
theorem dX5_clear_3 : decode cX5_clear 3 = .ok (.bipush 16, 2) := by decide +kernel
theorem dX5_clear_5 : decode cX5_clear 5 = .ok (.if_icmp .ge 62, 3) := by decide +kernel
theorem dX5_clear_8 : decode cX5_clear 8 = .ok (.aload_n 0, 1) := by decide +kernel
theorem dX5_clear_9 : decode cX5_clear 9 = .ok (.getfield 17, 3) := by decide +kernel
theorem dX5_clear_12 : decode cX5_clear 12 = .ok (.iload_n 1, 1) := by decide +kernel
theorem dX5_clear_13 : decode cX5_clear 13 = .ok (.iload_n 1, 1) := by decide +kernel
theorem dX5_clear_14 : decode cX5_clear 14 = .ok (.iastore, 1) := by decide +kernel
theorem dX5_clear_15 : decode cX5_clear 15 = .ok (.aload_n 0, 1) := by decide +kernel
theorem dX5_clear_16 : decode cX5_clear 16 = .ok (.getfield 20, 3) := by decide +kernel
theorem dX5_clear_19 : decode cX5_clear 19 = .ok (.iload_n 1, 1) := by decide +kernel
theorem dX5_clear_20 : decode cX5_clear 20 = .ok (.iload_n 1, 1) := by decide +kernel
theorem dX5_clear_21 : decode cX5_clear 21 = .ok (.iastore, 1) := by decide +kernel
theorem dX5_clear_22 : decode cX5_clear 22 = .ok (.aload_n 0, 1) := by decide +kernel
theorem dX5_clear_23 : decode cX5_clear 23 = .ok (.getfield 23, 3) := by decide +kernel
theorem dX5_clear_26 : decode cX5_clear 26 = .ok (.iload_n 1, 1) := by decide +kernel
