theorem dX5_setWeight_26 : decode cX5_setWeight 26 = .ok (.aload_n 0, 1) := by decide +kernel
theorem dX5_setWeight_27 : decode cX5_setWeight 27 = .ok (.iconst 2, 1) := by decide +kernel
theorem dX5_setWeight_28 : decode cX5_setWeight 28 = .ok (.invokevirtual 72, 3) := by decide +kernel
theorem dX5_setWeight_31 : decode cX5_setWeight 31 = .ok (.ireturn, 1) := by decide +kernel
theorem dX5_setWeight_32 : decode cX5_setWeight 32 = .ok (.aload_n 0, 1) := by decide +kernel
theorem dX5_setWeight_33 : decode cX5_setWeight 33 = .ok (.getfield 26, 3) := by decide +kernel
theorem dX5_setWeight_36 : decode cX5_setWeight 36 = .ok (.iload_n 1, 1) := by decide +kernel
theorem dX5_setWeight_37 : decode cX5_setWeight 37 = .ok (.iaload, 1) := by decide +kernel
theorem dX5_setWeight_38 : decode cX5_setWeight 38 = .ok (.istore_n 3, 1) := by decide +kernel
theorem dX5_setWeight_39 : decode cX5_setWeight 39 = .ok (.aload_n 0, 1) := by decide +kernel
theorem dX5_setWeight_40 : decode cX5_setWeight 40 = .ok (.getfield 26, 3) := by decide +kernel
theorem dX5_setWeight_43 : decode cX5_setWeight 43 = .ok (.iload_n 1, 1) := by decide +kernel
theorem dX5_setWeight_44 : decode cX5_setWeight 44 = .ok (.iload_n 2, 1) := by decide +kernel
theorem dX5_setWeight_45 : decode cX5_setWeight 45 = .ok (.iastore, 1) := by decide +kernel
theorem dX5_setWeight_46 : decode cX5_setWeight 46 = .ok (.iload_n 3, 1) := by decide +kernel
theorem dX5_setWeight_47 : decode cX5_setWeight 47 = .ok (.ireturn, 1) := by decide +kernel
theorem dX5_update_0 : decode cX5_update 0 = .ok (.aload_n 0, 1) := by decide +kernel
theorem dX5_update_1 : decode cX5_update 1 = .ok (.iconst 0, 1) := by decide +kernel
theorem dX5_update_2 : decode cX5_update 2 = .ok (.putfield 51, 3) := by decide +kernel
theorem dX5_update_5 : decode cX5_update 5 = .ok (.iload_n 1, 1) := by decide +kernel
theorem dX5_update_6 : decode cX5_update 6 = .ok (.invokestatic 80, 3) := by decide +kernel
theorem dX5_update_9 : decode cX5_update 9 = .ok (.ifCond .ne 9, 3) := by decide +kernel
theorem dX5_update_12 : decode cX5_update 12 = .ok (.aload_n 0, 1) := by decide +kernel
theorem dX5_update_13 : decode cX5_update 13 = .ok (.iconst 1, 1) := by decide +kernel
theorem dX5_update_14 : decode cX5_update 14 = .ok (.invokevirtual 72, 3) := by decide +kernel
theorem dX5_update_17 : decode cX5_update 17 = .ok (.ireturn, 1) := by decide +kernel
theorem dX5_update_18 : decode cX5_update 18 = .ok (.aload_n 0, 1) := by decide +kernel
theorem dX5_update_19 : decode cX5_update 19 = .ok (.getfield 65, 3) := by decide +kernel
theorem dX5_update_22 : decode cX5_update 22 = .ok (.ifCond .ne 9, 3) := by decide +kernel
theorem dX5_update_25 : decode cX5_update 25 = .ok (.aload_n 0, 1) := by decide +kernel
theorem dX5_update_26 : decode cX5_update 26 = .ok (.iconst 2, 1) := by decide +kernel
theorem dX5_update_27 : decode cX5_update 27 = .ok (.invokevirtual 72, 3) := by decide +kernel
theorem dX5_update_30 : decode cX5_update 30 = .ok (.ireturn, 1) := by decide +kernel
theorem dX5_update_31 : decode cX5_update 31 = .ok (.iconst 0, 1) := by decide +kernel
theorem dX5_update_32 : decode cX5_update 32 = .ok (.istore_n 2, 1) := by decide +kernel
theorem dX5_update_33 : decode cX5_update 33 = .ok (.iload_n 2, 1) := by decide +kernel
theorem dX5_update_34 : decode cX5_update 34 = .ok (.aload_n 0, 1) := by decide +kernel
theorem dX5_update_35 : decode cX5_update 35 = .ok (.getfield 9, 3) := by decide +kernel
theorem dX5_update_38 : decode cX5_update 38 = .ok (.if_icmp .ge 68, 3) := by decide +kernel
theorem dX5_update_41 : decode cX5_update 41 = .ok (.iconst 0, 1) := by decide +kernel
theorem dX5_update_42 : decode cX5_update 42 = .ok (.istore_n 3, 1) := by decide +kernel
theorem dX5_update_43 : decode cX5_update 43 = .ok (.iload_n 3, 1) := by decide +kernel
theorem dX5_update_44 : decode cX5_update 44 = .ok (.aload_n 0, 1) := by decide +kernel
theorem dX5_update_45 : decode cX5_update 45 = .ok (.getfield 9, 3) := by decide +kernel
theorem dX5_update_48 : decode cX5_update 48 = .ok (.if_icmp .ge 52, 3) := by decide +kernel
theorem dX5_update_51 : decode cX5_update 51 = .ok (.aload_n 0, 1) := by decide +kernel
theorem dX5_update_52 : decode cX5_update 52 = .ok (.getfield 13, 3) := by decide +kernel
theorem dX5_update_55 : decode cX5_update 55 = .ok (.iload_n 2, 1) := by decide +kernel
theorem dX5_update_56 : decode cX5_update 56 = .ok (.iload_n 3, 1) := by decide +kernel
theorem dX5_update_57 : decode cX5_update 57 = .ok (.invokestatic 62, 3) := by decide +kernel
theorem dX5_update_60 : decode cX5_update 60 = .ok (.aload_n 0, 1) := by decide +kernel
theorem dX5_update_61 : decode cX5_update 61 = .ok (.getfield 13, 3) := by decide +kernel
theorem dX5_update_64 : decode cX5_update 64 = .ok (.iload_n 2, 1) := by decide +kernel
theorem dX5_update_65 : decode cX5_update 65 = .ok (.iload_n 3, 1) := by decide +kernel
theorem dX5_update_66 : decode cX5_update 66 = .ok (.invokestatic 62, 3) := by decide +kernel
theorem dX5_update_69 : decode cX5_update 69 = .ok (.iaload, 1) := by decide +kernel
theorem dX5_update_70 : decode cX5_update 70 = .ok (.iload_n 1, 1) := by decide +kernel
theorem dX5_update_71 : decode cX5_update 71 = .ok (.aload_n 0, 1) := by decide +kernel
theorem dX5_update_72 : decode cX5_update 72 = .ok (.getfield 26, 3) := by decide +kernel
theorem dX5_update_75 : decode cX5_update 75 = .ok (.iload_n 2, 1) := by decide +kernel
theorem dX5_update_76 : decode cX5_update 76 = .ok (.iaload, 1) := by decide +kernel
theorem dX5_update_77 : decode cX5_update 77 = .ok (.aload_n 0, 1) := by decide +kernel
theorem dX5_update_78 : decode cX5_update 78 = .ok (.getfield 26, 3) := by decide +kernel
theorem dX5_update_81 : decode cX5_update 81 = .ok (.iload_n 3, 1) := by decide +kernel
theorem dX5_update_82 : decode cX5_update 82 = .ok (.iaload, 1) := by decide +kernel
theorem dX5_update_83 : decode cX5_update 83 = .ok (.invokestatic 58, 3) := by decide +kernel
theorem dX5_update_86 : decode cX5_update 86 = .ok (.invokestatic 58, 3) := by decide +kernel
theorem dX5_update_89 : decode cX5_update 89 = .ok (.iadd, 1) := by decide +kernel
theorem dX5_update_90 : decode cX5_update 90 = .ok (.ldc 54, 2) := by decide +kernel
theorem dX5_update_92 : decode cX5_update 92 = .ok (.irem, 1) := by decide +kernel
theorem dX5_update_93 : decode cX5_update 93 = .ok (.iastore, 1) := by decide +kernel
theorem dX5_update_94 : decode cX5_update 94 = .ok (.iinc 3 1, 3) := by decide +kernel
theorem dX5_update_97 : decode cX5_update 97 = .ok (.goto (-54), 3) := by decide +kernel
theorem dX5_update_100 : decode cX5_update 100 = .ok (.iinc 2 1, 3) := by decide +kernel
theorem dX5_update_103 : decode cX5_update 103 = .ok (.goto (-70), 3) := by decide +kernel
theorem dX5_update_106 : decode cX5_update 106 = .ok (.aload_n 0, 1) := by decide +kernel
theorem dX5_update_107 : decode cX5_update 107 = .ok (.invokevirtual 149, 3) := by decide +kernel
theorem dX5_update_110 : decode cX5_update 110 = .ok (.ireturn, 1) := by decide +kernel
theorem dX5_setRight_0 : decode cX5_setRight 0 = .ok (.aload_n 0, 1) := by decide +kernel
theorem dX5_setRight_1 : decode cX5_setRight 1 = .ok (.iconst 0, 1) := by decide +kernel
theorem dX5_setRight_2 : decode cX5_setRight 2 = .ok (.putfield 51, 3) := by decide +kernel
theorem dX5_setRight_5 : decode cX5_setRight 5 = .ok (.aload_n 0, 1) := by decide +kernel
theorem dX5_setRight_6 : decode cX5_setRight 6 = .ok (.iload_n 1, 1) := by decide +kernel
theorem dX5_setRight_7 : decode cX5_setRight 7 = .ok (.invokevirtual 76, 3) := by decide +kernel
theorem dX5_setRight_10 : decode cX5_setRight 10 = .ok (.ifCond .ne 9, 3) := by decide +kernel
theorem dX5_setRight_13 : decode cX5_setRight 13 = .ok (.aload_n 0, 1) := by decide +kernel
theorem dX5_setRight_14 : decode cX5_setRight 14 = .ok (.iconst 1, 1) := by decide +kernel
theorem dX5_setRight_15 : decode cX5_setRight 15 = .ok (.invokevirtual 72, 3) := by decide +kernel
theorem dX5_setRight_18 : decode cX5_setRight 18 = .ok (.ireturn, 1) := by decide +kernel
theorem dX5_setRight_19 : decode cX5_setRight 19 = .ok (.iload_n 2, 1) := by decide +kernel
theorem dX5_setRight_20 : decode cX5_setRight 20 = .ok (.invokestatic 80, 3) := by decide +kernel
theorem dX5_setRight_23 : decode cX5_setRight 23 = .ok (.ifCond .ne 9, 3) := by decide +kernel
theorem dX5_setRight_26 : decode cX5_setRight 26 = .ok (.aload_n 0, 1) := by decide +kernel
theorem dX5_setRight_27 : decode cX5_setRight 27 = .ok (.iconst 2, 1) := by decide +kernel
theorem dX5_setRight_28 : decode cX5_setRight 28 = .ok (.invokevirtual 72, 3) := by decide +kernel
theorem dX5_setRight_31 : decode cX5_setRight 31 = .ok (.ireturn, 1) := by decide +kernel
theorem dX5_setRight_32 : decode cX5_setRight 32 = .ok (.aload_n 0, 1) := by decide +kernel
theorem dX5_setRight_33 : decode cX5_setRight 33 = .ok (.getfield 23, 3) := by decide +kernel
theorem dX5_setRight_36 : decode cX5_setRight 36 = .ok (.iload_n 1, 1) := by decide +kernel
theorem dX5_setRight_37 : decode cX5_setRight 37 = .ok (.iaload, 1) := by decide +kernel
theorem dX5_setRight_38 : decode cX5_setRight 38 = .ok (.istore_n 3, 1) := by decide +kernel
theorem dX5_setRight_39 : decode cX5_setRight 39 = .ok (.aload_n 0, 1) := by decide +kernel
theorem dX5_setRight_40 : decode cX5_setRight 40 = .ok (.getfield 23, 3) := by decide +kernel
theorem dX5_setRight_43 : decode cX5_setRight 43 = .ok (.iload_n 1, 1) := by decide +kernel
theorem dX5_setRight_44 : decode cX5_setRight 44 = .ok (.iload_n 2, 1) := by decide +kernel
theorem dX5_setRight_45 : decode cX5_setRight 45 = .ok (.iastore, 1) := by decide +kernel
theorem dX5_setRight_46 : decode cX5_setRight 46 = .ok (.iload_n 3, 1) := by decide +kernel
theorem dX5_setRight_47 : decode cX5_setRight 47 = .ok (.ireturn, 1) := by decide +kernel
theorem dX5_solve_0 : decode cX5_solve 0 = .ok (.aload_n 0, 1) := by decide +kernel
theorem dX5_solve_1 : decode cX5_solve 1 = .ok (.iconst 0, 1) := by decide +kernel
theorem dX5_solve_2 : decode cX5_solve 2 = .ok (.putfield 51, 3) := by decide +kernel
theorem dX5_solve_5 : decode cX5_solve 5 = .ok (.aload_n 0, 1) := by decide +kernel
theorem dX5_solve_6 : decode cX5_solve 6 = .ok (.getfield 65, 3) := by decide +kernel
theorem dX5_solve_9 : decode cX5_solve 9 = .ok (.ifCond .ne 9, 3) := by decide +kernel
theorem dX5_solve_12 : decode cX5_solve 12 = .ok (.aload_n 0, 1) := by decide +kernel
theorem dX5_solve_13 : decode cX5_solve 13 = .ok (.iconst 1, 1) := by decide +kernel
theorem dX5_solve_14 : decode cX5_solve 14 = .ok (.invokevirtual 72, 3) := by decide +kernel
theorem dX5_solve_17 : decode cX5_solve 17 = .ok (.ireturn, 1) := by decide +kernel
theorem dX5_solve_18 : decode cX5_solve 18 = .ok (.aload_n 0, 1) := by decide +kernel
theorem dX5_solve_19 : decode cX5_solve 19 = .ok (.invokevirtual 100, 3) := by decide +kernel
theorem dX5_solve_22 : decode cX5_solve 22 = .ok (.iconst 0, 1) := by decide +kernel
theorem dX5_solve_23 : decode cX5_solve 23 = .ok (.istore_n 1, 1) := by decide +kernel
theorem dX5_solve_24 : decode cX5_solve 24 = .ok (.iload_n 1, 1) := by decide +kernel
theorem dX5_solve_25 : decode cX5_solve 25 = .ok (.aload_n 0, 1) := by decide +kernel
theorem dX5_solve_26 : decode cX5_solve 26 = .ok (.getfield 9, 3) := by decide +kernel
theorem dX5_solve_29 : decode cX5_solve 29 = .ok (.if_icmp .ge 26, 3) := by decide +kernel
theorem dX5_solve_32 : decode cX5_solve 32 = .ok (.aload_n 0, 1) := by decide +kernel
theorem dX5_solve_33 : decode cX5_solve 33 = .ok (.getfield 38, 3) := by decide +kernel
theorem dX5_solve_36 : decode cX5_solve 36 = .ok (.iload_n 1, 1) := by decide +kernel
theorem dX5_solve_37 : decode cX5_solve 37 = .ok (.bipush 16, 2) := by decide +kernel
theorem dX5_solve_39 : decode cX5_solve 39 = .ok (.invokestatic 91, 3) := by decide +kernel
theorem dX5_solve_42 : decode cX5_solve 42 = .ok (.aload_n 0, 1) := by decide +kernel
theorem dX5_solve_43 : decode cX5_solve 43 = .ok (.getfield 23, 3) := by decide +kernel
theorem dX5_solve_46 : decode cX5_solve 46 = .ok (.iload_n 1, 1) := by decide +kernel
theorem dX5_solve_47 : decode cX5_solve 47 = .ok (.iaload, 1) := by decide +kernel
theorem dX5_solve_48 : decode cX5_solve 48 = .ok (.iastore, 1) := by decide +kernel
theorem dX5_solve_49 : decode cX5_solve 49 = .ok (.iinc 1 1, 3) := by decide +kernel
theorem dX5_solve_52 : decode cX5_solve 52 = .ok (.goto (-28), 3) := by decide +kernel
theorem dX5_solve_55 : decode cX5_solve 55 = .ok (.aload_n 0, 1) := by decide +kernel
theorem dX5_solve_56 : decode cX5_solve 56 = .ok (.invokevirtual 103, 3) := by decide +kernel
theorem dX5_solve_59 : decode cX5_solve 59 = .ok (.ifCond .ne 5, 3) := by decide +kernel
theorem dX5_solve_62 : decode cX5_solve 62 = .ok (.iconst (-1), 1) := by decide +kernel
theorem dX5_solve_63 : decode cX5_solve 63 = .ok (.ireturn, 1) := by decide +kernel
theorem dX5_solve_64 : decode cX5_solve 64 = .ok (.iconst 0, 1) := by decide +kernel
theorem dX5_solve_65 : decode cX5_solve 65 = .ok (.istore_n 1, 1) := by decide +kernel
theorem dX5_solve_66 : decode cX5_solve 66 = .ok (.iconst 0, 1) := by decide +kernel
theorem dX5_solve_67 : decode cX5_solve 67 = .ok (.istore_n 2, 1) := by decide +kernel
theorem dX5_solve_68 : decode cX5_solve 68 = .ok (.iload_n 2, 1) := by decide +kernel
theorem dX5_solve_69 : decode cX5_solve 69 = .ok (.aload_n 0, 1) := by decide +kernel
theorem dX5_solve_70 : decode cX5_solve 70 = .ok (.getfield 9, 3) := by decide +kernel
theorem dX5_solve_73 : decode cX5_solve 73 = .ok (.if_icmp .ge 43, 3) := by decide +kernel
theorem dX5_solve_76 : decode cX5_solve 76 = .ok (.aload_n 0, 1) := by decide +kernel
theorem dX5_solve_77 : decode cX5_solve 77 = .ok (.getfield 35, 3) := by decide +kernel
theorem dX5_solve_80 : decode cX5_solve 80 = .ok (.iload_n 2, 1) := by decide +kernel
theorem dX5_solve_81 : decode cX5_solve 81 = .ok (.aload_n 0, 1) := by decide +kernel
theorem dX5_solve_82 : decode cX5_solve 82 = .ok (.getfield 38, 3) := by decide +kernel
theorem dX5_solve_85 : decode cX5_solve 85 = .ok (.iload_n 2, 1) := by decide +kernel
theorem dX5_solve_86 : decode cX5_solve 86 = .ok (.bipush 16, 2) := by decide +kernel
theorem dX5_solve_88 : decode cX5_solve 88 = .ok (.invokestatic 91, 3) := by decide +kernel
theorem dX5_solve_91 : decode cX5_solve 91 = .ok (.iaload, 1) := by decide +kernel
theorem dX5_solve_92 : decode cX5_solve 92 = .ok (.iastore, 1) := by decide +kernel
theorem dX5_solve_93 : decode cX5_solve 93 = .ok (.iload_n 1, 1) := by decide +kernel
theorem dX5_solve_94 : decode cX5_solve 94 = .ok (.aload_n 0, 1) := by decide +kernel
theorem dX5_solve_95 : decode cX5_solve 95 = .ok (.getfield 35, 3) := by decide +kernel
theorem dX5_solve_98 : decode cX5_solve 98 = .ok (.iload_n 2, 1) := by decide +kernel
theorem dX5_solve_99 : decode cX5_solve 99 = .ok (.iaload, 1) := by decide +kernel
theorem dX5_solve_100 : decode cX5_solve 100 = .ok (.ifCond .ne 7, 3) := by decide +kernel
theorem dX5_solve_103 : decode cX5_solve 103 = .ok (.iconst 0, 1) := by decide +kernel
theorem dX5_solve_104 : decode cX5_solve 104 = .ok (.goto 4, 3) := by decide +kernel
theorem dX5_solve_107 : decode cX5_solve 107 = .ok (.iconst 1, 1) := by decide +kernel
theorem dX5_solve_108 : decode cX5_solve 108 = .ok (.iadd, 1) := by decide +kernel
theorem dX5_solve_109 : decode cX5_solve 109 = .ok (.istore_n 1, 1) := by decide +kernel
theorem dX5_solve_110 : decode cX5_solve 110 = .ok (.iinc 2 1, 3) := by decide +kernel
theorem dX5_solve_113 : decode cX5_solve 113 = .ok (.goto (-45), 3) := by decide +kernel
theorem dX5_solve_116 : decode cX5_solve 116 = .ok (.aload_n 0, 1) := by decide +kernel
theorem dX5_solve_117 : decode cX5_solve 117 = .ok (.iconst 1, 1) := by decide +kernel
theorem dX5_solve_118 : decode cX5_solve 118 = .ok (.putfield 69, 3) := by decide +kernel
theorem dX5_solve_121 : decode cX5_solve 121 = .ok (.iload_n 1, 1) := by decide +kernel
theorem dX5_solve_122 : decode cX5_solve 122 = .ok (.ireturn, 1) := by decide +kernel
theorem dX5_component_0 : decode cX5_component 0 = .ok (.aload_n 0, 1) := by decide +kernel
theorem dX5_component_1 : decode cX5_component 1 = .ok (.aload_n 0, 1) := by decide +kernel
theorem dX5_component_2 : decode cX5_component 2 = .ok (.iload_n 1, 1) := by decide +kernel
theorem dX5_component_3 : decode cX5_component 3 = .ok (.invokevirtual 76, 3) := by decide +kernel
theorem dX5_component_6 : decode cX5_component 6 = .ok (.ifCond .ne 7, 3) := by decide +kernel
theorem dX5_component_9 : decode cX5_component 9 = .ok (.iconst 1, 1) := by decide +kernel
theorem dX5_component_10 : decode cX5_component 10 = .ok (.goto 15, 3) := by decide +kernel
theorem dX5_component_13 : decode cX5_component 13 = .ok (.aload_n 0, 1) := by decide +kernel
theorem dX5_component_14 : decode cX5_component 14 = .ok (.getfield 69, 3) := by decide +kernel
theorem dX5_component_17 : decode cX5_component 17 = .ok (.ifCond .ne 7, 3) := by decide +kernel
theorem dX5_component_20 : decode cX5_component 20 = .ok (.iconst 2, 1) := by decide +kernel
theorem dX5_component_21 : decode cX5_component 21 = .ok (.goto 4, 3) := by decide +kernel
theorem dX5_component_24 : decode cX5_component 24 = .ok (.iconst 0, 1) := by decide +kernel
theorem dX5_component_25 : decode cX5_component 25 = .ok (.putfield 51, 3) := by decide +kernel
theorem dX5_component_28 : decode cX5_component 28 = .ok (.aload_n 0, 1) := by decide +kernel
theorem dX5_component_29 : decode cX5_component 29 = .ok (.getfield 51, 3) := by decide +kernel
theorem dX5_component_32 : decode cX5_component 32 = .ok (.ifCond .ne 12, 3) := by decide +kernel
theorem dX5_component_35 : decode cX5_component 35 = .ok (.aload_n 0, 1) := by decide +kernel
theorem dX5_component_36 : decode cX5_component 36 = .ok (.getfield 35, 3) := by decide +kernel
theorem dX5_component_39 : decode cX5_component 39 = .ok (.iload_n 1, 1) := by decide +kernel
theorem dX5_component_40 : decode cX5_component 40 = .ok (.iaload, 1) := by decide +kernel
theorem dX5_component_41 : decode cX5_component 41 = .ok (.goto 4, 3) := by decide +kernel
theorem dX5_component_44 : decode cX5_component 44 = .ok (.iconst 0, 1) := by decide +kernel
theorem dX5_component_45 : decode cX5_component 45 = .ok (.ireturn, 1) := by decide +kernel
theorem dX5_inverse_0 : decode cX5_inverse 0 = .ok (.aload_n 0, 1) := by decide +kernel
theorem dX5_inverse_1 : decode cX5_inverse 1 = .ok (.aload_n 0, 1) := by decide +kernel
theorem dX5_inverse_2 : decode cX5_inverse 2 = .ok (.iload_n 1, 1) := by decide +kernel
theorem dX5_inverse_3 : decode cX5_inverse 3 = .ok (.invokevirtual 76, 3) := by decide +kernel
theorem dX5_inverse_6 : decode cX5_inverse 6 = .ok (.ifCond .eq 11, 3) := by decide +kernel
theorem dX5_inverse_9 : decode cX5_inverse 9 = .ok (.aload_n 0, 1) := by decide +kernel
theorem dX5_inverse_10 : decode cX5_inverse 10 = .ok (.iload_n 2, 1) := by decide +kernel
theorem dX5_inverse_11 : decode cX5_inverse 11 = .ok (.invokevirtual 76, 3) := by decide +kernel
theorem dX5_inverse_14 : decode cX5_inverse 14 = .ok (.ifCond .ne 7, 3) := by decide +kernel
theorem dX5_inverse_17 : decode cX5_inverse 17 = .ok (.iconst 1, 1) := by decide +kernel
theorem dX5_inverse_18 : decode cX5_inverse 18 = .ok (.goto 15, 3) := by decide +kernel
theorem dX5_inverse_21 : decode cX5_inverse 21 = .ok (.aload_n 0, 1) := by decide +kernel
theorem dX5_inverse_22 : decode cX5_inverse 22 = .ok (.getfield 65, 3) := by decide +kernel
theorem dX5_inverse_25 : decode cX5_inverse 25 = .ok (.ifCond .ne 7, 3) := by decide +kernel
theorem dX5_inverse_28 : decode cX5_inverse 28 = .ok (.iconst 2, 1) := by decide +kernel
theorem dX5_inverse_29 : decode cX5_inverse 29 = .ok (.goto 4, 3) := by decide +kernel
theorem dX5_inverse_32 : decode cX5_inverse 32 = .ok (.iconst 0, 1) := by decide +kernel
theorem dX5_inverse_33 : decode cX5_inverse 33 = .ok (.putfield 51, 3) := by decide +kernel
theorem dX5_inverse_36 : decode cX5_inverse 36 = .ok (.aload_n 0, 1) := by decide +kernel
theorem dX5_inverse_37 : decode cX5_inverse 37 = .ok (.getfield 51, 3) := by decide +kernel
theorem dX5_inverse_40 : decode cX5_inverse 40 = .ok (.ifCond .le 5, 3) := by decide +kernel
theorem dX5_inverse_43 : decode cX5_inverse 43 = .ok (.iconst 0, 1) := by decide +kernel
theorem dX5_inverse_44 : decode cX5_inverse 44 = .ok (.ireturn, 1) := by decide +kernel
theorem dX5_inverse_45 : decode cX5_inverse 45 = .ok (.aload_n 0, 1) := by decide +kernel
theorem dX5_inverse_46 : decode cX5_inverse 46 = .ok (.invokevirtual 100, 3) := by decide +kernel
theorem dX5_inverse_49 : decode cX5_inverse 49 = .ok (.iconst 0, 1) := by decide +kernel
theorem dX5_inverse_50 : decode cX5_inverse 50 = .ok (.istore_n 3, 1) := by decide +kernel
theorem dX5_inverse_51 : decode cX5_inverse 51 = .ok (.iload_n 3, 1) := by decide +kernel
theorem dX5_inverse_52 : decode cX5_inverse 52 = .ok (.aload_n 0, 1) := by decide +kernel
theorem dX5_inverse_53 : decode cX5_inverse 53 = .ok (.getfield 9, 3) := by decide +kernel
theorem dX5_inverse_56 : decode cX5_inverse 56 = .ok (.if_icmp .ge 30, 3) := by decide +kernel
theorem dX5_inverse_59 : decode cX5_inverse 59 = .ok (.aload_n 0, 1) := by decide +kernel
theorem dX5_inverse_60 : decode cX5_inverse 60 = .ok (.getfield 38, 3) := by decide +kernel
theorem dX5_inverse_63 : decode cX5_inverse 63 = .ok (.iload_n 3, 1) := by decide +kernel
theorem dX5_inverse_64 : decode cX5_inverse 64 = .ok (.bipush 16, 2) := by decide +kernel
theorem dX5_inverse_66 : decode cX5_inverse 66 = .ok (.invokestatic 91, 3) := by decide +kernel
theorem dX5_inverse_69 : decode cX5_inverse 69 = .ok (.iload_n 3, 1) := by decide +kernel
theorem dX5_inverse_70 : decode cX5_inverse 70 = .ok (.iload_n 2, 1) := by decide +kernel
theorem dX5_inverse_71 : decode cX5_inverse 71 = .ok (.if_icmp .ne 7, 3) := by decide +kernel
theorem dX5_inverse_74 : decode cX5_inverse 74 = .ok (.iconst 1, 1) := by decide +kernel
theorem dX5_inverse_75 : decode cX5_inverse 75 = .ok (.goto 4, 3) := by decide +kernel
theorem dX5_inverse_78 : decode cX5_inverse 78 = .ok (.iconst 0, 1) := by decide +kernel
theorem dX5_inverse_79 : decode cX5_inverse 79 = .ok (.iastore, 1) := by decide +kernel
theorem dX5_inverse_80 : decode cX5_inverse 80 = .ok (.iinc 3 1, 3) := by decide +kernel
theorem dX5_inverse_83 : decode cX5_inverse 83 = .ok (.goto (-32), 3) := by decide +kernel
theorem dX5_inverse_86 : decode cX5_inverse 86 = .ok (.aload_n 0, 1) := by decide +kernel
theorem dX5_inverse_87 : decode cX5_inverse 87 = .ok (.invokevirtual 103, 3) := by decide +kernel
theorem dX5_inverse_90 : decode cX5_inverse 90 = .ok (.ifCond .ne 7, 3) := by decide +kernel
theorem dX5_inverse_93 : decode cX5_inverse 93 = .ok (.iconst (-1), 1) := by decide +kernel
theorem dX5_inverse_94 : decode cX5_inverse 94 = .ok (.goto 14, 3) := by decide +kernel
theorem dX5_inverse_97 : decode cX5_inverse 97 = .ok (.aload_n 0, 1) := by decide +kernel
theorem dX5_inverse_98 : decode cX5_inverse 98 = .ok (.getfield 38, 3) := by decide +kernel
theorem dX5_inverse_101 : decode cX5_inverse 101 = .ok (.iload_n 1, 1) := by decide +kernel
theorem dX5_inverse_102 : decode cX5_inverse 102 = .ok (.bipush 16, 2) := by decide +kernel
theorem dX5_inverse_104 : decode cX5_inverse 104 = .ok (.invokestatic 91, 3) := by decide +kernel
theorem dX5_inverse_107 : decode cX5_inverse 107 = .ok (.iaload, 1) := by decide +kernel
theorem dX5_inverse_108 : decode cX5_inverse 108 = .ok (.ireturn, 1) := by decide +kernel
theorem dX5_push_0 : decode cX5_push 0 = .ok (.aload_n 0, 1) := by decide +kernel
theorem dX5_push_1 : decode cX5_push 1 = .ok (.iconst 0, 1) := by decide +kernel
theorem dX5_push_2 : decode cX5_push 2 = .ok (.putfield 51, 3) := by decide +kernel
theorem dX5_push_5 : decode cX5_push 5 = .ok (.aload_n 0, 1) := by decide +kernel
theorem dX5_push_6 : decode cX5_push 6 = .ok (.getfield 152, 3) := by decide +kernel
theorem dX5_push_9 : decode cX5_push 9 = .ok (.bipush 6, 2) := by decide +kernel
theorem dX5_push_11 : decode cX5_push 11 = .ok (.if_icmp .ne 9, 3) := by decide +kernel
theorem dX5_push_14 : decode cX5_push 14 = .ok (.aload_n 0, 1) := by decide +kernel
theorem dX5_push_15 : decode cX5_push 15 = .ok (.iconst 1, 1) := by decide +kernel
theorem dX5_push_16 : decode cX5_push 16 = .ok (.invokevirtual 72, 3) := by decide +kernel
theorem dX5_push_19 : decode cX5_push 19 = .ok (.ireturn, 1) := by decide +kernel
theorem dX5_push_20 : decode cX5_push 20 = .ok (.sipush 305, 3) := by decide +kernel
theorem dX5_push_23 : decode cX5_push 23 = .ok (.aload_n 0, 1) := by decide +kernel
theorem dX5_push_24 : decode cX5_push 24 = .ok (.getfield 152, 3) := by decide +kernel
theorem dX5_push_27 : decode cX5_push 27 = .ok (.imul, 1) := by decide +kernel
theorem dX5_push_28 : decode cX5_push 28 = .ok (.istore_n 1, 1) := by decide +kernel
theorem dX5_push_29 : decode cX5_push 29 = .ok (.aload_n 0, 1) := by decide +kernel
theorem dX5_push_30 : decode cX5_push 30 = .ok (.getfield 45, 3) := by decide +kernel
theorem dX5_push_33 : decode cX5_push 33 = .ok (.iload_n 1, 1) := by decide +kernel
theorem dX5_push_34 : decode cX5_push 34 = .ok (.aload_n 0, 1) := by decide +kernel
theorem dX5_push_35 : decode cX5_push 35 = .ok (.getfield 9, 3) := by decide +kernel
theorem dX5_push_38 : decode cX5_push 38 = .ok (.iastore, 1) := by decide +kernel
theorem dX5_push_39 : decode cX5_push 39 = .ok (.iconst 0, 1) := by decide +kernel
theorem dX5_push_40 : decode cX5_push 40 = .ok (.istore_n 2, 1) := by decide +kernel
theorem dX5_push_41 : decode cX5_push 41 = .ok (.iload_n 2, 1) := by decide +kernel
theorem dX5_push_42 : decode cX5_push 42 = .ok (.bipush 16, 2) := by decide +kernel
theorem dX5_push_44 : decode cX5_push 44 = .ok (.if_icmp .ge 63, 3) := by decide +kernel
theorem dX5_push_47 : decode cX5_push 47 = .ok (.aload_n 0, 1) := by decide +kernel
theorem dX5_push_48 : decode cX5_push 48 = .ok (.getfield 45, 3) := by decide +kernel
theorem dX5_push_51 : decode cX5_push 51 = .ok (.iload_n 1, 1) := by decide +kernel
theorem dX5_push_52 : decode cX5_push 52 = .ok (.iconst 1, 1) := by decide +kernel
theorem dX5_push_53 : decode cX5_push 53 = .ok (.iadd, 1) := by decide +kernel
theorem dX5_push_54 : decode cX5_push 54 = .ok (.iload_n 2, 1) := by decide +kernel
theorem dX5_push_55 : decode cX5_push 55 = .ok (.iadd, 1) := by decide +kernel
theorem dX5_push_56 : decode cX5_push 56 = .ok (.aload_n 0, 1) := by decide +kernel
theorem dX5_push_57 : decode cX5_push 57 = .ok (.getfield 17, 3) := by decide +kernel
theorem dX5_push_60 : decode cX5_push 60 = .ok (.iload_n 2, 1) := by decide +kernel
theorem dX5_push_61 : decode cX5_push 61 = .ok (.iaload, 1) := by decide +kernel
theorem dX5_push_62 : decode cX5_push 62 = .ok (.iastore, 1) := by decide +kernel
theorem dX5_push_63 : decode cX5_push 63 = .ok (.aload_n 0, 1) := by decide +kernel
theorem dX5_push_64 : decode cX5_push 64 = .ok (.getfield 45, 3) := by decide +kernel
theorem dX5_push_67 : decode cX5_push 67 = .ok (.iload_n 1, 1) := by decide +kernel
theorem dX5_push_68 : decode cX5_push 68 = .ok (.iconst 1, 1) := by decide +kernel
theorem dX5_push_69 : decode cX5_push 69 = .ok (.iadd, 1) := by decide +kernel
theorem dX5_push_70 : decode cX5_push 70 = .ok (.bipush 16, 2) := by decide +kernel
theorem dX5_push_72 : decode cX5_push 72 = .ok (.iadd, 1) := by decide +kernel
theorem dX5_push_73 : decode cX5_push 73 = .ok (.iload_n 2, 1) := by decide +kernel
theorem dX5_push_74 : decode cX5_push 74 = .ok (.iadd, 1) := by decide +kernel
theorem dX5_push_75 : decode cX5_push 75 = .ok (.aload_n 0, 1) := by decide +kernel
theorem dX5_push_76 : decode cX5_push 76 = .ok (.getfield 23, 3) := by decide +kernel
theorem dX5_push_79 : decode cX5_push 79 = .ok (.iload_n 2, 1) := by decide +kernel
theorem dX5_push_80 : decode cX5_push 80 = .ok (.iaload, 1) := by decide +kernel
theorem dX5_push_81 : decode cX5_push 81 = .ok (.iastore, 1) := by decide +kernel
theorem dX5_push_82 : decode cX5_push 82 = .ok (.aload_n 0, 1) := by decide +kernel
theorem dX5_push_83 : decode cX5_push 83 = .ok (.getfield 45, 3) := by decide +kernel
theorem dX5_push_86 : decode cX5_push 86 = .ok (.iload_n 1, 1) := by decide +kernel
theorem dX5_push_87 : decode cX5_push 87 = .ok (.iconst 1, 1) := by decide +kernel
theorem dX5_push_88 : decode cX5_push 88 = .ok (.iadd, 1) := by decide +kernel
theorem dX5_push_89 : decode cX5_push 89 = .ok (.bipush 32, 2) := by decide +kernel
theorem dX5_push_91 : decode cX5_push 91 = .ok (.iadd, 1) := by decide +kernel
theorem dX5_push_92 : decode cX5_push 92 = .ok (.iload_n 2, 1) := by decide +kernel
theorem dX5_push_93 : decode cX5_push 93 = .ok (.iadd, 1) := by decide +kernel
theorem dX5_push_94 : decode cX5_push 94 = .ok (.aload_n 0, 1) := by decide +kernel
theorem dX5_push_95 : decode cX5_push 95 = .ok (.getfield 26, 3) := by decide +kernel
theorem dX5_push_98 : decode cX5_push 98 = .ok (.iload_n 2, 1) := by decide +kernel
theorem dX5_push_99 : decode cX5_push 99 = .ok (.iaload, 1) := by decide +kernel
theorem dX5_push_100 : decode cX5_push 100 = .ok (.iastore, 1) := by decide +kernel
theorem dX5_push_101 : decode cX5_push 101 = .ok (.iinc 2 1, 3) := by decide +kernel
theorem dX5_push_104 : decode cX5_push 104 = .ok (.goto (-63), 3) := by decide +kernel
theorem dX5_push_107 : decode cX5_push 107 = .ok (.iconst 0, 1) := by decide +kernel
theorem dX5_push_108 : decode cX5_push 108 = .ok (.istore_n 2, 1) := by decide +kernel
theorem dX5_push_109 : decode cX5_push 109 = .ok (.iload_n 2, 1) := by decide +kernel
theorem dX5_push_110 : decode cX5_push 110 = .ok (.sipush 256, 3) := by decide +kernel
theorem dX5_push_113 : decode cX5_push 113 = .ok (.if_icmp .ge 28, 3) := by decide +kernel
theorem dX5_push_116 : decode cX5_push 116 = .ok (.aload_n 0, 1) := by decide +kernel
theorem dX5_push_117 : decode cX5_push 117 = .ok (.getfield 45, 3) := by decide +kernel
theorem dX5_push_120 : decode cX5_push 120 = .ok (.iload_n 1, 1) := by decide +kernel
theorem dX5_push_121 : decode cX5_push 121 = .ok (.iconst 1, 1) := by decide +kernel
theorem dX5_push_122 : decode cX5_push 122 = .ok (.iadd, 1) := by decide +kernel
theorem dX5_push_123 : decode cX5_push 123 = .ok (.bipush 48, 2) := by decide +kernel
theorem dX5_push_125 : decode cX5_push 125 = .ok (.iadd, 1) := by decide +kernel
theorem dX5_push_126 : decode cX5_push 126 = .ok (.iload_n 2, 1) := by decide +kernel
theorem dX5_push_127 : decode cX5_push 127 = .ok (.iadd, 1) := by decide +kernel
theorem dX5_push_128 : decode cX5_push 128 = .ok (.aload_n 0, 1) := by decide +kernel
theorem dX5_push_129 : decode cX5_push 129 = .ok (.getfield 13, 3) := by decide +kernel
theorem dX5_push_132 : decode cX5_push 132 = .ok (.iload_n 2, 1) := by decide +kernel
theorem dX5_push_133 : decode cX5_push 133 = .ok (.iaload, 1) := by decide +kernel
theorem dX5_push_134 : decode cX5_push 134 = .ok (.iastore, 1) := by decide +kernel
theorem dX5_push_135 : decode cX5_push 135 = .ok (.iinc 2 1, 3) := by decide +kernel
theorem dX5_push_138 : decode cX5_push 138 = .ok (.goto (-29), 3) := by decide +kernel
theorem dX5_push_141 : decode cX5_push 141 = .ok (.aload_n 0, 1) := by decide +kernel
theorem dX5_push_142 : decode cX5_push 142 = .ok (.dup, 1) := by decide +kernel
theorem dX5_push_143 : decode cX5_push 143 = .ok (.getfield 152, 3) := by decide +kernel
theorem dX5_push_146 : decode cX5_push 146 = .ok (.iconst 1, 1) := by decide +kernel
theorem dX5_push_147 : decode cX5_push 147 = .ok (.iadd, 1) := by decide +kernel
theorem dX5_push_148 : decode cX5_push 148 = .ok (.putfield 152, 3) := by decide +kernel
theorem dX5_push_151 : decode cX5_push 151 = .ok (.aload_n 0, 1) := by decide +kernel
theorem dX5_push_152 : decode cX5_push 152 = .ok (.getfield 152, 3) := by decide +kernel
theorem dX5_push_155 : decode cX5_push 155 = .ok (.ireturn, 1) := by decide +kernel
theorem dX5_pop_0 : decode cX5_pop 0 = .ok (.aload_n 0, 1) := by decide +kernel
theorem dX5_pop_1 : decode cX5_pop 1 = .ok (.iconst 0, 1) := by decide +kernel
theorem dX5_pop_2 : decode cX5_pop 2 = .ok (.putfield 51, 3) := by decide +kernel
theorem dX5_pop_5 : decode cX5_pop 5 = .ok (.aload_n 0, 1) := by decide +kernel
theorem dX5_pop_6 : decode cX5_pop 6 = .ok (.getfield 152, 3) := by decide +kernel
theorem dX5_pop_9 : decode cX5_pop 9 = .ok (.ifCond .ne 9, 3) := by decide +kernel
theorem dX5_pop_12 : decode cX5_pop 12 = .ok (.aload_n 0, 1) := by decide +kernel
theorem dX5_pop_13 : decode cX5_pop 13 = .ok (.iconst 1, 1) := by decide +kernel
theorem dX5_pop_14 : decode cX5_pop 14 = .ok (.invokevirtual 72, 3) := by decide +kernel
theorem dX5_pop_17 : decode cX5_pop 17 = .ok (.ireturn, 1) := by decide +kernel
theorem dX5_pop_18 : decode cX5_pop 18 = .ok (.aload_n 0, 1) := by decide +kernel
theorem dX5_pop_19 : decode cX5_pop 19 = .ok (.dup, 1) := by decide +kernel
theorem dX5_pop_20 : decode cX5_pop 20 = .ok (.getfield 152, 3) := by decide +kernel
theorem dX5_pop_23 : decode cX5_pop 23 = .ok (.iconst 1, 1) := by decide +kernel
theorem dX5_pop_24 : decode cX5_pop 24 = .ok (.isub, 1) := by decide +kernel
theorem dX5_pop_25 : decode cX5_pop 25 = .ok (.putfield 152, 3) := by decide +kernel
theorem dX5_pop_28 : decode cX5_pop 28 = .ok (.sipush 305, 3) := by decide +kernel
theorem dX5_pop_31 : decode cX5_pop 31 = .ok (.aload_n 0, 1) := by decide +kernel
theorem dX5_pop_32 : decode cX5_pop 32 = .ok (.getfield 152, 3) := by decide +kernel
theorem dX5_pop_35 : decode cX5_pop 35 = .ok (.imul, 1) := by decide +kernel
theorem dX5_pop_36 : decode cX5_pop 36 = .ok (.istore_n 1, 1) := by decide +kernel
theorem dX5_pop_37 : decode cX5_pop 37 = .ok (.aload_n 0, 1) := by decide +kernel
theorem dX5_pop_38 : decode cX5_pop 38 = .ok (.aload_n 0, 1) := by decide +kernel
theorem dX5_pop_39 : decode cX5_pop 39 = .ok (.getfield 45, 3) := by decide +kernel
theorem dX5_pop_42 : decode cX5_pop 42 = .ok (.iload_n 1, 1) := by decide +kernel
theorem dX5_pop_43 : decode cX5_pop 43 = .ok (.iaload, 1) := by decide +kernel
theorem dX5_pop_44 : decode cX5_pop 44 = .ok (.putfield 9, 3) := by decide +kernel
theorem dX5_pop_47 : decode cX5_pop 47 = .ok (.iconst 0, 1) := by decide +kernel
theorem dX5_pop_48 : decode cX5_pop 48 = .ok (.istore_n 2, 1) := by decide +kernel
theorem dX5_pop_49 : decode cX5_pop 49 = .ok (.iload_n 2, 1) := by decide +kernel
theorem dX5_pop_50 : decode cX5_pop 50 = .ok (.bipush 16, 2) := by decide +kernel
theorem dX5_pop_52 : decode cX5_pop 52 = .ok (.if_icmp .ge 75, 3) := by decide +kernel
theorem dX5_pop_55 : decode cX5_pop 55 = .ok (.aload_n 0, 1) := by decide +kernel
theorem dX5_pop_56 : decode cX5_pop 56 = .ok (.getfield 17, 3) := by decide +kernel
theorem dX5_pop_59 : decode cX5_pop 59 = .ok (.iload_n 2, 1) := by decide +kernel
theorem dX5_pop_60 : decode cX5_pop 60 = .ok (.aload_n 0, 1) := by decide +kernel
theorem dX5_pop_61 : decode cX5_pop 61 = .ok (.getfield 45, 3) := by decide +kernel
theorem dX5_pop_64 : decode cX5_pop 64 = .ok (.iload_n 1, 1) := by decide +kernel
theorem dX5_pop_65 : decode cX5_pop 65 = .ok (.iconst 1, 1) := by decide +kernel
theorem dX5_pop_66 : decode cX5_pop 66 = .ok (.iadd, 1) := by decide +kernel
theorem dX5_pop_67 : decode cX5_pop 67 = .ok (.iload_n 2, 1) := by decide +kernel
theorem dX5_pop_68 : decode cX5_pop 68 = .ok (.iadd, 1) := by decide +kernel
theorem dX5_pop_69 : decode cX5_pop 69 = .ok (.iaload, 1) := by decide +kernel
theorem dX5_pop_70 : decode cX5_pop 70 = .ok (.iastore, 1) := by decide +kernel
theorem dX5_pop_71 : decode cX5_pop 71 = .ok (.aload_n 0, 1) := by decide +kernel
theorem dX5_pop_72 : decode cX5_pop 72 = .ok (.getfield 20, 3) := by decide +kernel
theorem dX5_pop_75 : decode cX5_pop 75 = .ok (.aload_n 0, 1) := by decide +kernel
theorem dX5_pop_76 : decode cX5_pop 76 = .ok (.getfield 17, 3) := by decide +kernel
theorem dX5_pop_79 : decode cX5_pop 79 = .ok (.iload_n 2, 1) := by decide +kernel
theorem dX5_pop_80 : decode cX5_pop 80 = .ok (.iaload, 1) := by decide +kernel
theorem dX5_pop_81 : decode cX5_pop 81 = .ok (.iload_n 2, 1) := by decide +kernel
theorem dX5_pop_82 : decode cX5_pop 82 = .ok (.iastore, 1) := by decide +kernel
theorem dX5_pop_83 : decode cX5_pop 83 = .ok (.aload_n 0, 1) := by decide +kernel
theorem dX5_pop_84 : decode cX5_pop 84 = .ok (.getfield 23, 3) := by decide +kernel
theorem dX5_pop_87 : decode cX5_pop 87 = .ok (.iload_n 2, 1) := by decide +kernel
theorem dX5_pop_88 : decode cX5_pop 88 = .ok (.aload_n 0, 1) := by decide +kernel
theorem dX5_pop_89 : decode cX5_pop 89 = .ok (.getfield 45, 3) := by decide +kernel
theorem dX5_pop_92 : decode cX5_pop 92 = .ok (.iload_n 1, 1) := by decide +kernel
theorem dX5_pop_93 : decode cX5_pop 93 = .ok (.iconst 1, 1) := by decide +kernel
theorem dX5_pop_94 : decode cX5_pop 94 = .ok (.iadd, 1) := by decide +kernel
theorem dX5_pop_95 : decode cX5_pop 95 = .ok (.bipush 16, 2) := by decide +kernel
theorem dX5_pop_97 : decode cX5_pop 97 = .ok (.iadd, 1) := by decide +kernel
theorem dX5_pop_98 : decode cX5_pop 98 = .ok (.iload_n 2, 1) := by decide +kernel
theorem dX5_pop_99 : decode cX5_pop 99 = .ok (.iadd, 1) := by decide +kernel
theorem dX5_pop_100 : decode cX5_pop 100 = .ok (.iaload, 1) := by decide +kernel
theorem dX5_pop_101 : decode cX5_pop 101 = .ok (.iastore, 1) := by decide +kernel
theorem dX5_pop_102 : decode cX5_pop 102 = .ok (.aload_n 0, 1) := by decide +kernel
theorem dX5_pop_103 : decode cX5_pop 103 = .ok (.getfield 26, 3) := by decide +kernel
theorem dX5_pop_106 : decode cX5_pop 106 = .ok (.iload_n 2, 1) := by decide +kernel
theorem dX5_pop_107 : decode cX5_pop 107 = .ok (.aload_n 0, 1) := by decide +kernel
theorem dX5_pop_108 : decode cX5_pop 108 = .ok (.getfield 45, 3) := by decide +kernel
theorem dX5_pop_111 : decode cX5_pop 111 = .ok (.iload_n 1, 1) := by decide +kernel
theorem dX5_pop_112 : decode cX5_pop 112 = .ok (.iconst 1, 1) := by decide +kernel
theorem dX5_pop_113 : decode cX5_pop 113 = .ok (.iadd, 1) := by decide +kernel
theorem dX5_pop_114 : decode cX5_pop 114 = .ok (.bipush 32, 2) := by decide +kernel
theorem dX5_pop_116 : decode cX5_pop 116 = .ok (.iadd, 1) := by decide +kernel
theorem dX5_pop_117 : decode cX5_pop 117 = .ok (.iload_n 2, 1) := by decide +kernel
theorem dX5_pop_118 : decode cX5_pop 118 = .ok (.iadd, 1) := by decide +kernel
theorem dX5_pop_119 : decode cX5_pop 119 = .ok (.iaload, 1) := by decide +kernel
theorem dX5_pop_120 : decode cX5_pop 120 = .ok (.iastore, 1) := by decide +kernel
theorem dX5_pop_121 : decode cX5_pop 121 = .ok (.iinc 2 1, 3) := by decide +kernel
theorem dX5_pop_124 : decode cX5_pop 124 = .ok (.goto (-75), 3) := by decide +kernel
theorem dX5_pop_127 : decode cX5_pop 127 = .ok (.iconst 0, 1) := by decide +kernel
theorem dX5_pop_128 : decode cX5_pop 128 = .ok (.istore_n 2, 1) := by decide +kernel
theorem dX5_pop_129 : decode cX5_pop 129 = .ok (.iload_n 2, 1) := by decide +kernel
theorem dX5_pop_130 : decode cX5_pop 130 = .ok (.sipush 256, 3) := by decide +kernel
theorem dX5_pop_133 : decode cX5_pop 133 = .ok (.if_icmp .ge 28, 3) := by decide +kernel
theorem dX5_pop_136 : decode cX5_pop 136 = .ok (.aload_n 0, 1) := by decide +kernel
theorem dX5_pop_137 : decode cX5_pop 137 = .ok (.getfield 13, 3) := by decide +kernel
theorem dX5_pop_140 : decode cX5_pop 140 = .ok (.iload_n 2, 1) := by decide +kernel
theorem dX5_pop_141 : decode cX5_pop 141 = .ok (.aload_n 0, 1) := by decide +kernel
theorem dX5_pop_142 : decode cX5_pop 142 = .ok (.getfield 45, 3) := by decide +kernel
theorem dX5_pop_145 : decode cX5_pop 145 = .ok (.iload_n 1, 1) := by decide +kernel
theorem dX5_pop_146 : decode cX5_pop 146 = .ok (.iconst 1, 1) := by decide +kernel
theorem dX5_pop_147 : decode cX5_pop 147 = .ok (.iadd, 1) := by decide +kernel
theorem dX5_pop_148 : decode cX5_pop 148 = .ok (.bipush 48, 2) := by decide +kernel
theorem dX5_pop_150 : decode cX5_pop 150 = .ok (.iadd, 1) := by decide +kernel
theorem dX5_pop_151 : decode cX5_pop 151 = .ok (.iload_n 2, 1) := by decide +kernel
theorem dX5_pop_152 : decode cX5_pop 152 = .ok (.iadd, 1) := by decide +kernel
theorem dX5_pop_153 : decode cX5_pop 153 = .ok (.iaload, 1) := by decide +kernel
theorem dX5_pop_154 : decode cX5_pop 154 = .ok (.iastore, 1) := by decide +kernel
theorem dX5_pop_155 : decode cX5_pop 155 = .ok (.iinc 2 1, 3) := by decide +kernel
theorem dX5_pop_158 : decode cX5_pop 158 = .ok (.goto (-29), 3) := by decide +kernel
theorem dX5_pop_161 : decode cX5_pop 161 = .ok (.aload_n 0, 1) := by decide +kernel
theorem dX5_pop_162 : decode cX5_pop 162 = .ok (.iconst 0, 1) := by decide +kernel
theorem dX5_pop_163 : decode cX5_pop 163 = .ok (.putfield 65, 3) := by decide +kernel
theorem dX5_pop_166 : decode cX5_pop 166 = .ok (.aload_n 0, 1) := by decide +kernel
theorem dX5_pop_167 : decode cX5_pop 167 = .ok (.iconst 0, 1) := by decide +kernel
theorem dX5_pop_168 : decode cX5_pop 168 = .ok (.putfield 69, 3) := by decide +kernel
theorem dX5_pop_171 : decode cX5_pop 171 = .ok (.aload_n 0, 1) := by decide +kernel
theorem dX5_pop_172 : decode cX5_pop 172 = .ok (.getfield 152, 3) := by decide +kernel
theorem dX5_pop_175 : decode cX5_pop 175 = .ok (.ireturn, 1) := by decide +kernel
theorem dX5_digest_0 : decode cX5_digest 0 = .ok (.aload_n 0, 1) := by decide +kernel
theorem dX5_digest_1 : decode cX5_digest 1 = .ok (.iconst 0, 1) := by decide +kernel
theorem dX5_digest_2 : decode cX5_digest 2 = .ok (.putfield 51, 3) := by decide +kernel
theorem dX5_digest_5 : decode cX5_digest 5 = .ok (.ldc2_w 155, 3) := by decide +kernel
theorem dX5_digest_8 : decode cX5_digest 8 = .ok (.aload_n 0, 1) := by decide +kernel
theorem dX5_digest_9 : decode cX5_digest 9 = .ok (.getfield 9, 3) := by decide +kernel
theorem dX5_digest_12 : decode cX5_digest 12 = .ok (.i2l, 1) := by decide +kernel
theorem dX5_digest_13 : decode cX5_digest 13 = .ok (.ladd, 1) := by decide +kernel
theorem dX5_digest_14 : decode cX5_digest 14 = .ok (.lstore_n 1, 1) := by decide +kernel
theorem dX5_digest_15 : decode cX5_digest 15 = .ok (.iconst 0, 1) := by decide +kernel
theorem dX5_digest_16 : decode cX5_digest 16 = .ok (.istore_n 3, 1) := by decide +kernel
theorem dX5_digest_17 : decode cX5_digest 17 = .ok (.iload_n 3, 1) := by decide +kernel
theorem dX5_digest_18 : decode cX5_digest 18 = .ok (.aload_n 0, 1) := by decide +kernel
theorem dX5_digest_19 : decode cX5_digest 19 = .ok (.getfield 9, 3) := by decide +kernel
theorem dX5_digest_22 : decode cX5_digest 22 = .ok (.if_icmp .ge 81, 3) := by decide +kernel
theorem dX5_digest_25 : decode cX5_digest 25 = .ok (.iconst 0, 1) := by decide +kernel
theorem dX5_digest_26 : decode cX5_digest 26 = .ok (.istore 4, 2) := by decide +kernel
theorem dX5_digest_28 : decode cX5_digest 28 = .ok (.iload 4, 2) := by decide +kernel
theorem dX5_digest_30 : decode cX5_digest 30 = .ok (.iload_n 3, 1) := by decide +kernel
theorem dX5_digest_31 : decode cX5_digest 31 = .ok (.if_icmp .gt 28, 3) := by decide +kernel
theorem dX5_digest_34 : decode cX5_digest 34 = .ok (.lload_n 1, 1) := by decide +kernel
theorem dX5_digest_35 : decode cX5_digest 35 = .ok (.ldc2_w 157, 3) := by decide +kernel
theorem dX5_digest_38 : decode cX5_digest 38 = .ok (.lmul, 1) := by decide +kernel
theorem dX5_digest_39 : decode cX5_digest 39 = .ok (.aload_n 0, 1) := by decide +kernel
theorem dX5_digest_40 : decode cX5_digest 40 = .ok (.getfield 13, 3) := by decide +kernel
theorem dX5_digest_43 : decode cX5_digest 43 = .ok (.iload_n 3, 1) := by decide +kernel
theorem dX5_digest_44 : decode cX5_digest 44 = .ok (.iload 4, 2) := by decide +kernel
theorem dX5_digest_46 : decode cX5_digest 46 = .ok (.invokestatic 62, 3) := by decide +kernel
theorem dX5_digest_49 : decode cX5_digest 49 = .ok (.iaload, 1) := by decide +kernel
theorem dX5_digest_50 : decode cX5_digest 50 = .ok (.i2l, 1) := by decide +kernel
theorem dX5_digest_51 : decode cX5_digest 51 = .ok (.ladd, 1) := by decide +kernel
theorem dX5_digest_52 : decode cX5_digest 52 = .ok (.lstore_n 1, 1) := by decide +kernel
theorem dX5_digest_53 : decode cX5_digest 53 = .ok (.iinc 4 1, 3) := by decide +kernel
theorem dX5_digest_56 : decode cX5_digest 56 = .ok (.goto (-28), 3) := by decide +kernel
theorem dX5_digest_59 : decode cX5_digest 59 = .ok (.lload_n 1, 1) := by decide +kernel
theorem dX5_digest_60 : decode cX5_digest 60 = .ok (.ldc2_w 157, 3) := by decide +kernel
theorem dX5_digest_63 : decode cX5_digest 63 = .ok (.lmul, 1) := by decide +kernel
theorem dX5_digest_64 : decode cX5_digest 64 = .ok (.aload_n 0, 1) := by decide +kernel
theorem dX5_digest_65 : decode cX5_digest 65 = .ok (.getfield 20, 3) := by decide +kernel
theorem dX5_digest_68 : decode cX5_digest 68 = .ok (.iload_n 3, 1) := by decide +kernel
theorem dX5_digest_69 : decode cX5_digest 69 = .ok (.iaload, 1) := by decide +kernel
theorem dX5_digest_70 : decode cX5_digest 70 = .ok (.i2l, 1) := by decide +kernel
theorem dX5_digest_71 : decode cX5_digest 71 = .ok (.ladd, 1) := by decide +kernel
theorem dX5_digest_72 : decode cX5_digest 72 = .ok (.ldc2_w 157, 3) := by decide +kernel
theorem dX5_digest_75 : decode cX5_digest 75 = .ok (.lmul, 1) := by decide +kernel
theorem dX5_digest_76 : decode cX5_digest 76 = .ok (.aload_n 0, 1) := by decide +kernel
theorem dX5_digest_77 : decode cX5_digest 77 = .ok (.getfield 23, 3) := by decide +kernel
theorem dX5_digest_80 : decode cX5_digest 80 = .ok (.iload_n 3, 1) := by decide +kernel
theorem dX5_digest_81 : decode cX5_digest 81 = .ok (.iaload, 1) := by decide +kernel
theorem dX5_digest_82 : decode cX5_digest 82 = .ok (.i2l, 1) := by decide +kernel
theorem dX5_digest_83 : decode cX5_digest 83 = .ok (.ladd, 1) := by decide +kernel
theorem dX5_digest_84 : decode cX5_digest 84 = .ok (.ldc2_w 157, 3) := by decide +kernel
theorem dX5_digest_87 : decode cX5_digest 87 = .ok (.lmul, 1) := by decide +kernel
theorem dX5_digest_88 : decode cX5_digest 88 = .ok (.aload_n 0, 1) := by decide +kernel
theorem dX5_digest_89 : decode cX5_digest 89 = .ok (.getfield 26, 3) := by decide +kernel
theorem dX5_digest_92 : decode cX5_digest 92 = .ok (.iload_n 3, 1) := by decide +kernel
theorem dX5_digest_93 : decode cX5_digest 93 = .ok (.iaload, 1) := by decide +kernel
theorem dX5_digest_94 : decode cX5_digest 94 = .ok (.i2l, 1) := by decide +kernel
theorem dX5_digest_95 : decode cX5_digest 95 = .ok (.ladd, 1) := by decide +kernel
theorem dX5_digest_96 : decode cX5_digest 96 = .ok (.lstore_n 1, 1) := by decide +kernel
theorem dX5_digest_97 : decode cX5_digest 97 = .ok (.iinc 3 1, 3) := by decide +kernel
theorem dX5_digest_100 : decode cX5_digest 100 = .ok (.goto (-83), 3) := by decide +kernel
theorem dX5_digest_103 : decode cX5_digest 103 = .ok (.lload_n 1, 1) := by decide +kernel
theorem dX5_digest_104 : decode cX5_digest 104 = .ok (.ldc2_w 157, 3) := by decide +kernel
theorem dX5_digest_107 : decode cX5_digest 107 = .ok (.lmul, 1) := by decide +kernel
theorem dX5_digest_108 : decode cX5_digest 108 = .ok (.aload_n 0, 1) := by decide +kernel
theorem dX5_digest_109 : decode cX5_digest 109 = .ok (.getfield 152, 3) := by decide +kernel
theorem dX5_digest_112 : decode cX5_digest 112 = .ok (.i2l, 1) := by decide +kernel
theorem dX5_digest_113 : decode cX5_digest 113 = .ok (.ladd, 1) := by decide +kernel
theorem dX5_digest_114 : decode cX5_digest 114 = .ok (.ldc2_w 157, 3) := by decide +kernel
theorem dX5_digest_117 : decode cX5_digest 117 = .ok (.lmul, 1) := by decide +kernel
theorem dX5_digest_118 : decode cX5_digest 118 = .ok (.aload_n 0, 1) := by decide +kernel
theorem dX5_digest_119 : decode cX5_digest 119 = .ok (.getfield 65, 3) := by decide +kernel
theorem dX5_digest_122 : decode cX5_digest 122 = .ok (.ifCond .eq 7, 3) := by decide +kernel
theorem dX5_digest_125 : decode cX5_digest 125 = .ok (.lconst 1, 1) := by decide +kernel
theorem dX5_digest_126 : decode cX5_digest 126 = .ok (.goto 4, 3) := by decide +kernel
theorem dX5_digest_129 : decode cX5_digest 129 = .ok (.lconst 0, 1) := by decide +kernel
theorem dX5_digest_130 : decode cX5_digest 130 = .ok (.ladd, 1) := by decide +kernel
theorem dX5_digest_131 : decode cX5_digest 131 = .ok (.lstore_n 1, 1) := by decide +kernel
theorem dX5_digest_132 : decode cX5_digest 132 = .ok (.iconst 0, 1) := by decide +kernel
theorem dX5_digest_133 : decode cX5_digest 133 = .ok (.istore_n 3, 1) := by decide +kernel
theorem dX5_digest_134 : decode cX5_digest 134 = .ok (.iload_n 3, 1) := by decide +kernel
theorem dX5_digest_135 : decode cX5_digest 135 = .ok (.aload_n 0, 1) := by decide +kernel
theorem dX5_digest_136 : decode cX5_digest 136 = .ok (.getfield 9, 3) := by decide +kernel
theorem dX5_digest_139 : decode cX5_digest 139 = .ok (.if_icmp .ge 30, 3) := by decide +kernel
theorem dX5_digest_142 : decode cX5_digest 142 = .ok (.aload_n 0, 1) := by decide +kernel
theorem dX5_digest_143 : decode cX5_digest 143 = .ok (.getfield 65, 3) := by decide +kernel
theorem dX5_digest_146 : decode cX5_digest 146 = .ok (.ifCond .eq 23, 3) := by decide +kernel
theorem dX5_digest_149 : decode cX5_digest 149 = .ok (.lload_n 1, 1) := by decide +kernel
theorem dX5_digest_150 : decode cX5_digest 150 = .ok (.ldc2_w 157, 3) := by decide +kernel
theorem dX5_digest_153 : decode cX5_digest 153 = .ok (.lmul, 1) := by decide +kernel
theorem dX5_digest_154 : decode cX5_digest 154 = .ok (.aload_n 0, 1) := by decide +kernel
theorem dX5_digest_155 : decode cX5_digest 155 = .ok (.getfield 29, 3) := by decide +kernel
theorem dX5_digest_158 : decode cX5_digest 158 = .ok (.iload_n 3, 1) := by decide +kernel
theorem dX5_digest_159 : decode cX5_digest 159 = .ok (.iaload, 1) := by decide +kernel
theorem dX5_digest_160 : decode cX5_digest 160 = .ok (.i2l, 1) := by decide +kernel
theorem dX5_digest_161 : decode cX5_digest 161 = .ok (.ladd, 1) := by decide +kernel
theorem dX5_digest_162 : decode cX5_digest 162 = .ok (.lstore_n 1, 1) := by decide +kernel
theorem dX5_digest_163 : decode cX5_digest 163 = .ok (.iinc 3 1, 3) := by decide +kernel
theorem dX5_digest_166 : decode cX5_digest 166 = .ok (.goto (-32), 3) := by decide +kernel
theorem dX5_digest_169 : decode cX5_digest 169 = .ok (.lload_n 1, 1) := by decide +kernel
theorem dX5_digest_170 : decode cX5_digest 170 = .ok (.lreturn, 1) := by decide +kernel
theorem dJ6_bitCount_0f7a4_0 : decode cJ6_bitCount_0f7a4 0 = .ok (.iload_n 0, 1) := by decide +kernel
theorem dJ6_bitCount_0f7a4_1 : decode cJ6_bitCount_0f7a4 1 = .ok (.iload_n 0, 1) := by decide +kernel
theorem dJ6_bitCount_0f7a4_2 : decode cJ6_bitCount_0f7a4 2 = .ok (.iconst 1, 1) := by decide +kernel
theorem dJ6_bitCount_0f7a4_3 : decode cJ6_bitCount_0f7a4 3 = .ok (.iushr, 1) := by decide +kernel
theorem dJ6_bitCount_0f7a4_4 : decode cJ6_bitCount_0f7a4 4 = .ok (.ldc_w 265, 3) := by decide +kernel
theorem dJ6_bitCount_0f7a4_7 : decode cJ6_bitCount_0f7a4 7 = .ok (.iand, 1) := by decide +kernel
theorem dJ6_bitCount_0f7a4_8 : decode cJ6_bitCount_0f7a4 8 = .ok (.isub, 1) := by decide +kernel
theorem dJ6_bitCount_0f7a4_9 : decode cJ6_bitCount_0f7a4 9 = .ok (.istore_n 0, 1) := by decide +kernel
theorem dJ6_bitCount_0f7a4_10 : decode cJ6_bitCount_0f7a4 10 = .ok (.iload_n 0, 1) := by decide +kernel
theorem dJ6_bitCount_0f7a4_11 : decode cJ6_bitCount_0f7a4 11 = .ok (.ldc_w 266, 3) := by decide +kernel
theorem dJ6_bitCount_0f7a4_14 : decode cJ6_bitCount_0f7a4 14 = .ok (.iand, 1) := by decide +kernel
theorem dJ6_bitCount_0f7a4_15 : decode cJ6_bitCount_0f7a4 15 = .ok (.iload_n 0, 1) := by decide +kernel
theorem dJ6_bitCount_0f7a4_16 : decode cJ6_bitCount_0f7a4 16 = .ok (.iconst 2, 1) := by decide +kernel
theorem dJ6_bitCount_0f7a4_17 : decode cJ6_bitCount_0f7a4 17 = .ok (.iushr, 1) := by decide +kernel
theorem dJ6_bitCount_0f7a4_18 : decode cJ6_bitCount_0f7a4 18 = .ok (.ldc_w 266, 3) := by decide +kernel
theorem dJ6_bitCount_0f7a4_21 : decode cJ6_bitCount_0f7a4 21 = .ok (.iand, 1) := by decide +kernel
theorem dJ6_bitCount_0f7a4_22 : decode cJ6_bitCount_0f7a4 22 = .ok (.iadd, 1) := by decide +kernel
theorem dJ6_bitCount_0f7a4_23 : decode cJ6_bitCount_0f7a4 23 = .ok (.istore_n 0, 1) := by decide +kernel
theorem dJ6_bitCount_0f7a4_24 : decode cJ6_bitCount_0f7a4 24 = .ok (.iload_n 0, 1) := by decide +kernel
theorem dJ6_bitCount_0f7a4_25 : decode cJ6_bitCount_0f7a4 25 = .ok (.iload_n 0, 1) := by decide +kernel
theorem dJ6_bitCount_0f7a4_26 : decode cJ6_bitCount_0f7a4 26 = .ok (.iconst 4, 1) := by decide +kernel
theorem dJ6_bitCount_0f7a4_27 : decode cJ6_bitCount_0f7a4 27 = .ok (.iushr, 1) := by decide +kernel
theorem dJ6_bitCount_0f7a4_28 : decode cJ6_bitCount_0f7a4 28 = .ok (.iadd, 1) := by decide +kernel
theorem dJ6_bitCount_0f7a4_29 : decode cJ6_bitCount_0f7a4 29 = .ok (.ldc_w 267, 3) := by decide +kernel
theorem dJ6_bitCount_0f7a4_32 : decode cJ6_bitCount_0f7a4 32 = .ok (.iand, 1) := by decide +kernel
theorem dJ6_bitCount_0f7a4_33 : decode cJ6_bitCount_0f7a4 33 = .ok (.istore_n 0, 1) := by decide +kernel
theorem dJ6_bitCount_0f7a4_34 : decode cJ6_bitCount_0f7a4 34 = .ok (.iload_n 0, 1) := by decide +kernel
theorem dJ6_bitCount_0f7a4_35 : decode cJ6_bitCount_0f7a4 35 = .ok (.iload_n 0, 1) := by decide +kernel
theorem dJ6_bitCount_0f7a4_36 : decode cJ6_bitCount_0f7a4 36 = .ok (.bipush 8, 2) := by decide +kernel
theorem dJ6_bitCount_0f7a4_38 : decode cJ6_bitCount_0f7a4 38 = .ok (.iushr, 1) := by decide +kernel
theorem dJ6_bitCount_0f7a4_39 : decode cJ6_bitCount_0f7a4 39 = .ok (.iadd, 1) := by decide +kernel
theorem dJ6_bitCount_0f7a4_40 : decode cJ6_bitCount_0f7a4 40 = .ok (.istore_n 0, 1) := by decide +kernel
theorem dJ6_bitCount_0f7a4_41 : decode cJ6_bitCount_0f7a4 41 = .ok (.iload_n 0, 1) := by decide +kernel
theorem dJ6_bitCount_0f7a4_42 : decode cJ6_bitCount_0f7a4 42 = .ok (.iload_n 0, 1) := by decide +kernel
theorem dJ6_bitCount_0f7a4_43 : decode cJ6_bitCount_0f7a4 43 = .ok (.bipush 16, 2) := by decide +kernel
theorem dJ6_bitCount_0f7a4_45 : decode cJ6_bitCount_0f7a4 45 = .ok (.iushr, 1) := by decide +kernel
theorem dJ6_bitCount_0f7a4_46 : decode cJ6_bitCount_0f7a4 46 = .ok (.iadd, 1) := by decide +kernel
theorem dJ6_bitCount_0f7a4_47 : decode cJ6_bitCount_0f7a4 47 = .ok (.istore_n 0, 1) := by decide +kernel
theorem dJ6_bitCount_0f7a4_48 : decode cJ6_bitCount_0f7a4 48 = .ok (.iload_n 0, 1) := by decide +kernel
theorem dJ6_bitCount_0f7a4_49 : decode cJ6_bitCount_0f7a4 49 = .ok (.bipush 63, 2) := by decide +kernel
theorem dJ6_bitCount_0f7a4_51 : decode cJ6_bitCount_0f7a4 51 = .ok (.iand, 1) := by decide +kernel
theorem dJ6_bitCount_0f7a4_52 : decode cJ6_bitCount_0f7a4 52 = .ok (.ireturn, 1) := by decide +kernel
theorem dJ9_max_7cf53_0 : decode cJ9_max_7cf53 0 = .ok (.iload_n 0, 1) := by decide +kernel
theorem dJ9_max_7cf53_1 : decode cJ9_max_7cf53 1 = .ok (.iload_n 1, 1) := by decide +kernel
theorem dJ9_max_7cf53_2 : decode cJ9_max_7cf53 2 = .ok (.if_icmp .lt 7, 3) := by decide +kernel
theorem dJ9_max_7cf53_5 : decode cJ9_max_7cf53 5 = .ok (.iload_n 0, 1) := by decide +kernel
theorem dJ9_max_7cf53_6 : decode cJ9_max_7cf53 6 = .ok (.goto 4, 3) := by decide +kernel
theorem dJ9_max_7cf53_9 : decode cJ9_max_7cf53 9 = .ok (.iload_n 1, 1) := by decide +kernel
theorem dJ9_max_7cf53_10 : decode cJ9_max_7cf53 10 = .ok (.ireturn, 1) := by decide +kernel
theorem dJ9_min_7cf53_0 : decode cJ9_min_7cf53 0 = .ok (.iload_n 0, 1) := by decide +kernel
theorem dJ9_min_7cf53_1 : decode cJ9_min_7cf53 1 = .ok (.iload_n 1, 1) := by decide +kernel
theorem dJ9_min_7cf53_2 : decode cJ9_min_7cf53 2 = .ok (.if_icmp .gt 7, 3) := by decide +kernel
theorem dJ9_min_7cf53_5 : decode cJ9_min_7cf53 5 = .ok (.iload_n 0, 1) := by decide +kernel
theorem dJ9_min_7cf53_6 : decode cJ9_min_7cf53 6 = .ok (.goto 4, 3) := by decide +kernel
theorem dJ9_min_7cf53_9 : decode cJ9_min_7cf53 9 = .ok (.iload_n 1, 1) := by decide +kernel
theorem dJ9_min_7cf53_10 : decode cJ9_min_7cf53 10 = .ok (.ireturn, 1) := by decide +kernel
theorem dL_setSize_0 : decode cL_setSize 0 = .ok (.aload_n 2, 1) := by decide +kernel
theorem dL_setSize_1 : decode cL_setSize 1 = .ok (.iconst 0, 1) := by decide +kernel
theorem dL_setSize_2 : decode cL_setSize 2 = .ok (.aload_n 0, 1) := by decide +kernel
theorem dL_setSize_3 : decode cL_setSize 3 = .ok (.iload_n 1, 1) := by decide +kernel
theorem dL_setSize_4 : decode cL_setSize 4 = .ok (.invokevirtual 7, 3) := by decide +kernel
theorem dL_setSize_7 : decode cL_setSize 7 = .ok (.i2l, 1) := by decide +kernel
theorem dL_setSize_8 : decode cL_setSize 8 = .ok (.lastore, 1) := by decide +kernel
theorem dL_setSize_9 : decode cL_setSize 9 = .ok (.goto 6, 3) := by decide +kernel
theorem dL_setSize_12 : decode cL_setSize 12 = .ok (.astore_n 3, 1) := by decide +kernel
theorem dL_setSize_13 : decode cL_setSize 13 = .ok (.iconst 1, 1) := by decide +kernel
theorem dL_setSize_14 : decode cL_setSize 14 = .ok (.ireturn, 1) := by decide +kernel
theorem dL_setSize_15 : decode cL_setSize 15 = .ok (.iconst 0, 1) := by decide +kernel
theorem dL_setSize_16 : decode cL_setSize 16 = .ok (.ireturn, 1) := by decide +kernel
theorem dL_setEntry_0 : decode cL_setEntry 0 = .ok (.aload 4, 2) := by decide +kernel
theorem dL_setEntry_2 : decode cL_setEntry 2 = .ok (.iconst 0, 1) := by decide +kernel
theorem dL_setEntry_3 : decode cL_setEntry 3 = .ok (.aload_n 0, 1) := by decide +kernel
theorem dL_setEntry_4 : decode cL_setEntry 4 = .ok (.iload_n 1, 1) := by decide +kernel
theorem dL_setEntry_5 : decode cL_setEntry 5 = .ok (.iload_n 2, 1) := by decide +kernel
theorem dL_setEntry_6 : decode cL_setEntry 6 = .ok (.iload_n 3, 1) := by decide +kernel
theorem dL_setEntry_7 : decode cL_setEntry 7 = .ok (.invokevirtual 15, 3) := by decide +kernel
theorem dL_setEntry_10 : decode cL_setEntry 10 = .ok (.i2l, 1) := by decide +kernel
theorem dL_setEntry_11 : decode cL_setEntry 11 = .ok (.lastore, 1) := by decide +kernel
theorem dL_setEntry_12 : decode cL_setEntry 12 = .ok (.goto 11, 3) := by decide +kernel
theorem dL_setEntry_15 : decode cL_setEntry 15 = .ok (.astore 5, 2) := by decide +kernel
theorem dL_setEntry_17 : decode cL_setEntry 17 = .ok (.iconst 1, 1) := by decide +kernel
theorem dL_setEntry_18 : decode cL_setEntry 18 = .ok (.ireturn, 1) := by decide +kernel
theorem dL_setEntry_19 : decode cL_setEntry 19 = .ok (.astore 5, 2) := by decide +kernel
theorem dL_setEntry_21 : decode cL_setEntry 21 = .ok (.iconst 2, 1) := by decide +kernel
theorem dL_setEntry_22 : decode cL_setEntry 22 = .ok (.ireturn, 1) := by decide +kernel
theorem dL_setEntry_23 : decode cL_setEntry 23 = .ok (.iconst 0, 1) := by decide +kernel
theorem dL_setEntry_24 : decode cL_setEntry 24 = .ok (.ireturn, 1) := by decide +kernel
theorem dL_entry_0 : decode cL_entry 0 = .ok (.aload_n 3, 1) := by decide +kernel
theorem dL_entry_1 : decode cL_entry 1 = .ok (.iconst 0, 1) := by decide +kernel
theorem dL_entry_2 : decode cL_entry 2 = .ok (.aload_n 0, 1) := by decide +kernel
theorem dL_entry_3 : decode cL_entry 3 = .ok (.iload_n 1, 1) := by decide +kernel
theorem dL_entry_4 : decode cL_entry 4 = .ok (.iload_n 2, 1) := by decide +kernel
theorem dL_entry_5 : decode cL_entry 5 = .ok (.invokevirtual 21, 3) := by decide +kernel
theorem dL_entry_8 : decode cL_entry 8 = .ok (.i2l, 1) := by decide +kernel
theorem dL_entry_9 : decode cL_entry 9 = .ok (.lastore, 1) := by decide +kernel
theorem dL_entry_10 : decode cL_entry 10 = .ok (.goto 7, 3) := by decide +kernel
theorem dL_entry_13 : decode cL_entry 13 = .ok (.astore 4, 2) := by decide +kernel
theorem dL_entry_15 : decode cL_entry 15 = .ok (.iconst 1, 1) := by decide +kernel
theorem dL_entry_16 : decode cL_entry 16 = .ok (.ireturn, 1) := by decide +kernel
theorem dL_entry_17 : decode cL_entry 17 = .ok (.iconst 0, 1) := by decide +kernel
theorem dL_entry_18 : decode cL_entry 18 = .ok (.ireturn, 1) := by decide +kernel
theorem dL_swap_0 : decode cL_swap 0 = .ok (.aload_n 3, 1) := by decide +kernel
theorem dL_swap_1 : decode cL_swap 1 = .ok (.iconst 0, 1) := by decide +kernel
theorem dL_swap_2 : decode cL_swap 2 = .ok (.aload_n 0, 1) := by decide +kernel
theorem dL_swap_3 : decode cL_swap 3 = .ok (.iload_n 1, 1) := by decide +kernel
theorem dL_swap_4 : decode cL_swap 4 = .ok (.iload_n 2, 1) := by decide +kernel
theorem dL_swap_5 : decode cL_swap 5 = .ok (.invokevirtual 25, 3) := by decide +kernel
theorem dL_swap_8 : decode cL_swap 8 = .ok (.ifCond .eq 7, 3) := by decide +kernel
theorem dL_swap_11 : decode cL_swap 11 = .ok (.lconst 1, 1) := by decide +kernel
theorem dL_swap_12 : decode cL_swap 12 = .ok (.goto 4, 3) := by decide +kernel
theorem dL_swap_15 : decode cL_swap 15 = .ok (.lconst 0, 1) := by decide +kernel
theorem dL_swap_16 : decode cL_swap 16 = .ok (.lastore, 1) := by decide +kernel
theorem dL_swap_17 : decode cL_swap 17 = .ok (.goto 7, 3) := by decide +kernel
theorem dL_swap_20 : decode cL_swap 20 = .ok (.astore 4, 2) := by decide +kernel
theorem dL_swap_22 : decode cL_swap 22 = .ok (.iconst 1, 1) := by decide +kernel
theorem dL_swap_23 : decode cL_swap 23 = .ok (.ireturn, 1) := by decide +kernel
theorem dL_swap_24 : decode cL_swap 24 = .ok (.iconst 0, 1) := by decide +kernel
theorem dL_swap_25 : decode cL_swap 25 = .ok (.ireturn, 1) := by decide +kernel
theorem dL_position_0 : decode cL_position 0 = .ok (.aload_n 2, 1) := by decide +kernel
theorem dL_position_1 : decode cL_position 1 = .ok (.iconst 0, 1) := by decide +kernel
theorem dL_position_2 : decode cL_position 2 = .ok (.aload_n 0, 1) := by decide +kernel
theorem dL_position_3 : decode cL_position 3 = .ok (.iload_n 1, 1) := by decide +kernel
theorem dL_position_4 : decode cL_position 4 = .ok (.invokevirtual 29, 3) := by decide +kernel
theorem dL_position_7 : decode cL_position 7 = .ok (.i2l, 1) := by decide +kernel
theorem dL_position_8 : decode cL_position 8 = .ok (.lastore, 1) := by decide +kernel
theorem dL_position_9 : decode cL_position 9 = .ok (.goto 6, 3) := by decide +kernel
theorem dL_position_12 : decode cL_position 12 = .ok (.astore_n 3, 1) := by decide +kernel
