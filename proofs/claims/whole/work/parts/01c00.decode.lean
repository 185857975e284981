theorem dX0_init_0 : decode cX0_init 0 = .ok (.aload_n 0, 1) := by decide +kernel
theorem dX0_init_1 : decode cX0_init 1 = .ok (.invokespecial 3, 3) := by decide +kernel
theorem dX0_init_4 : decode cX0_init 4 = .ok (.aload_n 0, 1) := by decide +kernel
theorem dX0_init_5 : decode cX0_init 5 = .ok (.bipush 16, 2) := by decide +kernel
theorem dX0_init_7 : decode cX0_init 7 = .ok (.newarray .int, 2) := by decide +kernel
theorem dX0_init_9 : decode cX0_init 9 = .ok (.putfield 9, 3) := by decide +kernel
theorem dX0_init_12 : decode cX0_init 12 = .ok (.aload_n 0, 1) := by decide +kernel
theorem dX0_init_13 : decode cX0_init 13 = .ok (.bipush 16, 2) := by decide +kernel
theorem dX0_init_15 : decode cX0_init 15 = .ok (.newarray .int, 2) := by decide +kernel
theorem dX0_init_17 : decode cX0_init 17 = .ok (.putfield 15, 3) := by decide +kernel
theorem dX0_init_20 : decode cX0_init 20 = .ok (.aload_n 0, 1) := by decide +kernel
theorem dX0_init_21 : decode cX0_init 21 = .ok (.bipush 16, 2) := by decide +kernel
theorem dX0_init_23 : decode cX0_init 23 = .ok (.newarray .int, 2) := by decide +kernel
theorem dX0_init_25 : decode cX0_init 25 = .ok (.putfield 18, 3) := by decide +kernel
theorem dX0_init_28 : decode cX0_init 28 = .ok (.return_, 1) := by decide +kernel
theorem dX0_run_0 : decode cX0_run 0 = .ok (.aload_n 0, 1) := by decide +kernel
theorem dX0_run_1 : decode cX0_run 1 = .ok (.aload_n 1, 1) := by decide +kernel
theorem dX0_run_2 : decode cX0_run 2 = .ok (.invokevirtual 21, 3) := by decide +kernel
theorem dX0_run_5 : decode cX0_run 5 = .ok (.aload_n 1, 1) := by decide +kernel
theorem dX0_run_6 : decode cX0_run 6 = .ok (.invokevirtual 25, 3) := by decide +kernel
theorem dX0_run_9 : decode cX0_run 9 = .ok (.istore_n 2, 1) := by decide +kernel
theorem dX0_run_10 : decode cX0_run 10 = .ok (.iconst 0, 1) := by decide +kernel
theorem dX0_run_11 : decode cX0_run 11 = .ok (.istore_n 3, 1) := by decide +kernel
theorem dX0_run_12 : decode cX0_run 12 = .ok (.iload_n 3, 1) := by decide +kernel
theorem dX0_run_13 : decode cX0_run 13 = .ok (.aload_n 1, 1) := by decide +kernel
theorem dX0_run_14 : decode cX0_run 14 = .ok (.getfield 31, 3) := by decide +kernel
theorem dX0_run_17 : decode cX0_run 17 = .ok (.if_icmp .ge 54, 3) := by decide +kernel
theorem dX0_run_20 : decode cX0_run 20 = .ok (.aload_n 1, 1) := by decide +kernel
theorem dX0_run_21 : decode cX0_run 21 = .ok (.getfield 35, 3) := by decide +kernel
theorem dX0_run_24 : decode cX0_run 24 = .ok (.iload_n 3, 1) := by decide +kernel
theorem dX0_run_25 : decode cX0_run 25 = .ok (.iaload, 1) := by decide +kernel
theorem dX0_run_26 : decode cX0_run 26 = .ok (.istore 4, 2) := by decide +kernel
theorem dX0_run_28 : decode cX0_run 28 = .ok (.iload_n 2, 1) := by decide +kernel
theorem dX0_run_29 : decode cX0_run 29 = .ok (.iload 4, 2) := by decide +kernel
theorem dX0_run_31 : decode cX0_run 31 = .ok (.invokestatic 38, 3) := by decide +kernel
theorem dX0_run_34 : decode cX0_run 34 = .ok (.iconst (-1), 1) := by decide +kernel
theorem dX0_run_35 : decode cX0_run 35 = .ok (.ixor, 1) := by decide +kernel
theorem dX0_run_36 : decode cX0_run 36 = .ok (.iand, 1) := by decide +kernel
theorem dX0_run_37 : decode cX0_run 37 = .ok (.istore_n 2, 1) := by decide +kernel
theorem dX0_run_38 : decode cX0_run 38 = .ok (.aload_n 0, 1) := by decide +kernel
theorem dX0_run_39 : decode cX0_run 39 = .ok (.getfield 15, 3) := by decide +kernel
theorem dX0_run_42 : decode cX0_run 42 = .ok (.iload 4, 2) := by decide +kernel
theorem dX0_run_44 : decode cX0_run 44 = .ok (.aload_n 0, 1) := by decide +kernel
theorem dX0_run_45 : decode cX0_run 45 = .ok (.getfield 9, 3) := by decide +kernel
theorem dX0_run_48 : decode cX0_run 48 = .ok (.iload 4, 2) := by decide +kernel
theorem dX0_run_50 : decode cX0_run 50 = .ok (.iaload, 1) := by decide +kernel
theorem dX0_run_51 : decode cX0_run 51 = .ok (.iload_n 2, 1) := by decide +kernel
theorem dX0_run_52 : decode cX0_run 52 = .ok (.iand, 1) := by decide +kernel
theorem dX0_run_53 : decode cX0_run 53 = .ok (.iastore, 1) := by decide +kernel
theorem dX0_run_54 : decode cX0_run 54 = .ok (.aload_n 0, 1) := by decide +kernel
theorem dX0_run_55 : decode cX0_run 55 = .ok (.aload_n 0, 1) := by decide +kernel
theorem dX0_run_56 : decode cX0_run 56 = .ok (.getfield 15, 3) := by decide +kernel
theorem dX0_run_59 : decode cX0_run 59 = .ok (.iload 4, 2) := by decide +kernel
theorem dX0_run_61 : decode cX0_run 61 = .ok (.iaload, 1) := by decide +kernel
theorem dX0_run_62 : decode cX0_run 62 = .ok (.invokevirtual 42, 3) := by decide +kernel
theorem dX0_run_65 : decode cX0_run 65 = .ok (.iinc 3 1, 3) := by decide +kernel
theorem dX0_run_68 : decode cX0_run 68 = .ok (.goto (-56), 3) := by decide +kernel
theorem dX0_run_71 : decode cX0_run 71 = .ok (.aload_n 0, 1) := by decide +kernel
theorem dX0_run_72 : decode cX0_run 72 = .ok (.aload_n 1, 1) := by decide +kernel
theorem dX0_run_73 : decode cX0_run 73 = .ok (.invokevirtual 46, 3) := by decide +kernel
theorem dX0_run_76 : decode cX0_run 76 = .ok (.return_, 1) := by decide +kernel
theorem dX0_orderByDegree_0 : decode cX0_orderByDegree 0 = .ok (.aload_n 0, 1) := by decide +kernel
theorem dX0_orderByDegree_1 : decode cX0_orderByDegree 1 = .ok (.aload_n 1, 1) := by decide +kernel
theorem dX0_orderByDegree_2 : decode cX0_orderByDegree 2 = .ok (.invokevirtual 21, 3) := by decide +kernel
theorem dX0_orderByDegree_5 : decode cX0_orderByDegree 5 = .ok (.aload_n 1, 1) := by decide +kernel
theorem dX0_orderByDegree_6 : decode cX0_orderByDegree 6 = .ok (.invokevirtual 25, 3) := by decide +kernel
theorem dX0_orderByDegree_9 : decode cX0_orderByDegree 9 = .ok (.istore_n 2, 1) := by decide +kernel
theorem dX0_orderByDegree_10 : decode cX0_orderByDegree 10 = .ok (.iconst 0, 1) := by decide +kernel
theorem dX0_orderByDegree_11 : decode cX0_orderByDegree 11 = .ok (.istore_n 3, 1) := by decide +kernel
theorem dX0_orderByDegree_12 : decode cX0_orderByDegree 12 = .ok (.iload_n 3, 1) := by decide +kernel
theorem dX0_orderByDegree_13 : decode cX0_orderByDegree 13 = .ok (.aload_n 1, 1) := by decide +kernel
theorem dX0_orderByDegree_14 : decode cX0_orderByDegree 14 = .ok (.getfield 31, 3) := by decide +kernel
theorem dX0_orderByDegree_17 : decode cX0_orderByDegree 17 = .ok (.if_icmp .ge 53, 3) := by decide +kernel
theorem dX0_orderByDegree_20 : decode cX0_orderByDegree 20 = .ok (.aload_n 0, 1) := by decide +kernel
theorem dX0_orderByDegree_21 : decode cX0_orderByDegree 21 = .ok (.iload_n 2, 1) := by decide +kernel
theorem dX0_orderByDegree_22 : decode cX0_orderByDegree 22 = .ok (.invokevirtual 49, 3) := by decide +kernel
theorem dX0_orderByDegree_25 : decode cX0_orderByDegree 25 = .ok (.istore 4, 2) := by decide +kernel
theorem dX0_orderByDegree_27 : decode cX0_orderByDegree 27 = .ok (.iload 4, 2) := by decide +kernel
theorem dX0_orderByDegree_29 : decode cX0_orderByDegree 29 = .ok (.iconst (-1), 1) := by decide +kernel
theorem dX0_orderByDegree_30 : decode cX0_orderByDegree 30 = .ok (.if_icmp .ne 4, 3) := by decide +kernel
theorem dX0_orderByDegree_33 : decode cX0_orderByDegree 33 = .ok (.return_, 1) := by decide +kernel
theorem dX0_orderByDegree_34 : decode cX0_orderByDegree 34 = .ok (.aload_n 1, 1) := by decide +kernel
theorem dX0_orderByDegree_35 : decode cX0_orderByDegree 35 = .ok (.iload 4, 2) := by decide +kernel
theorem dX0_orderByDegree_37 : decode cX0_orderByDegree 37 = .ok (.iload_n 3, 1) := by decide +kernel
theorem dX0_orderByDegree_38 : decode cX0_orderByDegree 38 = .ok (.invokevirtual 52, 3) := by decide +kernel
theorem dX0_orderByDegree_41 : decode cX0_orderByDegree 41 = .ok (.iload_n 2, 1) := by decide +kernel
theorem dX0_orderByDegree_42 : decode cX0_orderByDegree 42 = .ok (.iload 4, 2) := by decide +kernel
theorem dX0_orderByDegree_44 : decode cX0_orderByDegree 44 = .ok (.invokestatic 38, 3) := by decide +kernel
theorem dX0_orderByDegree_47 : decode cX0_orderByDegree 47 = .ok (.iconst (-1), 1) := by decide +kernel
theorem dX0_orderByDegree_48 : decode cX0_orderByDegree 48 = .ok (.ixor, 1) := by decide +kernel
theorem dX0_orderByDegree_49 : decode cX0_orderByDegree 49 = .ok (.iand, 1) := by decide +kernel
theorem dX0_orderByDegree_50 : decode cX0_orderByDegree 50 = .ok (.istore_n 2, 1) := by decide +kernel
theorem dX0_orderByDegree_51 : decode cX0_orderByDegree 51 = .ok (.aload_n 0, 1) := by decide +kernel
theorem dX0_orderByDegree_52 : decode cX0_orderByDegree 52 = .ok (.aload_n 0, 1) := by decide +kernel
theorem dX0_orderByDegree_53 : decode cX0_orderByDegree 53 = .ok (.getfield 9, 3) := by decide +kernel
theorem dX0_orderByDegree_56 : decode cX0_orderByDegree 56 = .ok (.iload 4, 2) := by decide +kernel
theorem dX0_orderByDegree_58 : decode cX0_orderByDegree 58 = .ok (.iaload, 1) := by decide +kernel
theorem dX0_orderByDegree_59 : decode cX0_orderByDegree 59 = .ok (.iload_n 2, 1) := by decide +kernel
theorem dX0_orderByDegree_60 : decode cX0_orderByDegree 60 = .ok (.iand, 1) := by decide +kernel
theorem dX0_orderByDegree_61 : decode cX0_orderByDegree 61 = .ok (.invokevirtual 42, 3) := by decide +kernel
theorem dX0_orderByDegree_64 : decode cX0_orderByDegree 64 = .ok (.iinc 3 1, 3) := by decide +kernel
theorem dX0_orderByDegree_67 : decode cX0_orderByDegree 67 = .ok (.goto (-55), 3) := by decide +kernel
theorem dX0_orderByDegree_70 : decode cX0_orderByDegree 70 = .ok (.return_, 1) := by decide +kernel
theorem dX0_countJoined_0 : decode cX0_countJoined 0 = .ok (.iconst 0, 1) := by decide +kernel
theorem dX0_countJoined_1 : decode cX0_countJoined 1 = .ok (.istore_n 2, 1) := by decide +kernel
theorem dX0_countJoined_2 : decode cX0_countJoined 2 = .ok (.iconst 0, 1) := by decide +kernel
theorem dX0_countJoined_3 : decode cX0_countJoined 3 = .ok (.istore_n 3, 1) := by decide +kernel
theorem dX0_countJoined_4 : decode cX0_countJoined 4 = .ok (.iload_n 3, 1) := by decide +kernel
theorem dX0_countJoined_5 : decode cX0_countJoined 5 = .ok (.iload_n 1, 1) := by decide +kernel
theorem dX0_countJoined_6 : decode cX0_countJoined 6 = .ok (.if_icmp .ge 21, 3) := by decide +kernel
theorem dX0_countJoined_9 : decode cX0_countJoined 9 = .ok (.iload_n 2, 1) := by decide +kernel
theorem dX0_countJoined_10 : decode cX0_countJoined 10 = .ok (.aload_n 0, 1) := by decide +kernel
theorem dX0_countJoined_11 : decode cX0_countJoined 11 = .ok (.getfield 15, 3) := by decide +kernel
theorem dX0_countJoined_14 : decode cX0_countJoined 14 = .ok (.iload_n 3, 1) := by decide +kernel
theorem dX0_countJoined_15 : decode cX0_countJoined 15 = .ok (.iaload, 1) := by decide +kernel
theorem dX0_countJoined_16 : decode cX0_countJoined 16 = .ok (.invokestatic 56, 3) := by decide +kernel
theorem dX0_countJoined_19 : decode cX0_countJoined 19 = .ok (.iadd, 1) := by decide +kernel
theorem dX0_countJoined_20 : decode cX0_countJoined 20 = .ok (.istore_n 2, 1) := by decide +kernel
theorem dX0_countJoined_21 : decode cX0_countJoined 21 = .ok (.iinc 3 1, 3) := by decide +kernel
theorem dX0_countJoined_24 : decode cX0_countJoined 24 = .ok (.goto (-20), 3) := by decide +kernel
theorem dX0_countJoined_27 : decode cX0_countJoined 27 = .ok (.iload_n 2, 1) := by decide +kernel
theorem dX0_countJoined_28 : decode cX0_countJoined 28 = .ok (.ireturn, 1) := by decide +kernel
theorem dX0_joinLinked_0 : decode cX0_joinLinked 0 = .ok (.iconst 0, 1) := by decide +kernel
theorem dX0_joinLinked_1 : decode cX0_joinLinked 1 = .ok (.istore_n 2, 1) := by decide +kernel
theorem dX0_joinLinked_2 : decode cX0_joinLinked 2 = .ok (.iload_n 2, 1) := by decide +kernel
theorem dX0_joinLinked_3 : decode cX0_joinLinked 3 = .ok (.aload_n 1, 1) := by decide +kernel
theorem dX0_joinLinked_4 : decode cX0_joinLinked 4 = .ok (.getfield 31, 3) := by decide +kernel
theorem dX0_joinLinked_7 : decode cX0_joinLinked 7 = .ok (.if_icmp .ge 20, 3) := by decide +kernel
theorem dX0_joinLinked_10 : decode cX0_joinLinked 10 = .ok (.aload_n 0, 1) := by decide +kernel
theorem dX0_joinLinked_11 : decode cX0_joinLinked 11 = .ok (.getfield 9, 3) := by decide +kernel
theorem dX0_joinLinked_14 : decode cX0_joinLinked 14 = .ok (.iload_n 2, 1) := by decide +kernel
theorem dX0_joinLinked_15 : decode cX0_joinLinked 15 = .ok (.aload_n 1, 1) := by decide +kernel
theorem dX0_joinLinked_16 : decode cX0_joinLinked 16 = .ok (.iload_n 2, 1) := by decide +kernel
theorem dX0_joinLinked_17 : decode cX0_joinLinked 17 = .ok (.invokevirtual 61, 3) := by decide +kernel
theorem dX0_joinLinked_20 : decode cX0_joinLinked 20 = .ok (.iastore, 1) := by decide +kernel
theorem dX0_joinLinked_21 : decode cX0_joinLinked 21 = .ok (.iinc 2 1, 3) := by decide +kernel
theorem dX0_joinLinked_24 : decode cX0_joinLinked 24 = .ok (.goto (-22), 3) := by decide +kernel
theorem dX0_joinLinked_27 : decode cX0_joinLinked 27 = .ok (.return_, 1) := by decide +kernel
theorem dX0_joinAll_0 : decode cX0_joinAll 0 = .ok (.iconst 0, 1) := by decide +kernel
theorem dX0_joinAll_1 : decode cX0_joinAll 1 = .ok (.istore_n 2, 1) := by decide +kernel
theorem dX0_joinAll_2 : decode cX0_joinAll 2 = .ok (.iload_n 2, 1) := by decide +kernel
theorem dX0_joinAll_3 : decode cX0_joinAll 3 = .ok (.bipush 16, 2) := by decide +kernel
theorem dX0_joinAll_5 : decode cX0_joinAll 5 = .ok (.if_icmp .ge 34, 3) := by decide +kernel
theorem dX0_joinAll_8 : decode cX0_joinAll 8 = .ok (.iload_n 1, 1) := by decide +kernel
theorem dX0_joinAll_9 : decode cX0_joinAll 9 = .ok (.iload_n 2, 1) := by decide +kernel
theorem dX0_joinAll_10 : decode cX0_joinAll 10 = .ok (.invokestatic 64, 3) := by decide +kernel
theorem dX0_joinAll_13 : decode cX0_joinAll 13 = .ok (.ifCond .eq 20, 3) := by decide +kernel
theorem dX0_joinAll_16 : decode cX0_joinAll 16 = .ok (.aload_n 0, 1) := by decide +kernel
theorem dX0_joinAll_17 : decode cX0_joinAll 17 = .ok (.getfield 9, 3) := by decide +kernel
theorem dX0_joinAll_20 : decode cX0_joinAll 20 = .ok (.iload_n 2, 1) := by decide +kernel
theorem dX0_joinAll_21 : decode cX0_joinAll 21 = .ok (.dup2, 1) := by decide +kernel
theorem dX0_joinAll_22 : decode cX0_joinAll 22 = .ok (.iaload, 1) := by decide +kernel
theorem dX0_joinAll_23 : decode cX0_joinAll 23 = .ok (.iload_n 1, 1) := by decide +kernel
theorem dX0_joinAll_24 : decode cX0_joinAll 24 = .ok (.iload_n 2, 1) := by decide +kernel
theorem dX0_joinAll_25 : decode cX0_joinAll 25 = .ok (.invokestatic 38, 3) := by decide +kernel
theorem dX0_joinAll_28 : decode cX0_joinAll 28 = .ok (.iconst (-1), 1) := by decide +kernel
theorem dX0_joinAll_29 : decode cX0_joinAll 29 = .ok (.ixor, 1) := by decide +kernel
theorem dX0_joinAll_30 : decode cX0_joinAll 30 = .ok (.iand, 1) := by decide +kernel
theorem dX0_joinAll_31 : decode cX0_joinAll 31 = .ok (.ior, 1) := by decide +kernel
theorem dX0_joinAll_32 : decode cX0_joinAll 32 = .ok (.iastore, 1) := by decide +kernel
theorem dX0_joinAll_33 : decode cX0_joinAll 33 = .ok (.iinc 2 1, 3) := by decide +kernel
theorem dX0_joinAll_36 : decode cX0_joinAll 36 = .ok (.goto (-34), 3) := by decide +kernel
theorem dX0_joinAll_39 : decode cX0_joinAll 39 = .ok (.return_, 1) := by decide +kernel
theorem dX0_lowestDegree_0 : decode cX0_lowestDegree 0 = .ok (.iconst (-1), 1) := by decide +kernel
theorem dX0_lowestDegree_1 : decode cX0_lowestDegree 1 = .ok (.istore_n 2, 1) := by decide +kernel
theorem dX0_lowestDegree_2 : decode cX0_lowestDegree 2 = .ok (.bipush 16, 2) := by decide +kernel
theorem dX0_lowestDegree_4 : decode cX0_lowestDegree 4 = .ok (.istore_n 3, 1) := by decide +kernel
theorem dX0_lowestDegree_5 : decode cX0_lowestDegree 5 = .ok (.iconst 0, 1) := by decide +kernel
theorem dX0_lowestDegree_6 : decode cX0_lowestDegree 6 = .ok (.istore 4, 2) := by decide +kernel
theorem dX0_lowestDegree_8 : decode cX0_lowestDegree 8 = .ok (.iload 4, 2) := by decide +kernel
theorem dX0_lowestDegree_10 : decode cX0_lowestDegree 10 = .ok (.bipush 16, 2) := by decide +kernel
theorem dX0_lowestDegree_12 : decode cX0_lowestDegree 12 = .ok (.if_icmp .ge 44, 3) := by decide +kernel
theorem dX0_lowestDegree_15 : decode cX0_lowestDegree 15 = .ok (.aload_n 0, 1) := by decide +kernel
theorem dX0_lowestDegree_16 : decode cX0_lowestDegree 16 = .ok (.getfield 9, 3) := by decide +kernel
theorem dX0_lowestDegree_19 : decode cX0_lowestDegree 19 = .ok (.iload 4, 2) := by decide +kernel
theorem dX0_lowestDegree_21 : decode cX0_lowestDegree 21 = .ok (.iaload, 1) := by decide +kernel
theorem dX0_lowestDegree_22 : decode cX0_lowestDegree 22 = .ok (.iload_n 1, 1) := by decide +kernel
theorem dX0_lowestDegree_23 : decode cX0_lowestDegree 23 = .ok (.iand, 1) := by decide +kernel
theorem dX0_lowestDegree_24 : decode cX0_lowestDegree 24 = .ok (.invokestatic 56, 3) := by decide +kernel
theorem dX0_lowestDegree_27 : decode cX0_lowestDegree 27 = .ok (.istore 5, 2) := by decide +kernel
theorem dX0_lowestDegree_29 : decode cX0_lowestDegree 29 = .ok (.iload_n 1, 1) := by decide +kernel
theorem dX0_lowestDegree_30 : decode cX0_lowestDegree 30 = .ok (.iload 4, 2) := by decide +kernel
theorem dX0_lowestDegree_32 : decode cX0_lowestDegree 32 = .ok (.invokestatic 64, 3) := by decide +kernel
theorem dX0_lowestDegree_35 : decode cX0_lowestDegree 35 = .ok (.ifCond .eq 15, 3) := by decide +kernel
theorem dX0_lowestDegree_38 : decode cX0_lowestDegree 38 = .ok (.iload 5, 2) := by decide +kernel
theorem dX0_lowestDegree_40 : decode cX0_lowestDegree 40 = .ok (.iload_n 3, 1) := by decide +kernel
theorem dX0_lowestDegree_41 : decode cX0_lowestDegree 41 = .ok (.if_icmp .ge 9, 3) := by decide +kernel
theorem dX0_lowestDegree_44 : decode cX0_lowestDegree 44 = .ok (.iload 4, 2) := by decide +kernel
theorem dX0_lowestDegree_46 : decode cX0_lowestDegree 46 = .ok (.istore_n 2, 1) := by decide +kernel
theorem dX0_lowestDegree_47 : decode cX0_lowestDegree 47 = .ok (.iload 5, 2) := by decide +kernel
theorem dX0_lowestDegree_49 : decode cX0_lowestDegree 49 = .ok (.istore_n 3, 1) := by decide +kernel
theorem dX0_lowestDegree_50 : decode cX0_lowestDegree 50 = .ok (.iinc 4 1, 3) := by decide +kernel
theorem dX0_lowestDegree_53 : decode cX0_lowestDegree 53 = .ok (.goto (-45), 3) := by decide +kernel
theorem dX0_lowestDegree_56 : decode cX0_lowestDegree 56 = .ok (.iload_n 2, 1) := by decide +kernel
theorem dX0_lowestDegree_57 : decode cX0_lowestDegree 57 = .ok (.ireturn, 1) := by decide +kernel
theorem dX0_findPaths_0 : decode cX0_findPaths 0 = .ok (.aload_n 1, 1) := by decide +kernel
theorem dX0_findPaths_1 : decode cX0_findPaths 1 = .ok (.getfield 31, 3) := by decide +kernel
theorem dX0_findPaths_4 : decode cX0_findPaths 4 = .ok (.iconst 1, 1) := by decide +kernel
theorem dX0_findPaths_5 : decode cX0_findPaths 5 = .ok (.isub, 1) := by decide +kernel
theorem dX0_findPaths_6 : decode cX0_findPaths 6 = .ok (.istore_n 2, 1) := by decide +kernel
theorem dX0_findPaths_7 : decode cX0_findPaths 7 = .ok (.iload_n 2, 1) := by decide +kernel
theorem dX0_findPaths_8 : decode cX0_findPaths 8 = .ok (.ifCond .lt 56, 3) := by decide +kernel
theorem dX0_findPaths_11 : decode cX0_findPaths 11 = .ok (.aload_n 1, 1) := by decide +kernel
theorem dX0_findPaths_12 : decode cX0_findPaths 12 = .ok (.getfield 35, 3) := by decide +kernel
theorem dX0_findPaths_15 : decode cX0_findPaths 15 = .ok (.iload_n 2, 1) := by decide +kernel
theorem dX0_findPaths_16 : decode cX0_findPaths 16 = .ok (.iaload, 1) := by decide +kernel
theorem dX0_findPaths_17 : decode cX0_findPaths 17 = .ok (.istore_n 3, 1) := by decide +kernel
theorem dX0_findPaths_18 : decode cX0_findPaths 18 = .ok (.aload_n 1, 1) := by decide +kernel
theorem dX0_findPaths_19 : decode cX0_findPaths 19 = .ok (.aload_n 0, 1) := by decide +kernel
theorem dX0_findPaths_20 : decode cX0_findPaths 20 = .ok (.getfield 15, 3) := by decide +kernel
theorem dX0_findPaths_23 : decode cX0_findPaths 23 = .ok (.iload_n 3, 1) := by decide +kernel
theorem dX0_findPaths_24 : decode cX0_findPaths 24 = .ok (.iaload, 1) := by decide +kernel
theorem dX0_findPaths_25 : decode cX0_findPaths 25 = .ok (.invokevirtual 68, 3) := by decide +kernel
theorem dX0_findPaths_28 : decode cX0_findPaths 28 = .ok (.istore 4, 2) := by decide +kernel
theorem dX0_findPaths_30 : decode cX0_findPaths 30 = .ok (.aload_n 0, 1) := by decide +kernel
theorem dX0_findPaths_31 : decode cX0_findPaths 31 = .ok (.getfield 18, 3) := by decide +kernel
theorem dX0_findPaths_34 : decode cX0_findPaths 34 = .ok (.iload_n 3, 1) := by decide +kernel
theorem dX0_findPaths_35 : decode cX0_findPaths 35 = .ok (.iload_n 3, 1) := by decide +kernel
theorem dX0_findPaths_36 : decode cX0_findPaths 36 = .ok (.invokestatic 38, 3) := by decide +kernel
theorem dX0_findPaths_39 : decode cX0_findPaths 39 = .ok (.iload 4, 2) := by decide +kernel
theorem dX0_findPaths_41 : decode cX0_findPaths 41 = .ok (.iconst (-1), 1) := by decide +kernel
theorem dX0_findPaths_42 : decode cX0_findPaths 42 = .ok (.if_icmp .ne 7, 3) := by decide +kernel
theorem dX0_findPaths_45 : decode cX0_findPaths 45 = .ok (.iconst 0, 1) := by decide +kernel
theorem dX0_findPaths_46 : decode cX0_findPaths 46 = .ok (.goto 10, 3) := by decide +kernel
theorem dX0_findPaths_49 : decode cX0_findPaths 49 = .ok (.aload_n 0, 1) := by decide +kernel
theorem dX0_findPaths_50 : decode cX0_findPaths 50 = .ok (.getfield 18, 3) := by decide +kernel
theorem dX0_findPaths_53 : decode cX0_findPaths 53 = .ok (.iload 4, 2) := by decide +kernel
theorem dX0_findPaths_55 : decode cX0_findPaths 55 = .ok (.iaload, 1) := by decide +kernel
theorem dX0_findPaths_56 : decode cX0_findPaths 56 = .ok (.ior, 1) := by decide +kernel
theorem dX0_findPaths_57 : decode cX0_findPaths 57 = .ok (.iastore, 1) := by decide +kernel
theorem dX0_findPaths_58 : decode cX0_findPaths 58 = .ok (.iinc 2 (-1), 3) := by decide +kernel
theorem dX0_findPaths_61 : decode cX0_findPaths 61 = .ok (.goto (-54), 3) := by decide +kernel
theorem dX0_findPaths_64 : decode cX0_findPaths 64 = .ok (.return_, 1) := by decide +kernel
theorem dX1_init_0 : decode cX1_init 0 = .ok (.aload_n 0, 1) := by decide +kernel
theorem dX1_init_1 : decode cX1_init 1 = .ok (.invokespecial 3, 3) := by decide +kernel
theorem dX1_init_4 : decode cX1_init 4 = .ok (.aload_n 0, 1) := by decide +kernel
theorem dX1_init_5 : decode cX1_init 5 = .ok (.iconst 0, 1) := by decide +kernel
theorem dX1_init_6 : decode cX1_init 6 = .ok (.putfield 9, 3) := by decide +kernel
theorem dX1_init_9 : decode cX1_init 9 = .ok (.aload_n 0, 1) := by decide +kernel
theorem dX1_init_10 : decode cX1_init 10 = .ok (.iconst 0, 1) := by decide +kernel
theorem dX1_init_11 : decode cX1_init 11 = .ok (.putfield 15, 3) := by decide +kernel
theorem dX1_init_14 : decode cX1_init 14 = .ok (.aload_n 0, 1) := by decide +kernel
theorem dX1_init_15 : decode cX1_init 15 = .ok (.bipush 16, 2) := by decide +kernel
theorem dX1_init_17 : decode cX1_init 17 = .ok (.newarray .int, 2) := by decide +kernel
theorem dX1_init_19 : decode cX1_init 19 = .ok (.putfield 19, 3) := by decide +kernel
theorem dX1_init_22 : decode cX1_init 22 = .ok (.aload_n 0, 1) := by decide +kernel
theorem dX1_init_23 : decode cX1_init 23 = .ok (.bipush 16, 2) := by decide +kernel
theorem dX1_init_25 : decode cX1_init 25 = .ok (.newarray .int, 2) := by decide +kernel
theorem dX1_init_27 : decode cX1_init 27 = .ok (.putfield 23, 3) := by decide +kernel
theorem dX1_init_30 : decode cX1_init 30 = .ok (.aload_n 0, 1) := by decide +kernel
theorem dX1_init_31 : decode cX1_init 31 = .ok (.sipush 256, 3) := by decide +kernel
theorem dX1_init_34 : decode cX1_init 34 = .ok (.newarray .int, 2) := by decide +kernel
theorem dX1_init_36 : decode cX1_init 36 = .ok (.putfield 26, 3) := by decide +kernel
theorem dX1_init_39 : decode cX1_init 39 = .ok (.return_, 1) := by decide +kernel
theorem dX1_forget_0 : decode cX1_forget 0 = .ok (.aload_n 0, 1) := by decide +kernel
theorem dX1_forget_1 : decode cX1_forget 1 = .ok (.iconst 0, 1) := by decide +kernel
theorem dX1_forget_2 : decode cX1_forget 2 = .ok (.putfield 9, 3) := by decide +kernel
theorem dX1_forget_5 : decode cX1_forget 5 = .ok (.return_, 1) := by decide +kernel
theorem dX1_find_0 : decode cX1_find 0 = .ok (.aload_n 0, 1) := by decide +kernel
theorem dX1_find_1 : decode cX1_find 1 = .ok (.iconst 0, 1) := by decide +kernel
theorem dX1_find_2 : decode cX1_find 2 = .ok (.putfield 9, 3) := by decide +kernel
theorem dX1_find_5 : decode cX1_find 5 = .ok (.aload_n 0, 1) := by decide +kernel
theorem dX1_find_6 : decode cX1_find 6 = .ok (.aload_n 1, 1) := by decide +kernel
theorem dX1_find_7 : decode cX1_find 7 = .ok (.getfield 29, 3) := by decide +kernel
theorem dX1_find_10 : decode cX1_find 10 = .ok (.putfield 15, 3) := by decide +kernel
theorem dX1_find_13 : decode cX1_find 13 = .ok (.iconst 0, 1) := by decide +kernel
theorem dX1_find_14 : decode cX1_find 14 = .ok (.istore_n 2, 1) := by decide +kernel
theorem dX1_find_15 : decode cX1_find 15 = .ok (.iload_n 2, 1) := by decide +kernel
theorem dX1_find_16 : decode cX1_find 16 = .ok (.aload_n 0, 1) := by decide +kernel
theorem dX1_find_17 : decode cX1_find 17 = .ok (.getfield 15, 3) := by decide +kernel
theorem dX1_find_20 : decode cX1_find 20 = .ok (.if_icmp .ge 88, 3) := by decide +kernel
theorem dX1_find_23 : decode cX1_find 23 = .ok (.aload_n 0, 1) := by decide +kernel
theorem dX1_find_24 : decode cX1_find 24 = .ok (.aload_n 1, 1) := by decide +kernel
theorem dX1_find_25 : decode cX1_find 25 = .ok (.iload_n 2, 1) := by decide +kernel
theorem dX1_find_26 : decode cX1_find 26 = .ok (.iload_n 2, 1) := by decide +kernel
theorem dX1_find_27 : decode cX1_find 27 = .ok (.invokevirtual 32, 3) := by decide +kernel
theorem dX1_find_30 : decode cX1_find 30 = .ok (.istore_n 3, 1) := by decide +kernel
theorem dX1_find_31 : decode cX1_find 31 = .ok (.iload_n 3, 1) := by decide +kernel
theorem dX1_find_32 : decode cX1_find 32 = .ok (.ifCond .ne 5, 3) := by decide +kernel
theorem dX1_find_35 : decode cX1_find 35 = .ok (.iload_n 2, 1) := by decide +kernel
theorem dX1_find_36 : decode cX1_find 36 = .ok (.ireturn, 1) := by decide +kernel
theorem dX1_find_37 : decode cX1_find 37 = .ok (.aload_n 0, 1) := by decide +kernel
theorem dX1_find_38 : decode cX1_find 38 = .ok (.getfield 19, 3) := by decide +kernel
theorem dX1_find_41 : decode cX1_find 41 = .ok (.iload_n 2, 1) := by decide +kernel
theorem dX1_find_42 : decode cX1_find 42 = .ok (.iload_n 3, 1) := by decide +kernel
theorem dX1_find_43 : decode cX1_find 43 = .ok (.iastore, 1) := by decide +kernel
theorem dX1_find_44 : decode cX1_find 44 = .ok (.aload_n 0, 1) := by decide +kernel
theorem dX1_find_45 : decode cX1_find 45 = .ok (.getfield 23, 3) := by decide +kernel
theorem dX1_find_48 : decode cX1_find 48 = .ok (.iload_n 2, 1) := by decide +kernel
theorem dX1_find_49 : decode cX1_find 49 = .ok (.iload_n 3, 1) := by decide +kernel
theorem dX1_find_50 : decode cX1_find 50 = .ok (.invokestatic 36, 3) := by decide +kernel
theorem dX1_find_53 : decode cX1_find 53 = .ok (.iastore, 1) := by decide +kernel
theorem dX1_find_54 : decode cX1_find 54 = .ok (.iload_n 2, 1) := by decide +kernel
theorem dX1_find_55 : decode cX1_find 55 = .ok (.iconst 1, 1) := by decide +kernel
theorem dX1_find_56 : decode cX1_find 56 = .ok (.iadd, 1) := by decide +kernel
theorem dX1_find_57 : decode cX1_find 57 = .ok (.istore 4, 2) := by decide +kernel
theorem dX1_find_59 : decode cX1_find 59 = .ok (.iload 4, 2) := by decide +kernel
theorem dX1_find_61 : decode cX1_find 61 = .ok (.aload_n 0, 1) := by decide +kernel
theorem dX1_find_62 : decode cX1_find 62 = .ok (.getfield 15, 3) := by decide +kernel
theorem dX1_find_65 : decode cX1_find 65 = .ok (.if_icmp .ge 37, 3) := by decide +kernel
theorem dX1_find_68 : decode cX1_find 68 = .ok (.aload_n 0, 1) := by decide +kernel
theorem dX1_find_69 : decode cX1_find 69 = .ok (.getfield 26, 3) := by decide +kernel
theorem dX1_find_72 : decode cX1_find 72 = .ok (.iload 4, 2) := by decide +kernel
theorem dX1_find_74 : decode cX1_find 74 = .ok (.iload_n 2, 1) := by decide +kernel
theorem dX1_find_75 : decode cX1_find 75 = .ok (.invokestatic 40, 3) := by decide +kernel
theorem dX1_find_78 : decode cX1_find 78 = .ok (.aload_n 0, 1) := by decide +kernel
theorem dX1_find_79 : decode cX1_find 79 = .ok (.aload_n 1, 1) := by decide +kernel
theorem dX1_find_80 : decode cX1_find 80 = .ok (.iload 4, 2) := by decide +kernel
theorem dX1_find_82 : decode cX1_find 82 = .ok (.iload_n 2, 1) := by decide +kernel
theorem dX1_find_83 : decode cX1_find 83 = .ok (.invokevirtual 32, 3) := by decide +kernel
theorem dX1_find_86 : decode cX1_find 86 = .ok (.aload_n 0, 1) := by decide +kernel
theorem dX1_find_87 : decode cX1_find 87 = .ok (.getfield 23, 3) := by decide +kernel
theorem dX1_find_90 : decode cX1_find 90 = .ok (.iload_n 2, 1) := by decide +kernel
theorem dX1_find_91 : decode cX1_find 91 = .ok (.iaload, 1) := by decide +kernel
theorem dX1_find_92 : decode cX1_find 92 = .ok (.invokestatic 44, 3) := by decide +kernel
theorem dX1_find_95 : decode cX1_find 95 = .ok (.iastore, 1) := by decide +kernel
theorem dX1_find_96 : decode cX1_find 96 = .ok (.iinc 4 1, 3) := by decide +kernel
theorem dX1_find_99 : decode cX1_find 99 = .ok (.goto (-40), 3) := by decide +kernel
theorem dX1_find_102 : decode cX1_find 102 = .ok (.iinc 2 1, 3) := by decide +kernel
theorem dX1_find_105 : decode cX1_find 105 = .ok (.goto (-90), 3) := by decide +kernel
theorem dX1_find_108 : decode cX1_find 108 = .ok (.aload_n 0, 1) := by decide +kernel
theorem dX1_find_109 : decode cX1_find 109 = .ok (.iconst 1, 1) := by decide +kernel
theorem dX1_find_110 : decode cX1_find 110 = .ok (.putfield 9, 3) := by decide +kernel
theorem dX1_find_113 : decode cX1_find 113 = .ok (.aload_n 0, 1) := by decide +kernel
theorem dX1_find_114 : decode cX1_find 114 = .ok (.getfield 15, 3) := by decide +kernel
theorem dX1_find_117 : decode cX1_find 117 = .ok (.ireturn, 1) := by decide +kernel
theorem dX1_resolve_0 : decode cX1_resolve 0 = .ok (.iconst 0, 1) := by decide +kernel
theorem dX1_resolve_1 : decode cX1_resolve 1 = .ok (.istore_n 2, 1) := by decide +kernel
theorem dX1_resolve_2 : decode cX1_resolve 2 = .ok (.iload_n 2, 1) := by decide +kernel
theorem dX1_resolve_3 : decode cX1_resolve 3 = .ok (.aload_n 0, 1) := by decide +kernel
theorem dX1_resolve_4 : decode cX1_resolve 4 = .ok (.getfield 15, 3) := by decide +kernel
theorem dX1_resolve_7 : decode cX1_resolve 7 = .ok (.if_icmp .ge 47, 3) := by decide +kernel
theorem dX1_resolve_10 : decode cX1_resolve 10 = .ok (.iconst 0, 1) := by decide +kernel
theorem dX1_resolve_11 : decode cX1_resolve 11 = .ok (.istore_n 3, 1) := by decide +kernel
theorem dX1_resolve_12 : decode cX1_resolve 12 = .ok (.iload_n 3, 1) := by decide +kernel
theorem dX1_resolve_13 : decode cX1_resolve 13 = .ok (.iload_n 2, 1) := by decide +kernel
theorem dX1_resolve_14 : decode cX1_resolve 14 = .ok (.if_icmp .ge 34, 3) := by decide +kernel
theorem dX1_resolve_17 : decode cX1_resolve 17 = .ok (.aload_n 1, 1) := by decide +kernel
theorem dX1_resolve_18 : decode cX1_resolve 18 = .ok (.iload_n 2, 1) := by decide +kernel
theorem dX1_resolve_19 : decode cX1_resolve 19 = .ok (.aload_n 1, 1) := by decide +kernel
theorem dX1_resolve_20 : decode cX1_resolve 20 = .ok (.iload_n 2, 1) := by decide +kernel
theorem dX1_resolve_21 : decode cX1_resolve 21 = .ok (.iaload, 1) := by decide +kernel
theorem dX1_resolve_22 : decode cX1_resolve 22 = .ok (.aload_n 0, 1) := by decide +kernel
theorem dX1_resolve_23 : decode cX1_resolve 23 = .ok (.getfield 26, 3) := by decide +kernel
theorem dX1_resolve_26 : decode cX1_resolve 26 = .ok (.iload_n 2, 1) := by decide +kernel
theorem dX1_resolve_27 : decode cX1_resolve 27 = .ok (.iload_n 3, 1) := by decide +kernel
theorem dX1_resolve_28 : decode cX1_resolve 28 = .ok (.invokestatic 40, 3) := by decide +kernel
theorem dX1_resolve_31 : decode cX1_resolve 31 = .ok (.iaload, 1) := by decide +kernel
theorem dX1_resolve_32 : decode cX1_resolve 32 = .ok (.aload_n 1, 1) := by decide +kernel
theorem dX1_resolve_33 : decode cX1_resolve 33 = .ok (.iload_n 3, 1) := by decide +kernel
theorem dX1_resolve_34 : decode cX1_resolve 34 = .ok (.iaload, 1) := by decide +kernel
theorem dX1_resolve_35 : decode cX1_resolve 35 = .ok (.invokestatic 44, 3) := by decide +kernel
theorem dX1_resolve_38 : decode cX1_resolve 38 = .ok (.invokestatic 47, 3) := by decide +kernel
theorem dX1_resolve_41 : decode cX1_resolve 41 = .ok (.iastore, 1) := by decide +kernel
theorem dX1_resolve_42 : decode cX1_resolve 42 = .ok (.iinc 3 1, 3) := by decide +kernel
theorem dX1_resolve_45 : decode cX1_resolve 45 = .ok (.goto (-33), 3) := by decide +kernel
theorem dX1_resolve_48 : decode cX1_resolve 48 = .ok (.iinc 2 1, 3) := by decide +kernel
theorem dX1_resolve_51 : decode cX1_resolve 51 = .ok (.goto (-49), 3) := by decide +kernel
theorem dX1_resolve_54 : decode cX1_resolve 54 = .ok (.iconst 0, 1) := by decide +kernel
theorem dX1_resolve_55 : decode cX1_resolve 55 = .ok (.istore_n 2, 1) := by decide +kernel
theorem dX1_resolve_56 : decode cX1_resolve 56 = .ok (.iload_n 2, 1) := by decide +kernel
theorem dX1_resolve_57 : decode cX1_resolve 57 = .ok (.aload_n 0, 1) := by decide +kernel
theorem dX1_resolve_58 : decode cX1_resolve 58 = .ok (.getfield 15, 3) := by decide +kernel
theorem dX1_resolve_61 : decode cX1_resolve 61 = .ok (.if_icmp .ge 24, 3) := by decide +kernel
theorem dX1_resolve_64 : decode cX1_resolve 64 = .ok (.aload_n 1, 1) := by decide +kernel
theorem dX1_resolve_65 : decode cX1_resolve 65 = .ok (.iload_n 2, 1) := by decide +kernel
theorem dX1_resolve_66 : decode cX1_resolve 66 = .ok (.aload_n 1, 1) := by decide +kernel
theorem dX1_resolve_67 : decode cX1_resolve 67 = .ok (.iload_n 2, 1) := by decide +kernel
theorem dX1_resolve_68 : decode cX1_resolve 68 = .ok (.iaload, 1) := by decide +kernel
theorem dX1_resolve_69 : decode cX1_resolve 69 = .ok (.aload_n 0, 1) := by decide +kernel
theorem dX1_resolve_70 : decode cX1_resolve 70 = .ok (.getfield 23, 3) := by decide +kernel
theorem dX1_resolve_73 : decode cX1_resolve 73 = .ok (.iload_n 2, 1) := by decide +kernel
theorem dX1_resolve_74 : decode cX1_resolve 74 = .ok (.iaload, 1) := by decide +kernel
theorem dX1_resolve_75 : decode cX1_resolve 75 = .ok (.invokestatic 44, 3) := by decide +kernel
theorem dX1_resolve_78 : decode cX1_resolve 78 = .ok (.iastore, 1) := by decide +kernel
theorem dX1_resolve_79 : decode cX1_resolve 79 = .ok (.iinc 2 1, 3) := by decide +kernel
theorem dX1_resolve_82 : decode cX1_resolve 82 = .ok (.goto (-26), 3) := by decide +kernel
theorem dX1_resolve_85 : decode cX1_resolve 85 = .ok (.aload_n 0, 1) := by decide +kernel
theorem dX1_resolve_86 : decode cX1_resolve 86 = .ok (.getfield 15, 3) := by decide +kernel
theorem dX1_resolve_89 : decode cX1_resolve 89 = .ok (.iconst 1, 1) := by decide +kernel
theorem dX1_resolve_90 : decode cX1_resolve 90 = .ok (.isub, 1) := by decide +kernel
theorem dX1_resolve_91 : decode cX1_resolve 91 = .ok (.istore_n 2, 1) := by decide +kernel
theorem dX1_resolve_92 : decode cX1_resolve 92 = .ok (.iload_n 2, 1) := by decide +kernel
theorem dX1_resolve_93 : decode cX1_resolve 93 = .ok (.ifCond .lt 52, 3) := by decide +kernel
theorem dX1_resolve_96 : decode cX1_resolve 96 = .ok (.iload_n 2, 1) := by decide +kernel
theorem dX1_resolve_97 : decode cX1_resolve 97 = .ok (.iconst 1, 1) := by decide +kernel
theorem dX1_resolve_98 : decode cX1_resolve 98 = .ok (.iadd, 1) := by decide +kernel
theorem dX1_resolve_99 : decode cX1_resolve 99 = .ok (.istore_n 3, 1) := by decide +kernel
theorem dX1_resolve_100 : decode cX1_resolve 100 = .ok (.iload_n 3, 1) := by decide +kernel
theorem dX1_resolve_101 : decode cX1_resolve 101 = .ok (.aload_n 0, 1) := by decide +kernel
theorem dX1_resolve_102 : decode cX1_resolve 102 = .ok (.getfield 15, 3) := by decide +kernel
theorem dX1_resolve_105 : decode cX1_resolve 105 = .ok (.if_icmp .ge 34, 3) := by decide +kernel
theorem dX1_resolve_108 : decode cX1_resolve 108 = .ok (.aload_n 1, 1) := by decide +kernel
theorem dX1_resolve_109 : decode cX1_resolve 109 = .ok (.iload_n 2, 1) := by decide +kernel
theorem dX1_resolve_110 : decode cX1_resolve 110 = .ok (.aload_n 1, 1) := by decide +kernel
theorem dX1_resolve_111 : decode cX1_resolve 111 = .ok (.iload_n 2, 1) := by decide +kernel
theorem dX1_resolve_112 : decode cX1_resolve 112 = .ok (.iaload, 1) := by decide +kernel
theorem dX1_resolve_113 : decode cX1_resolve 113 = .ok (.aload_n 0, 1) := by decide +kernel
theorem dX1_resolve_114 : decode cX1_resolve 114 = .ok (.getfield 26, 3) := by decide +kernel
theorem dX1_resolve_117 : decode cX1_resolve 117 = .ok (.iload_n 3, 1) := by decide +kernel
theorem dX1_resolve_118 : decode cX1_resolve 118 = .ok (.iload_n 2, 1) := by decide +kernel
theorem dX1_resolve_119 : decode cX1_resolve 119 = .ok (.invokestatic 40, 3) := by decide +kernel
theorem dX1_resolve_122 : decode cX1_resolve 122 = .ok (.iaload, 1) := by decide +kernel
theorem dX1_resolve_123 : decode cX1_resolve 123 = .ok (.aload_n 1, 1) := by decide +kernel
theorem dX1_resolve_124 : decode cX1_resolve 124 = .ok (.iload_n 3, 1) := by decide +kernel
theorem dX1_resolve_125 : decode cX1_resolve 125 = .ok (.iaload, 1) := by decide +kernel
theorem dX1_resolve_126 : decode cX1_resolve 126 = .ok (.invokestatic 44, 3) := by decide +kernel
theorem dX1_resolve_129 : decode cX1_resolve 129 = .ok (.invokestatic 47, 3) := by decide +kernel
theorem dX1_resolve_132 : decode cX1_resolve 132 = .ok (.iastore, 1) := by decide +kernel
theorem dX1_resolve_133 : decode cX1_resolve 133 = .ok (.iinc 3 1, 3) := by decide +kernel
theorem dX1_resolve_136 : decode cX1_resolve 136 = .ok (.goto (-36), 3) := by decide +kernel
theorem dX1_resolve_139 : decode cX1_resolve 139 = .ok (.iinc 2 (-1), 3) := by decide +kernel
theorem dX1_resolve_142 : decode cX1_resolve 142 = .ok (.goto (-50), 3) := by decide +kernel
theorem dX1_resolve_145 : decode cX1_resolve 145 = .ok (.return_, 1) := by decide +kernel
theorem dX1_remainder_0 : decode cX1_remainder 0 = .ok (.aload_n 1, 1) := by decide +kernel
theorem dX1_remainder_1 : decode cX1_remainder 1 = .ok (.iload_n 2, 1) := by decide +kernel
theorem dX1_remainder_2 : decode cX1_remainder 2 = .ok (.iload_n 3, 1) := by decide +kernel
theorem dX1_remainder_3 : decode cX1_remainder 3 = .ok (.invokevirtual 50, 3) := by decide +kernel
theorem dX1_remainder_6 : decode cX1_remainder 6 = .ok (.istore 4, 2) := by decide +kernel
theorem dX1_remainder_8 : decode cX1_remainder 8 = .ok (.iconst 0, 1) := by decide +kernel
theorem dX1_remainder_9 : decode cX1_remainder 9 = .ok (.istore 5, 2) := by decide +kernel
theorem dX1_remainder_11 : decode cX1_remainder 11 = .ok (.iload 5, 2) := by decide +kernel
theorem dX1_remainder_13 : decode cX1_remainder 13 = .ok (.iload_n 3, 1) := by decide +kernel
theorem dX1_remainder_14 : decode cX1_remainder 14 = .ok (.if_icmp .ge 55, 3) := by decide +kernel
theorem dX1_remainder_17 : decode cX1_remainder 17 = .ok (.aload_n 0, 1) := by decide +kernel
theorem dX1_remainder_18 : decode cX1_remainder 18 = .ok (.getfield 26, 3) := by decide +kernel
theorem dX1_remainder_21 : decode cX1_remainder 21 = .ok (.iload_n 2, 1) := by decide +kernel
theorem dX1_remainder_22 : decode cX1_remainder 22 = .ok (.iload 5, 2) := by decide +kernel
theorem dX1_remainder_24 : decode cX1_remainder 24 = .ok (.invokestatic 40, 3) := by decide +kernel
theorem dX1_remainder_27 : decode cX1_remainder 27 = .ok (.iaload, 1) := by decide +kernel
theorem dX1_remainder_28 : decode cX1_remainder 28 = .ok (.aload_n 0, 1) := by decide +kernel
theorem dX1_remainder_29 : decode cX1_remainder 29 = .ok (.getfield 26, 3) := by decide +kernel
theorem dX1_remainder_32 : decode cX1_remainder 32 = .ok (.iload_n 3, 1) := by decide +kernel
theorem dX1_remainder_33 : decode cX1_remainder 33 = .ok (.iload 5, 2) := by decide +kernel
theorem dX1_remainder_35 : decode cX1_remainder 35 = .ok (.invokestatic 40, 3) := by decide +kernel
theorem dX1_remainder_38 : decode cX1_remainder 38 = .ok (.iaload, 1) := by decide +kernel
theorem dX1_remainder_39 : decode cX1_remainder 39 = .ok (.invokestatic 44, 3) := by decide +kernel
theorem dX1_remainder_42 : decode cX1_remainder 42 = .ok (.istore 6, 2) := by decide +kernel
theorem dX1_remainder_44 : decode cX1_remainder 44 = .ok (.iload 4, 2) := by decide +kernel
theorem dX1_remainder_46 : decode cX1_remainder 46 = .ok (.iload 6, 2) := by decide +kernel
theorem dX1_remainder_48 : decode cX1_remainder 48 = .ok (.aload_n 0, 1) := by decide +kernel
theorem dX1_remainder_49 : decode cX1_remainder 49 = .ok (.getfield 19, 3) := by decide +kernel
theorem dX1_remainder_52 : decode cX1_remainder 52 = .ok (.iload 5, 2) := by decide +kernel
theorem dX1_remainder_54 : decode cX1_remainder 54 = .ok (.iaload, 1) := by decide +kernel
theorem dX1_remainder_55 : decode cX1_remainder 55 = .ok (.invokestatic 44, 3) := by decide +kernel
theorem dX1_remainder_58 : decode cX1_remainder 58 = .ok (.invokestatic 47, 3) := by decide +kernel
theorem dX1_remainder_61 : decode cX1_remainder 61 = .ok (.istore 4, 2) := by decide +kernel
theorem dX1_remainder_63 : decode cX1_remainder 63 = .ok (.iinc 5 1, 3) := by decide +kernel
theorem dX1_remainder_66 : decode cX1_remainder 66 = .ok (.goto (-55), 3) := by decide +kernel
theorem dX1_remainder_69 : decode cX1_remainder 69 = .ok (.iload 4, 2) := by decide +kernel
theorem dX1_remainder_71 : decode cX1_remainder 71 = .ok (.ireturn, 1) := by decide +kernel
theorem dX2_init_0 : decode cX2_init 0 = .ok (.aload_n 0, 1) := by decide +kernel
theorem dX2_init_1 : decode cX2_init 1 = .ok (.invokespecial 3, 3) := by decide +kernel
theorem dX2_init_4 : decode cX2_init 4 = .ok (.aload_n 0, 1) := by decide +kernel
theorem dX2_init_5 : decode cX2_init 5 = .ok (.iconst 1, 1) := by decide +kernel
theorem dX2_init_6 : decode cX2_init 6 = .ok (.putfield 9, 3) := by decide +kernel
theorem dX2_init_9 : decode cX2_init 9 = .ok (.aload_n 0, 1) := by decide +kernel
theorem dX2_init_10 : decode cX2_init 10 = .ok (.sipush 256, 3) := by decide +kernel
theorem dX2_init_13 : decode cX2_init 13 = .ok (.newarray .int, 2) := by decide +kernel
theorem dX2_init_15 : decode cX2_init 15 = .ok (.putfield 15, 3) := by decide +kernel
theorem dX2_init_18 : decode cX2_init 18 = .ok (.aload_n 0, 1) := by decide +kernel
theorem dX2_init_19 : decode cX2_init 19 = .ok (.bipush 16, 2) := by decide +kernel
theorem dX2_init_21 : decode cX2_init 21 = .ok (.newarray .int, 2) := by decide +kernel
theorem dX2_init_23 : decode cX2_init 23 = .ok (.putfield 19, 3) := by decide +kernel
theorem dX2_init_26 : decode cX2_init 26 = .ok (.aload_n 0, 1) := by decide +kernel
theorem dX2_init_27 : decode cX2_init 27 = .ok (.bipush 16, 2) := by decide +kernel
theorem dX2_init_29 : decode cX2_init 29 = .ok (.newarray .int, 2) := by decide +kernel
theorem dX2_init_31 : decode cX2_init 31 = .ok (.putfield 22, 3) := by decide +kernel
theorem dX2_init_34 : decode cX2_init 34 = .ok (.aload_n 0, 1) := by decide +kernel
theorem dX2_init_35 : decode cX2_init 35 = .ok (.bipush 16, 2) := by decide +kernel
theorem dX2_init_37 : decode cX2_init 37 = .ok (.newarray .int, 2) := by decide +kernel
theorem dX2_init_39 : decode cX2_init 39 = .ok (.putfield 25, 3) := by decide +kernel
theorem dX2_init_42 : decode cX2_init 42 = .ok (.aload_n 0, 1) := by decide +kernel
theorem dX2_init_43 : decode cX2_init 43 = .ok (.bipush 16, 2) := by decide +kernel
theorem dX2_init_45 : decode cX2_init 45 = .ok (.newarray .int, 2) := by decide +kernel
theorem dX2_init_47 : decode cX2_init 47 = .ok (.putfield 28, 3) := by decide +kernel
theorem dX2_init_50 : decode cX2_init 50 = .ok (.return_, 1) := by decide +kernel
theorem dX2_begin_0 : decode cX2_begin 0 = .ok (.aload_n 0, 1) := by decide +kernel
theorem dX2_begin_1 : decode cX2_begin 1 = .ok (.iload_n 1, 1) := by decide +kernel
theorem dX2_begin_2 : decode cX2_begin 2 = .ok (.putfield 9, 3) := by decide +kernel
theorem dX2_begin_5 : decode cX2_begin 5 = .ok (.iconst 0, 1) := by decide +kernel
theorem dX2_begin_6 : decode cX2_begin 6 = .ok (.istore_n 2, 1) := by decide +kernel
theorem dX2_begin_7 : decode cX2_begin 7 = .ok (.iload_n 2, 1) := by decide +kernel
theorem dX2_begin_8 : decode cX2_begin 8 = .ok (.iload_n 1, 1) := by decide +kernel
theorem dX2_begin_9 : decode cX2_begin 9 = .ok (.if_icmp .ge 53, 3) := by decide +kernel
theorem dX2_begin_12 : decode cX2_begin 12 = .ok (.iconst 0, 1) := by decide +kernel
theorem dX2_begin_13 : decode cX2_begin 13 = .ok (.istore_n 3, 1) := by decide +kernel
theorem dX2_begin_14 : decode cX2_begin 14 = .ok (.iload_n 3, 1) := by decide +kernel
theorem dX2_begin_15 : decode cX2_begin 15 = .ok (.iload_n 1, 1) := by decide +kernel
theorem dX2_begin_16 : decode cX2_begin 16 = .ok (.if_icmp .ge 20, 3) := by decide +kernel
theorem dX2_begin_19 : decode cX2_begin 19 = .ok (.aload_n 0, 1) := by decide +kernel
theorem dX2_begin_20 : decode cX2_begin 20 = .ok (.getfield 15, 3) := by decide +kernel
theorem dX2_begin_23 : decode cX2_begin 23 = .ok (.iload_n 2, 1) := by decide +kernel
theorem dX2_begin_24 : decode cX2_begin 24 = .ok (.iload_n 3, 1) := by decide +kernel
theorem dX2_begin_25 : decode cX2_begin 25 = .ok (.invokestatic 31, 3) := by decide +kernel
theorem dX2_begin_28 : decode cX2_begin 28 = .ok (.iconst 0, 1) := by decide +kernel
theorem dX2_begin_29 : decode cX2_begin 29 = .ok (.iastore, 1) := by decide +kernel
theorem dX2_begin_30 : decode cX2_begin 30 = .ok (.iinc 3 1, 3) := by decide +kernel
theorem dX2_begin_33 : decode cX2_begin 33 = .ok (.goto (-19), 3) := by decide +kernel
theorem dX2_begin_36 : decode cX2_begin 36 = .ok (.aload_n 0, 1) := by decide +kernel
theorem dX2_begin_37 : decode cX2_begin 37 = .ok (.iload_n 2, 1) := by decide +kernel
theorem dX2_begin_38 : decode cX2_begin 38 = .ok (.iload_n 2, 1) := by decide +kernel
theorem dX2_begin_39 : decode cX2_begin 39 = .ok (.invokevirtual 35, 3) := by decide +kernel
theorem dX2_begin_42 : decode cX2_begin 42 = .ok (.aload_n 0, 1) := by decide +kernel
theorem dX2_begin_43 : decode cX2_begin 43 = .ok (.getfield 25, 3) := by decide +kernel
theorem dX2_begin_46 : decode cX2_begin 46 = .ok (.iload_n 2, 1) := by decide +kernel
theorem dX2_begin_47 : decode cX2_begin 47 = .ok (.iconst 0, 1) := by decide +kernel
theorem dX2_begin_48 : decode cX2_begin 48 = .ok (.iastore, 1) := by decide +kernel
theorem dX2_begin_49 : decode cX2_begin 49 = .ok (.aload_n 0, 1) := by decide +kernel
theorem dX2_begin_50 : decode cX2_begin 50 = .ok (.getfield 28, 3) := by decide +kernel
theorem dX2_begin_53 : decode cX2_begin 53 = .ok (.iload_n 2, 1) := by decide +kernel
theorem dX2_begin_54 : decode cX2_begin 54 = .ok (.iconst 0, 1) := by decide +kernel
theorem dX2_begin_55 : decode cX2_begin 55 = .ok (.iastore, 1) := by decide +kernel
theorem dX2_begin_56 : decode cX2_begin 56 = .ok (.iinc 2 1, 3) := by decide +kernel
theorem dX2_begin_59 : decode cX2_begin 59 = .ok (.goto (-52), 3) := by decide +kernel
theorem dX2_begin_62 : decode cX2_begin 62 = .ok (.return_, 1) := by decide +kernel
theorem dX2_copyFrom_0 : decode cX2_copyFrom 0 = .ok (.aload_n 0, 1) := by decide +kernel
theorem dX2_copyFrom_1 : decode cX2_copyFrom 1 = .ok (.aload_n 1, 1) := by decide +kernel
theorem dX2_copyFrom_2 : decode cX2_copyFrom 2 = .ok (.getfield 9, 3) := by decide +kernel
theorem dX2_copyFrom_5 : decode cX2_copyFrom 5 = .ok (.putfield 9, 3) := by decide +kernel
theorem dX2_copyFrom_8 : decode cX2_copyFrom 8 = .ok (.aload_n 1, 1) := by decide +kernel
theorem dX2_copyFrom_9 : decode cX2_copyFrom 9 = .ok (.getfield 15, 3) := by decide +kernel
theorem dX2_copyFrom_12 : decode cX2_copyFrom 12 = .ok (.iconst 0, 1) := by decide +kernel
theorem dX2_copyFrom_13 : decode cX2_copyFrom 13 = .ok (.aload_n 0, 1) := by decide +kernel
theorem dX2_copyFrom_14 : decode cX2_copyFrom 14 = .ok (.getfield 15, 3) := by decide +kernel
theorem dX2_copyFrom_17 : decode cX2_copyFrom 17 = .ok (.iconst 0, 1) := by decide +kernel
theorem dX2_copyFrom_18 : decode cX2_copyFrom 18 = .ok (.sipush 256, 3) := by decide +kernel
theorem dX2_copyFrom_21 : decode cX2_copyFrom 21 = .ok (.invokestatic 39, 3) := by decide +kernel
theorem dX2_copyFrom_24 : decode cX2_copyFrom 24 = .ok (.aload_n 1, 1) := by decide +kernel
theorem dX2_copyFrom_25 : decode cX2_copyFrom 25 = .ok (.getfield 19, 3) := by decide +kernel
theorem dX2_copyFrom_28 : decode cX2_copyFrom 28 = .ok (.iconst 0, 1) := by decide +kernel
theorem dX2_copyFrom_29 : decode cX2_copyFrom 29 = .ok (.aload_n 0, 1) := by decide +kernel
theorem dX2_copyFrom_30 : decode cX2_copyFrom 30 = .ok (.getfield 19, 3) := by decide +kernel
theorem dX2_copyFrom_33 : decode cX2_copyFrom 33 = .ok (.iconst 0, 1) := by decide +kernel
theorem dX2_copyFrom_34 : decode cX2_copyFrom 34 = .ok (.bipush 16, 2) := by decide +kernel
theorem dX2_copyFrom_36 : decode cX2_copyFrom 36 = .ok (.invokestatic 39, 3) := by decide +kernel
theorem dX2_copyFrom_39 : decode cX2_copyFrom 39 = .ok (.aload_n 1, 1) := by decide +kernel
theorem dX2_copyFrom_40 : decode cX2_copyFrom 40 = .ok (.getfield 22, 3) := by decide +kernel
theorem dX2_copyFrom_43 : decode cX2_copyFrom 43 = .ok (.iconst 0, 1) := by decide +kernel
theorem dX2_copyFrom_44 : decode cX2_copyFrom 44 = .ok (.aload_n 0, 1) := by decide +kernel
theorem dX2_copyFrom_45 : decode cX2_copyFrom 45 = .ok (.getfield 22, 3) := by decide +kernel
theorem dX2_copyFrom_48 : decode cX2_copyFrom 48 = .ok (.iconst 0, 1) := by decide +kernel
theorem dX2_copyFrom_49 : decode cX2_copyFrom 49 = .ok (.bipush 16, 2) := by decide +kernel
theorem dX2_copyFrom_51 : decode cX2_copyFrom 51 = .ok (.invokestatic 39, 3) := by decide +kernel
theorem dX2_copyFrom_54 : decode cX2_copyFrom 54 = .ok (.aload_n 1, 1) := by decide +kernel
theorem dX2_copyFrom_55 : decode cX2_copyFrom 55 = .ok (.getfield 25, 3) := by decide +kernel
theorem dX2_copyFrom_58 : decode cX2_copyFrom 58 = .ok (.iconst 0, 1) := by decide +kernel
theorem dX2_copyFrom_59 : decode cX2_copyFrom 59 = .ok (.aload_n 0, 1) := by decide +kernel
theorem dX2_copyFrom_60 : decode cX2_copyFrom 60 = .ok (.getfield 25, 3) := by decide +kernel
theorem dX2_copyFrom_63 : decode cX2_copyFrom 63 = .ok (.iconst 0, 1) := by decide +kernel
theorem dX2_copyFrom_64 : decode cX2_copyFrom 64 = .ok (.bipush 16, 2) := by decide +kernel
theorem dX2_copyFrom_66 : decode cX2_copyFrom 66 = .ok (.invokestatic 39, 3) := by decide +kernel
theorem dX2_copyFrom_69 : decode cX2_copyFrom 69 = .ok (.aload_n 1, 1) := by decide +kernel
theorem dX2_copyFrom_70 : decode cX2_copyFrom 70 = .ok (.getfield 28, 3) := by decide +kernel
theorem dX2_copyFrom_73 : decode cX2_copyFrom 73 = .ok (.iconst 0, 1) := by decide +kernel
theorem dX2_copyFrom_74 : decode cX2_copyFrom 74 = .ok (.aload_n 0, 1) := by decide +kernel
theorem dX2_copyFrom_75 : decode cX2_copyFrom 75 = .ok (.getfield 28, 3) := by decide +kernel
theorem dX2_copyFrom_78 : decode cX2_copyFrom 78 = .ok (.iconst 0, 1) := by decide +kernel
theorem dX2_copyFrom_79 : decode cX2_copyFrom 79 = .ok (.bipush 16, 2) := by decide +kernel
theorem dX2_copyFrom_81 : decode cX2_copyFrom 81 = .ok (.invokestatic 39, 3) := by decide +kernel
theorem dX2_copyFrom_84 : decode cX2_copyFrom 84 = .ok (.return_, 1) := by decide +kernel
theorem dX2_entryAt_0 : decode cX2_entryAt 0 = .ok (.aload_n 0, 1) := by decide +kernel
theorem dX2_entryAt_1 : decode cX2_entryAt 1 = .ok (.getfield 15, 3) := by decide +kernel
theorem dX2_entryAt_4 : decode cX2_entryAt 4 = .ok (.iload_n 1, 1) := by decide +kernel
theorem dX2_entryAt_5 : decode cX2_entryAt 5 = .ok (.iload_n 2, 1) := by decide +kernel
theorem dX2_entryAt_6 : decode cX2_entryAt 6 = .ok (.invokestatic 31, 3) := by decide +kernel
theorem dX2_entryAt_9 : decode cX2_entryAt 9 = .ok (.iaload, 1) := by decide +kernel
theorem dX2_entryAt_10 : decode cX2_entryAt 10 = .ok (.ireturn, 1) := by decide +kernel
theorem dX2_putEntry_0 : decode cX2_putEntry 0 = .ok (.aload_n 0, 1) := by decide +kernel
theorem dX2_putEntry_1 : decode cX2_putEntry 1 = .ok (.getfield 15, 3) := by decide +kernel
theorem dX2_putEntry_4 : decode cX2_putEntry 4 = .ok (.iload_n 1, 1) := by decide +kernel
theorem dX2_putEntry_5 : decode cX2_putEntry 5 = .ok (.iload_n 2, 1) := by decide +kernel
theorem dX2_putEntry_6 : decode cX2_putEntry 6 = .ok (.invokestatic 31, 3) := by decide +kernel
theorem dX2_putEntry_9 : decode cX2_putEntry 9 = .ok (.iload_n 3, 1) := by decide +kernel
theorem dX2_putEntry_10 : decode cX2_putEntry 10 = .ok (.iastore, 1) := by decide +kernel
theorem dX2_putEntry_11 : decode cX2_putEntry 11 = .ok (.aload_n 0, 1) := by decide +kernel
theorem dX2_putEntry_12 : decode cX2_putEntry 12 = .ok (.getfield 15, 3) := by decide +kernel
theorem dX2_putEntry_15 : decode cX2_putEntry 15 = .ok (.iload_n 2, 1) := by decide +kernel
theorem dX2_putEntry_16 : decode cX2_putEntry 16 = .ok (.iload_n 1, 1) := by decide +kernel
theorem dX2_putEntry_17 : decode cX2_putEntry 17 = .ok (.invokestatic 31, 3) := by decide +kernel
theorem dX2_putEntry_20 : decode cX2_putEntry 20 = .ok (.iload_n 3, 1) := by decide +kernel
theorem dX2_putEntry_21 : decode cX2_putEntry 21 = .ok (.iastore, 1) := by decide +kernel
theorem dX2_putEntry_22 : decode cX2_putEntry 22 = .ok (.return_, 1) := by decide +kernel
theorem dX2_entryAtPositions_0 : decode cX2_entryAtPositions 0 = .ok (.aload_n 0, 1) := by decide +kernel
theorem dX2_entryAtPositions_1 : decode cX2_entryAtPositions 1 = .ok (.getfield 15, 3) := by decide +kernel
theorem dX2_entryAtPositions_4 : decode cX2_entryAtPositions 4 = .ok (.aload_n 0, 1) := by decide +kernel
theorem dX2_entryAtPositions_5 : decode cX2_entryAtPositions 5 = .ok (.getfield 19, 3) := by decide +kernel
theorem dX2_entryAtPositions_8 : decode cX2_entryAtPositions 8 = .ok (.iload_n 1, 1) := by decide +kernel
theorem dX2_entryAtPositions_9 : decode cX2_entryAtPositions 9 = .ok (.iaload, 1) := by decide +kernel
theorem dX2_entryAtPositions_10 : decode cX2_entryAtPositions 10 = .ok (.aload_n 0, 1) := by decide +kernel
theorem dX2_entryAtPositions_11 : decode cX2_entryAtPositions 11 = .ok (.getfield 19, 3) := by decide +kernel
theorem dX2_entryAtPositions_14 : decode cX2_entryAtPositions 14 = .ok (.iload_n 2, 1) := by decide +kernel
theorem dX2_entryAtPositions_15 : decode cX2_entryAtPositions 15 = .ok (.iaload, 1) := by decide +kernel
theorem dX2_entryAtPositions_16 : decode cX2_entryAtPositions 16 = .ok (.invokestatic 31, 3) := by decide +kernel
theorem dX2_entryAtPositions_19 : decode cX2_entryAtPositions 19 = .ok (.iaload, 1) := by decide +kernel
theorem dX2_entryAtPositions_20 : decode cX2_entryAtPositions 20 = .ok (.ireturn, 1) := by decide +kernel
theorem dX2_addWeights_0 : decode cX2_addWeights 0 = .ok (.iconst 0, 1) := by decide +kernel
theorem dX2_addWeights_1 : decode cX2_addWeights 1 = .ok (.istore_n 2, 1) := by decide +kernel
theorem dX2_addWeights_2 : decode cX2_addWeights 2 = .ok (.iload_n 2, 1) := by decide +kernel
theorem dX2_addWeights_3 : decode cX2_addWeights 3 = .ok (.aload_n 0, 1) := by decide +kernel
theorem dX2_addWeights_4 : decode cX2_addWeights 4 = .ok (.getfield 9, 3) := by decide +kernel
theorem dX2_addWeights_7 : decode cX2_addWeights 7 = .ok (.if_icmp .ge 63, 3) := by decide +kernel
theorem dX2_addWeights_10 : decode cX2_addWeights 10 = .ok (.iload_n 1, 1) := by decide +kernel
theorem dX2_addWeights_11 : decode cX2_addWeights 11 = .ok (.aload_n 0, 1) := by decide +kernel
theorem dX2_addWeights_12 : decode cX2_addWeights 12 = .ok (.getfield 28, 3) := by decide +kernel
theorem dX2_addWeights_15 : decode cX2_addWeights 15 = .ok (.iload_n 2, 1) := by decide +kernel
theorem dX2_addWeights_16 : decode cX2_addWeights 16 = .ok (.iaload, 1) := by decide +kernel
theorem dX2_addWeights_17 : decode cX2_addWeights 17 = .ok (.invokestatic 45, 3) := by decide +kernel
theorem dX2_addWeights_20 : decode cX2_addWeights 20 = .ok (.istore_n 3, 1) := by decide +kernel
theorem dX2_addWeights_21 : decode cX2_addWeights 21 = .ok (.iconst 0, 1) := by decide +kernel
theorem dX2_addWeights_22 : decode cX2_addWeights 22 = .ok (.istore 4, 2) := by decide +kernel
theorem dX2_addWeights_24 : decode cX2_addWeights 24 = .ok (.iload 4, 2) := by decide +kernel
theorem dX2_addWeights_26 : decode cX2_addWeights 26 = .ok (.iload_n 2, 1) := by decide +kernel
theorem dX2_addWeights_27 : decode cX2_addWeights 27 = .ok (.if_icmp .gt 37, 3) := by decide +kernel
theorem dX2_addWeights_30 : decode cX2_addWeights 30 = .ok (.aload_n 0, 1) := by decide +kernel
theorem dX2_addWeights_31 : decode cX2_addWeights 31 = .ok (.iload_n 2, 1) := by decide +kernel
theorem dX2_addWeights_32 : decode cX2_addWeights 32 = .ok (.iload 4, 2) := by decide +kernel
theorem dX2_addWeights_34 : decode cX2_addWeights 34 = .ok (.aload_n 0, 1) := by decide +kernel
theorem dX2_addWeights_35 : decode cX2_addWeights 35 = .ok (.iload_n 2, 1) := by decide +kernel
theorem dX2_addWeights_36 : decode cX2_addWeights 36 = .ok (.iload 4, 2) := by decide +kernel
theorem dX2_addWeights_38 : decode cX2_addWeights 38 = .ok (.invokevirtual 48, 3) := by decide +kernel
theorem dX2_addWeights_41 : decode cX2_addWeights 41 = .ok (.iload_n 3, 1) := by decide +kernel
theorem dX2_addWeights_42 : decode cX2_addWeights 42 = .ok (.aload_n 0, 1) := by decide +kernel
theorem dX2_addWeights_43 : decode cX2_addWeights 43 = .ok (.getfield 28, 3) := by decide +kernel
theorem dX2_addWeights_46 : decode cX2_addWeights 46 = .ok (.iload 4, 2) := by decide +kernel
theorem dX2_addWeights_48 : decode cX2_addWeights 48 = .ok (.iaload, 1) := by decide +kernel
theorem dX2_addWeights_49 : decode cX2_addWeights 49 = .ok (.invokestatic 45, 3) := by decide +kernel
theorem dX2_addWeights_52 : decode cX2_addWeights 52 = .ok (.invokestatic 51, 3) := by decide +kernel
theorem dX2_addWeights_55 : decode cX2_addWeights 55 = .ok (.invokevirtual 54, 3) := by decide +kernel
theorem dX2_addWeights_58 : decode cX2_addWeights 58 = .ok (.iinc 4 1, 3) := by decide +kernel
theorem dX2_addWeights_61 : decode cX2_addWeights 61 = .ok (.goto (-37), 3) := by decide +kernel
theorem dX2_addWeights_64 : decode cX2_addWeights 64 = .ok (.iinc 2 1, 3) := by decide +kernel
theorem dX2_addWeights_67 : decode cX2_addWeights 67 = .ok (.goto (-65), 3) := by decide +kernel
theorem dX2_addWeights_70 : decode cX2_addWeights 70 = .ok (.return_, 1) := by decide +kernel
theorem dX2_allRows_0 : decode cX2_allRows 0 = .ok (.aload_n 0, 1) := by decide +kernel
theorem dX2_allRows_1 : decode cX2_allRows 1 = .ok (.getfield 9, 3) := by decide +kernel
theorem dX2_allRows_4 : decode cX2_allRows 4 = .ok (.invokestatic 58, 3) := by decide +kernel
theorem dX2_allRows_7 : decode cX2_allRows 7 = .ok (.iconst 1, 1) := by decide +kernel
theorem dX2_allRows_8 : decode cX2_allRows 8 = .ok (.isub, 1) := by decide +kernel
theorem dX2_allRows_9 : decode cX2_allRows 9 = .ok (.ireturn, 1) := by decide +kernel
theorem dX2_linksOf_0 : decode cX2_linksOf 0 = .ok (.iconst 0, 1) := by decide +kernel
theorem dX2_linksOf_1 : decode cX2_linksOf 1 = .ok (.istore_n 2, 1) := by decide +kernel
theorem dX2_linksOf_2 : decode cX2_linksOf 2 = .ok (.iconst 0, 1) := by decide +kernel
theorem dX2_linksOf_3 : decode cX2_linksOf 3 = .ok (.istore_n 3, 1) := by decide +kernel
theorem dX2_linksOf_4 : decode cX2_linksOf 4 = .ok (.iload_n 3, 1) := by decide +kernel
theorem dX2_linksOf_5 : decode cX2_linksOf 5 = .ok (.aload_n 0, 1) := by decide +kernel
theorem dX2_linksOf_6 : decode cX2_linksOf 6 = .ok (.getfield 9, 3) := by decide +kernel
theorem dX2_linksOf_9 : decode cX2_linksOf 9 = .ok (.if_icmp .ge 30, 3) := by decide +kernel
theorem dX2_linksOf_12 : decode cX2_linksOf 12 = .ok (.iload_n 3, 1) := by decide +kernel
theorem dX2_linksOf_13 : decode cX2_linksOf 13 = .ok (.iload_n 1, 1) := by decide +kernel
theorem dX2_linksOf_14 : decode cX2_linksOf 14 = .ok (.if_icmp .eq 19, 3) := by decide +kernel
theorem dX2_linksOf_17 : decode cX2_linksOf 17 = .ok (.aload_n 0, 1) := by decide +kernel
theorem dX2_linksOf_18 : decode cX2_linksOf 18 = .ok (.iload_n 1, 1) := by decide +kernel
theorem dX2_linksOf_19 : decode cX2_linksOf 19 = .ok (.iload_n 3, 1) := by decide +kernel
theorem dX2_linksOf_20 : decode cX2_linksOf 20 = .ok (.invokevirtual 48, 3) := by decide +kernel
theorem dX2_linksOf_23 : decode cX2_linksOf 23 = .ok (.ifCond .eq 10, 3) := by decide +kernel
theorem dX2_linksOf_26 : decode cX2_linksOf 26 = .ok (.iload_n 2, 1) := by decide +kernel
theorem dX2_linksOf_27 : decode cX2_linksOf 27 = .ok (.iload_n 3, 1) := by decide +kernel
theorem dX2_linksOf_28 : decode cX2_linksOf 28 = .ok (.invokestatic 58, 3) := by decide +kernel
theorem dX2_linksOf_31 : decode cX2_linksOf 31 = .ok (.ior, 1) := by decide +kernel
theorem dX2_linksOf_32 : decode cX2_linksOf 32 = .ok (.istore_n 2, 1) := by decide +kernel
theorem dX2_linksOf_33 : decode cX2_linksOf 33 = .ok (.iinc 3 1, 3) := by decide +kernel
theorem dX2_linksOf_36 : decode cX2_linksOf 36 = .ok (.goto (-32), 3) := by decide +kernel
theorem dX2_linksOf_39 : decode cX2_linksOf 39 = .ok (.iload_n 2, 1) := by decide +kernel
theorem dX2_linksOf_40 : decode cX2_linksOf 40 = .ok (.ireturn, 1) := by decide +kernel
theorem dX2_countLinks_0 : decode cX2_countLinks 0 = .ok (.iconst 0, 1) := by decide +kernel
theorem dX2_countLinks_1 : decode cX2_countLinks 1 = .ok (.istore_n 1, 1) := by decide +kernel
theorem dX2_countLinks_2 : decode cX2_countLinks 2 = .ok (.iconst 0, 1) := by decide +kernel
theorem dX2_countLinks_3 : decode cX2_countLinks 3 = .ok (.istore_n 2, 1) := by decide +kernel
theorem dX2_countLinks_4 : decode cX2_countLinks 4 = .ok (.iload_n 2, 1) := by decide +kernel
theorem dX2_countLinks_5 : decode cX2_countLinks 5 = .ok (.aload_n 0, 1) := by decide +kernel
theorem dX2_countLinks_6 : decode cX2_countLinks 6 = .ok (.getfield 9, 3) := by decide +kernel
theorem dX2_countLinks_9 : decode cX2_countLinks 9 = .ok (.if_icmp .ge 20, 3) := by decide +kernel
theorem dX2_countLinks_12 : decode cX2_countLinks 12 = .ok (.iload_n 1, 1) := by decide +kernel
theorem dX2_countLinks_13 : decode cX2_countLinks 13 = .ok (.aload_n 0, 1) := by decide +kernel
theorem dX2_countLinks_14 : decode cX2_countLinks 14 = .ok (.iload_n 2, 1) := by decide +kernel
theorem dX2_countLinks_15 : decode cX2_countLinks 15 = .ok (.invokevirtual 62, 3) := by decide +kernel
theorem dX2_countLinks_18 : decode cX2_countLinks 18 = .ok (.invokestatic 65, 3) := by decide +kernel
theorem dX2_countLinks_21 : decode cX2_countLinks 21 = .ok (.iadd, 1) := by decide +kernel
theorem dX2_countLinks_22 : decode cX2_countLinks 22 = .ok (.istore_n 1, 1) := by decide +kernel
theorem dX2_countLinks_23 : decode cX2_countLinks 23 = .ok (.iinc 2 1, 3) := by decide +kernel
theorem dX2_countLinks_26 : decode cX2_countLinks 26 = .ok (.goto (-22), 3) := by decide +kernel
theorem dX2_countLinks_29 : decode cX2_countLinks 29 = .ok (.iload_n 1, 1) := by decide +kernel
theorem dX2_countLinks_30 : decode cX2_countLinks 30 = .ok (.iconst 2, 1) := by decide +kernel
theorem dX2_countLinks_31 : decode cX2_countLinks 31 = .ok (.idiv, 1) := by decide +kernel
theorem dX2_countLinks_32 : decode cX2_countLinks 32 = .ok (.ireturn, 1) := by decide +kernel
theorem dX2_reachBack_0 : decode cX2_reachBack 0 = .ok (.aload_n 0, 1) := by decide +kernel
theorem dX2_reachBack_1 : decode cX2_reachBack 1 = .ok (.getfield 22, 3) := by decide +kernel
theorem dX2_reachBack_4 : decode cX2_reachBack 4 = .ok (.iload_n 1, 1) := by decide +kernel
theorem dX2_reachBack_5 : decode cX2_reachBack 5 = .ok (.iaload, 1) := by decide +kernel
theorem dX2_reachBack_6 : decode cX2_reachBack 6 = .ok (.istore_n 2, 1) := by decide +kernel
theorem dX2_reachBack_7 : decode cX2_reachBack 7 = .ok (.iconst 0, 1) := by decide +kernel
theorem dX2_reachBack_8 : decode cX2_reachBack 8 = .ok (.istore_n 3, 1) := by decide +kernel
theorem dX2_reachBack_9 : decode cX2_reachBack 9 = .ok (.iload_n 3, 1) := by decide +kernel
theorem dX2_reachBack_10 : decode cX2_reachBack 10 = .ok (.aload_n 0, 1) := by decide +kernel
theorem dX2_reachBack_11 : decode cX2_reachBack 11 = .ok (.getfield 9, 3) := by decide +kernel
theorem dX2_reachBack_14 : decode cX2_reachBack 14 = .ok (.if_icmp .ge 29, 3) := by decide +kernel
theorem dX2_reachBack_17 : decode cX2_reachBack 17 = .ok (.aload_n 0, 1) := by decide +kernel
theorem dX2_reachBack_18 : decode cX2_reachBack 18 = .ok (.iload_n 1, 1) := by decide +kernel
theorem dX2_reachBack_19 : decode cX2_reachBack 19 = .ok (.iload_n 3, 1) := by decide +kernel
