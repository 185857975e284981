theorem dX5_reverse_21 : decode cX5_reverse 21 = .ok (.if_icmp .ge 22, 3) := by decide +kernel
theorem dX5_reverse_24 : decode cX5_reverse 24 = .ok (.aload_n 0, 1) := by decide +kernel
theorem dX5_reverse_25 : decode cX5_reverse 25 = .ok (.iload_n 1, 1) := by decide +kernel
theorem dX5_reverse_26 : decode cX5_reverse 26 = .ok (.aload_n 0, 1) := by decide +kernel
theorem dX5_reverse_27 : decode cX5_reverse 27 = .ok (.getfield 9, 3) := by decide +kernel
theorem dX5_reverse_30 : decode cX5_reverse 30 = .ok (.iconst 1, 1) := by decide +kernel
theorem dX5_reverse_31 : decode cX5_reverse 31 = .ok (.isub, 1) := by decide +kernel
theorem dX5_reverse_32 : decode cX5_reverse 32 = .ok (.iload_n 1, 1) := by decide +kernel
theorem dX5_reverse_33 : decode cX5_reverse 33 = .ok (.isub, 1) := by decide +kernel
theorem dX5_reverse_34 : decode cX5_reverse 34 = .ok (.invokevirtual 106, 3) := by decide +kernel
theorem dX5_reverse_37 : decode cX5_reverse 37 = .ok (.iinc 1 1, 3) := by decide +kernel
theorem dX5_reverse_40 : decode cX5_reverse 40 = .ok (.goto (-28), 3) := by decide +kernel
theorem dX5_reverse_43 : decode cX5_reverse 43 = .ok (.aload_n 0, 1) := by decide +kernel
theorem dX5_reverse_44 : decode cX5_reverse 44 = .ok (.invokevirtual 122, 3) := by decide +kernel
theorem dX5_reverse_47 : decode cX5_reverse 47 = .ok (.ireturn, 1) := by decide +kernel
theorem dX5_position_0 : decode cX5_position 0 = .ok (.aload_n 0, 1) := by decide +kernel
theorem dX5_position_1 : decode cX5_position 1 = .ok (.iconst 0, 1) := by decide +kernel
theorem dX5_position_2 : decode cX5_position 2 = .ok (.putfield 51, 3) := by decide +kernel
theorem dX5_position_5 : decode cX5_position 5 = .ok (.aload_n 0, 1) := by decide +kernel
theorem dX5_position_6 : decode cX5_position 6 = .ok (.iload_n 1, 1) := by decide +kernel
theorem dX5_position_7 : decode cX5_position 7 = .ok (.invokevirtual 76, 3) := by decide +kernel
theorem dX5_position_10 : decode cX5_position 10 = .ok (.ifCond .eq 12, 3) := by decide +kernel
theorem dX5_position_13 : decode cX5_position 13 = .ok (.aload_n 0, 1) := by decide +kernel
theorem dX5_position_14 : decode cX5_position 14 = .ok (.getfield 20, 3) := by decide +kernel
theorem dX5_position_17 : decode cX5_position 17 = .ok (.iload_n 1, 1) := by decide +kernel
theorem dX5_position_18 : decode cX5_position 18 = .ok (.iaload, 1) := by decide +kernel
theorem dX5_position_19 : decode cX5_position 19 = .ok (.goto 8, 3) := by decide +kernel
theorem dX5_position_22 : decode cX5_position 22 = .ok (.aload_n 0, 1) := by decide +kernel
theorem dX5_position_23 : decode cX5_position 23 = .ok (.iconst 1, 1) := by decide +kernel
theorem dX5_position_24 : decode cX5_position 24 = .ok (.invokevirtual 72, 3) := by decide +kernel
theorem dX5_position_27 : decode cX5_position 27 = .ok (.ireturn, 1) := by decide +kernel
theorem dX5_rowAt_0 : decode cX5_rowAt 0 = .ok (.aload_n 0, 1) := by decide +kernel
theorem dX5_rowAt_1 : decode cX5_rowAt 1 = .ok (.iconst 0, 1) := by decide +kernel
theorem dX5_rowAt_2 : decode cX5_rowAt 2 = .ok (.putfield 51, 3) := by decide +kernel
theorem dX5_rowAt_5 : decode cX5_rowAt 5 = .ok (.aload_n 0, 1) := by decide +kernel
theorem dX5_rowAt_6 : decode cX5_rowAt 6 = .ok (.iload_n 1, 1) := by decide +kernel
theorem dX5_rowAt_7 : decode cX5_rowAt 7 = .ok (.invokevirtual 76, 3) := by decide +kernel
theorem dX5_rowAt_10 : decode cX5_rowAt 10 = .ok (.ifCond .eq 12, 3) := by decide +kernel
theorem dX5_rowAt_13 : decode cX5_rowAt 13 = .ok (.aload_n 0, 1) := by decide +kernel
theorem dX5_rowAt_14 : decode cX5_rowAt 14 = .ok (.getfield 17, 3) := by decide +kernel
theorem dX5_rowAt_17 : decode cX5_rowAt 17 = .ok (.iload_n 1, 1) := by decide +kernel
theorem dX5_rowAt_18 : decode cX5_rowAt 18 = .ok (.iaload, 1) := by decide +kernel
theorem dX5_rowAt_19 : decode cX5_rowAt 19 = .ok (.goto 8, 3) := by decide +kernel
theorem dX5_rowAt_22 : decode cX5_rowAt 22 = .ok (.aload_n 0, 1) := by decide +kernel
theorem dX5_rowAt_23 : decode cX5_rowAt 23 = .ok (.iconst 1, 1) := by decide +kernel
theorem dX5_rowAt_24 : decode cX5_rowAt 24 = .ok (.invokevirtual 72, 3) := by decide +kernel
theorem dX5_rowAt_27 : decode cX5_rowAt 27 = .ok (.ireturn, 1) := by decide +kernel
theorem dX5_bandwidth_0 : decode cX5_bandwidth 0 = .ok (.aload_n 0, 1) := by decide +kernel
theorem dX5_bandwidth_1 : decode cX5_bandwidth 1 = .ok (.iconst 0, 1) := by decide +kernel
theorem dX5_bandwidth_2 : decode cX5_bandwidth 2 = .ok (.putfield 51, 3) := by decide +kernel
theorem dX5_bandwidth_5 : decode cX5_bandwidth 5 = .ok (.iconst 0, 1) := by decide +kernel
theorem dX5_bandwidth_6 : decode cX5_bandwidth 6 = .ok (.istore_n 1, 1) := by decide +kernel
theorem dX5_bandwidth_7 : decode cX5_bandwidth 7 = .ok (.iconst 0, 1) := by decide +kernel
theorem dX5_bandwidth_8 : decode cX5_bandwidth 8 = .ok (.istore_n 2, 1) := by decide +kernel
theorem dX5_bandwidth_9 : decode cX5_bandwidth 9 = .ok (.iload_n 2, 1) := by decide +kernel
theorem dX5_bandwidth_10 : decode cX5_bandwidth 10 = .ok (.aload_n 0, 1) := by decide +kernel
theorem dX5_bandwidth_11 : decode cX5_bandwidth 11 = .ok (.getfield 9, 3) := by decide +kernel
theorem dX5_bandwidth_14 : decode cX5_bandwidth 14 = .ok (.if_icmp .ge 52, 3) := by decide +kernel
theorem dX5_bandwidth_17 : decode cX5_bandwidth 17 = .ok (.iconst 0, 1) := by decide +kernel
theorem dX5_bandwidth_18 : decode cX5_bandwidth 18 = .ok (.istore_n 3, 1) := by decide +kernel
theorem dX5_bandwidth_19 : decode cX5_bandwidth 19 = .ok (.iload_n 3, 1) := by decide +kernel
theorem dX5_bandwidth_20 : decode cX5_bandwidth 20 = .ok (.aload_n 0, 1) := by decide +kernel
theorem dX5_bandwidth_21 : decode cX5_bandwidth 21 = .ok (.getfield 9, 3) := by decide +kernel
theorem dX5_bandwidth_24 : decode cX5_bandwidth 24 = .ok (.if_icmp .ge 36, 3) := by decide +kernel
theorem dX5_bandwidth_27 : decode cX5_bandwidth 27 = .ok (.aload_n 0, 1) := by decide +kernel
theorem dX5_bandwidth_28 : decode cX5_bandwidth 28 = .ok (.iload_n 2, 1) := by decide +kernel
theorem dX5_bandwidth_29 : decode cX5_bandwidth 29 = .ok (.iload_n 3, 1) := by decide +kernel
theorem dX5_bandwidth_30 : decode cX5_bandwidth 30 = .ok (.invokevirtual 83, 3) := by decide +kernel
theorem dX5_bandwidth_33 : decode cX5_bandwidth 33 = .ok (.ifCond .eq 21, 3) := by decide +kernel
theorem dX5_bandwidth_36 : decode cX5_bandwidth 36 = .ok (.iload_n 1, 1) := by decide +kernel
theorem dX5_bandwidth_37 : decode cX5_bandwidth 37 = .ok (.aload_n 0, 1) := by decide +kernel
theorem dX5_bandwidth_38 : decode cX5_bandwidth 38 = .ok (.getfield 20, 3) := by decide +kernel
theorem dX5_bandwidth_41 : decode cX5_bandwidth 41 = .ok (.iload_n 2, 1) := by decide +kernel
theorem dX5_bandwidth_42 : decode cX5_bandwidth 42 = .ok (.iaload, 1) := by decide +kernel
theorem dX5_bandwidth_43 : decode cX5_bandwidth 43 = .ok (.aload_n 0, 1) := by decide +kernel
theorem dX5_bandwidth_44 : decode cX5_bandwidth 44 = .ok (.getfield 20, 3) := by decide +kernel
theorem dX5_bandwidth_47 : decode cX5_bandwidth 47 = .ok (.iload_n 3, 1) := by decide +kernel
theorem dX5_bandwidth_48 : decode cX5_bandwidth 48 = .ok (.iaload, 1) := by decide +kernel
theorem dX5_bandwidth_49 : decode cX5_bandwidth 49 = .ok (.isub, 1) := by decide +kernel
theorem dX5_bandwidth_50 : decode cX5_bandwidth 50 = .ok (.invokestatic 125, 3) := by decide +kernel
theorem dX5_bandwidth_53 : decode cX5_bandwidth 53 = .ok (.istore_n 1, 1) := by decide +kernel
theorem dX5_bandwidth_54 : decode cX5_bandwidth 54 = .ok (.iinc 3 1, 3) := by decide +kernel
theorem dX5_bandwidth_57 : decode cX5_bandwidth 57 = .ok (.goto (-38), 3) := by decide +kernel
theorem dX5_bandwidth_60 : decode cX5_bandwidth 60 = .ok (.iinc 2 1, 3) := by decide +kernel
theorem dX5_bandwidth_63 : decode cX5_bandwidth 63 = .ok (.goto (-54), 3) := by decide +kernel
theorem dX5_bandwidth_66 : decode cX5_bandwidth 66 = .ok (.iload_n 1, 1) := by decide +kernel
theorem dX5_bandwidth_67 : decode cX5_bandwidth 67 = .ok (.ireturn, 1) := by decide +kernel
theorem dX5_profile_0 : decode cX5_profile 0 = .ok (.aload_n 0, 1) := by decide +kernel
theorem dX5_profile_1 : decode cX5_profile 1 = .ok (.iconst 0, 1) := by decide +kernel
theorem dX5_profile_2 : decode cX5_profile 2 = .ok (.putfield 51, 3) := by decide +kernel
theorem dX5_profile_5 : decode cX5_profile 5 = .ok (.iconst 0, 1) := by decide +kernel
theorem dX5_profile_6 : decode cX5_profile 6 = .ok (.istore_n 1, 1) := by decide +kernel
theorem dX5_profile_7 : decode cX5_profile 7 = .ok (.iconst 0, 1) := by decide +kernel
theorem dX5_profile_8 : decode cX5_profile 8 = .ok (.istore_n 2, 1) := by decide +kernel
theorem dX5_profile_9 : decode cX5_profile 9 = .ok (.iload_n 2, 1) := by decide +kernel
theorem dX5_profile_10 : decode cX5_profile 10 = .ok (.aload_n 0, 1) := by decide +kernel
theorem dX5_profile_11 : decode cX5_profile 11 = .ok (.getfield 9, 3) := by decide +kernel
theorem dX5_profile_14 : decode cX5_profile 14 = .ok (.if_icmp .ge 67, 3) := by decide +kernel
theorem dX5_profile_17 : decode cX5_profile 17 = .ok (.aload_n 0, 1) := by decide +kernel
theorem dX5_profile_18 : decode cX5_profile 18 = .ok (.getfield 20, 3) := by decide +kernel
theorem dX5_profile_21 : decode cX5_profile 21 = .ok (.iload_n 2, 1) := by decide +kernel
theorem dX5_profile_22 : decode cX5_profile 22 = .ok (.iaload, 1) := by decide +kernel
theorem dX5_profile_23 : decode cX5_profile 23 = .ok (.istore_n 3, 1) := by decide +kernel
theorem dX5_profile_24 : decode cX5_profile 24 = .ok (.iconst 0, 1) := by decide +kernel
theorem dX5_profile_25 : decode cX5_profile 25 = .ok (.istore 4, 2) := by decide +kernel
theorem dX5_profile_27 : decode cX5_profile 27 = .ok (.iload 4, 2) := by decide +kernel
theorem dX5_profile_29 : decode cX5_profile 29 = .ok (.aload_n 0, 1) := by decide +kernel
theorem dX5_profile_30 : decode cX5_profile 30 = .ok (.getfield 9, 3) := by decide +kernel
theorem dX5_profile_33 : decode cX5_profile 33 = .ok (.if_icmp .ge 31, 3) := by decide +kernel
theorem dX5_profile_36 : decode cX5_profile 36 = .ok (.aload_n 0, 1) := by decide +kernel
theorem dX5_profile_37 : decode cX5_profile 37 = .ok (.iload_n 2, 1) := by decide +kernel
theorem dX5_profile_38 : decode cX5_profile 38 = .ok (.iload 4, 2) := by decide +kernel
theorem dX5_profile_40 : decode cX5_profile 40 = .ok (.invokevirtual 83, 3) := by decide +kernel
theorem dX5_profile_43 : decode cX5_profile 43 = .ok (.ifCond .eq 15, 3) := by decide +kernel
theorem dX5_profile_46 : decode cX5_profile 46 = .ok (.iload_n 3, 1) := by decide +kernel
theorem dX5_profile_47 : decode cX5_profile 47 = .ok (.aload_n 0, 1) := by decide +kernel
theorem dX5_profile_48 : decode cX5_profile 48 = .ok (.getfield 20, 3) := by decide +kernel
theorem dX5_profile_51 : decode cX5_profile 51 = .ok (.iload 4, 2) := by decide +kernel
theorem dX5_profile_53 : decode cX5_profile 53 = .ok (.iaload, 1) := by decide +kernel
theorem dX5_profile_54 : decode cX5_profile 54 = .ok (.invokestatic 130, 3) := by decide +kernel
theorem dX5_profile_57 : decode cX5_profile 57 = .ok (.istore_n 3, 1) := by decide +kernel
theorem dX5_profile_58 : decode cX5_profile 58 = .ok (.iinc 4 1, 3) := by decide +kernel
theorem dX5_profile_61 : decode cX5_profile 61 = .ok (.goto (-34), 3) := by decide +kernel
theorem dX5_profile_64 : decode cX5_profile 64 = .ok (.iload_n 1, 1) := by decide +kernel
theorem dX5_profile_65 : decode cX5_profile 65 = .ok (.aload_n 0, 1) := by decide +kernel
theorem dX5_profile_66 : decode cX5_profile 66 = .ok (.getfield 20, 3) := by decide +kernel
theorem dX5_profile_69 : decode cX5_profile 69 = .ok (.iload_n 2, 1) := by decide +kernel
theorem dX5_profile_70 : decode cX5_profile 70 = .ok (.iaload, 1) := by decide +kernel
theorem dX5_profile_71 : decode cX5_profile 71 = .ok (.iload_n 3, 1) := by decide +kernel
theorem dX5_profile_72 : decode cX5_profile 72 = .ok (.isub, 1) := by decide +kernel
theorem dX5_profile_73 : decode cX5_profile 73 = .ok (.iadd, 1) := by decide +kernel
theorem dX5_profile_74 : decode cX5_profile 74 = .ok (.istore_n 1, 1) := by decide +kernel
theorem dX5_profile_75 : decode cX5_profile 75 = .ok (.iinc 2 1, 3) := by decide +kernel
theorem dX5_profile_78 : decode cX5_profile 78 = .ok (.goto (-69), 3) := by decide +kernel
theorem dX5_profile_81 : decode cX5_profile 81 = .ok (.iload_n 1, 1) := by decide +kernel
theorem dX5_profile_82 : decode cX5_profile 82 = .ok (.ireturn, 1) := by decide +kernel
theorem dX5_isJoined_0 : decode cX5_isJoined 0 = .ok (.aload_n 0, 1) := by decide +kernel
theorem dX5_isJoined_1 : decode cX5_isJoined 1 = .ok (.iconst 0, 1) := by decide +kernel
theorem dX5_isJoined_2 : decode cX5_isJoined 2 = .ok (.putfield 51, 3) := by decide +kernel
theorem dX5_isJoined_5 : decode cX5_isJoined 5 = .ok (.aload_n 0, 1) := by decide +kernel
theorem dX5_isJoined_6 : decode cX5_isJoined 6 = .ok (.iload_n 1, 1) := by decide +kernel
theorem dX5_isJoined_7 : decode cX5_isJoined 7 = .ok (.invokevirtual 76, 3) := by decide +kernel
theorem dX5_isJoined_10 : decode cX5_isJoined 10 = .ok (.ifCond .eq 11, 3) := by decide +kernel
theorem dX5_isJoined_13 : decode cX5_isJoined 13 = .ok (.aload_n 0, 1) := by decide +kernel
theorem dX5_isJoined_14 : decode cX5_isJoined 14 = .ok (.iload_n 2, 1) := by decide +kernel
theorem dX5_isJoined_15 : decode cX5_isJoined 15 = .ok (.invokevirtual 76, 3) := by decide +kernel
theorem dX5_isJoined_18 : decode cX5_isJoined 18 = .ok (.ifCond .ne 17, 3) := by decide +kernel
theorem dX5_isJoined_21 : decode cX5_isJoined 21 = .ok (.aload_n 0, 1) := by decide +kernel
theorem dX5_isJoined_22 : decode cX5_isJoined 22 = .ok (.iconst 1, 1) := by decide +kernel
theorem dX5_isJoined_23 : decode cX5_isJoined 23 = .ok (.invokevirtual 72, 3) := by decide +kernel
theorem dX5_isJoined_26 : decode cX5_isJoined 26 = .ok (.ifCond .le 7, 3) := by decide +kernel
theorem dX5_isJoined_29 : decode cX5_isJoined 29 = .ok (.iconst 1, 1) := by decide +kernel
theorem dX5_isJoined_30 : decode cX5_isJoined 30 = .ok (.goto 4, 3) := by decide +kernel
theorem dX5_isJoined_33 : decode cX5_isJoined 33 = .ok (.iconst 0, 1) := by decide +kernel
theorem dX5_isJoined_34 : decode cX5_isJoined 34 = .ok (.ireturn, 1) := by decide +kernel
theorem dX5_isJoined_35 : decode cX5_isJoined 35 = .ok (.aload_n 0, 1) := by decide +kernel
theorem dX5_isJoined_36 : decode cX5_isJoined 36 = .ok (.invokevirtual 116, 3) := by decide +kernel
theorem dX5_isJoined_39 : decode cX5_isJoined 39 = .ok (.aload_n 0, 1) := by decide +kernel
theorem dX5_isJoined_40 : decode cX5_isJoined 40 = .ok (.getfield 41, 3) := by decide +kernel
theorem dX5_isJoined_43 : decode cX5_isJoined 43 = .ok (.iload_n 1, 1) := by decide +kernel
theorem dX5_isJoined_44 : decode cX5_isJoined 44 = .ok (.iload_n 2, 1) := by decide +kernel
theorem dX5_isJoined_45 : decode cX5_isJoined 45 = .ok (.invokestatic 62, 3) := by decide +kernel
theorem dX5_isJoined_48 : decode cX5_isJoined 48 = .ok (.baload, 1) := by decide +kernel
theorem dX5_isJoined_49 : decode cX5_isJoined 49 = .ok (.ireturn, 1) := by decide +kernel
theorem dX5_fillCount_0 : decode cX5_fillCount 0 = .ok (.aload_n 0, 1) := by decide +kernel
theorem dX5_fillCount_1 : decode cX5_fillCount 1 = .ok (.iconst 0, 1) := by decide +kernel
theorem dX5_fillCount_2 : decode cX5_fillCount 2 = .ok (.putfield 51, 3) := by decide +kernel
theorem dX5_fillCount_5 : decode cX5_fillCount 5 = .ok (.aload_n 0, 1) := by decide +kernel
theorem dX5_fillCount_6 : decode cX5_fillCount 6 = .ok (.invokevirtual 122, 3) := by decide +kernel
theorem dX5_fillCount_9 : decode cX5_fillCount 9 = .ok (.ireturn, 1) := by decide +kernel
theorem dX5_widthOf_0 : decode cX5_widthOf 0 = .ok (.iconst 0, 1) := by decide +kernel
theorem dX5_widthOf_1 : decode cX5_widthOf 1 = .ok (.istore_n 2, 1) := by decide +kernel
theorem dX5_widthOf_2 : decode cX5_widthOf 2 = .ok (.iconst 0, 1) := by decide +kernel
theorem dX5_widthOf_3 : decode cX5_widthOf 3 = .ok (.istore_n 3, 1) := by decide +kernel
theorem dX5_widthOf_4 : decode cX5_widthOf 4 = .ok (.iload_n 3, 1) := by decide +kernel
theorem dX5_widthOf_5 : decode cX5_widthOf 5 = .ok (.aload_n 0, 1) := by decide +kernel
theorem dX5_widthOf_6 : decode cX5_widthOf 6 = .ok (.getfield 9, 3) := by decide +kernel
theorem dX5_widthOf_9 : decode cX5_widthOf 9 = .ok (.if_icmp .ge 45, 3) := by decide +kernel
theorem dX5_widthOf_12 : decode cX5_widthOf 12 = .ok (.iload_n 2, 1) := by decide +kernel
theorem dX5_widthOf_13 : decode cX5_widthOf 13 = .ok (.aload_n 0, 1) := by decide +kernel
theorem dX5_widthOf_14 : decode cX5_widthOf 14 = .ok (.getfield 41, 3) := by decide +kernel
theorem dX5_widthOf_17 : decode cX5_widthOf 17 = .ok (.iload_n 1, 1) := by decide +kernel
theorem dX5_widthOf_18 : decode cX5_widthOf 18 = .ok (.iload_n 3, 1) := by decide +kernel
theorem dX5_widthOf_19 : decode cX5_widthOf 19 = .ok (.invokestatic 62, 3) := by decide +kernel
theorem dX5_widthOf_22 : decode cX5_widthOf 22 = .ok (.baload, 1) := by decide +kernel
theorem dX5_widthOf_23 : decode cX5_widthOf 23 = .ok (.ifCond .eq 22, 3) := by decide +kernel
theorem dX5_widthOf_26 : decode cX5_widthOf 26 = .ok (.aload_n 0, 1) := by decide +kernel
theorem dX5_widthOf_27 : decode cX5_widthOf 27 = .ok (.getfield 20, 3) := by decide +kernel
theorem dX5_widthOf_30 : decode cX5_widthOf 30 = .ok (.iload_n 3, 1) := by decide +kernel
theorem dX5_widthOf_31 : decode cX5_widthOf 31 = .ok (.iaload, 1) := by decide +kernel
theorem dX5_widthOf_32 : decode cX5_widthOf 32 = .ok (.aload_n 0, 1) := by decide +kernel
theorem dX5_widthOf_33 : decode cX5_widthOf 33 = .ok (.getfield 20, 3) := by decide +kernel
theorem dX5_widthOf_36 : decode cX5_widthOf 36 = .ok (.iload_n 1, 1) := by decide +kernel
theorem dX5_widthOf_37 : decode cX5_widthOf 37 = .ok (.iaload, 1) := by decide +kernel
theorem dX5_widthOf_38 : decode cX5_widthOf 38 = .ok (.if_icmp .le 7, 3) := by decide +kernel
theorem dX5_widthOf_41 : decode cX5_widthOf 41 = .ok (.iconst 1, 1) := by decide +kernel
theorem dX5_widthOf_42 : decode cX5_widthOf 42 = .ok (.goto 4, 3) := by decide +kernel
theorem dX5_widthOf_45 : decode cX5_widthOf 45 = .ok (.iconst 0, 1) := by decide +kernel
theorem dX5_widthOf_46 : decode cX5_widthOf 46 = .ok (.iadd, 1) := by decide +kernel
theorem dX5_widthOf_47 : decode cX5_widthOf 47 = .ok (.istore_n 2, 1) := by decide +kernel
theorem dX5_widthOf_48 : decode cX5_widthOf 48 = .ok (.iinc 3 1, 3) := by decide +kernel
theorem dX5_widthOf_51 : decode cX5_widthOf 51 = .ok (.goto (-47), 3) := by decide +kernel
theorem dX5_widthOf_54 : decode cX5_widthOf 54 = .ok (.iload_n 2, 1) := by decide +kernel
theorem dX5_widthOf_55 : decode cX5_widthOf 55 = .ok (.ireturn, 1) := by decide +kernel
theorem dX5_width_0 : decode cX5_width 0 = .ok (.aload_n 0, 1) := by decide +kernel
theorem dX5_width_1 : decode cX5_width 1 = .ok (.iconst 0, 1) := by decide +kernel
theorem dX5_width_2 : decode cX5_width 2 = .ok (.putfield 51, 3) := by decide +kernel
theorem dX5_width_5 : decode cX5_width 5 = .ok (.aload_n 0, 1) := by decide +kernel
theorem dX5_width_6 : decode cX5_width 6 = .ok (.iload_n 1, 1) := by decide +kernel
theorem dX5_width_7 : decode cX5_width 7 = .ok (.invokevirtual 76, 3) := by decide +kernel
theorem dX5_width_10 : decode cX5_width 10 = .ok (.ifCond .ne 9, 3) := by decide +kernel
theorem dX5_width_13 : decode cX5_width 13 = .ok (.aload_n 0, 1) := by decide +kernel
theorem dX5_width_14 : decode cX5_width 14 = .ok (.iconst 1, 1) := by decide +kernel
theorem dX5_width_15 : decode cX5_width 15 = .ok (.invokevirtual 72, 3) := by decide +kernel
theorem dX5_width_18 : decode cX5_width 18 = .ok (.ireturn, 1) := by decide +kernel
theorem dX5_width_19 : decode cX5_width 19 = .ok (.aload_n 0, 1) := by decide +kernel
theorem dX5_width_20 : decode cX5_width 20 = .ok (.invokevirtual 116, 3) := by decide +kernel
theorem dX5_width_23 : decode cX5_width 23 = .ok (.aload_n 0, 1) := by decide +kernel
theorem dX5_width_24 : decode cX5_width 24 = .ok (.iload_n 1, 1) := by decide +kernel
theorem dX5_width_25 : decode cX5_width 25 = .ok (.invokevirtual 133, 3) := by decide +kernel
theorem dX5_width_28 : decode cX5_width 28 = .ok (.ireturn, 1) := by decide +kernel
theorem dX5_work_0 : decode cX5_work 0 = .ok (.aload_n 0, 1) := by decide +kernel
theorem dX5_work_1 : decode cX5_work 1 = .ok (.iconst 0, 1) := by decide +kernel
theorem dX5_work_2 : decode cX5_work 2 = .ok (.putfield 51, 3) := by decide +kernel
theorem dX5_work_5 : decode cX5_work 5 = .ok (.aload_n 0, 1) := by decide +kernel
theorem dX5_work_6 : decode cX5_work 6 = .ok (.invokevirtual 116, 3) := by decide +kernel
theorem dX5_work_9 : decode cX5_work 9 = .ok (.iconst 0, 1) := by decide +kernel
theorem dX5_work_10 : decode cX5_work 10 = .ok (.istore_n 1, 1) := by decide +kernel
theorem dX5_work_11 : decode cX5_work 11 = .ok (.iconst 0, 1) := by decide +kernel
theorem dX5_work_12 : decode cX5_work 12 = .ok (.istore_n 2, 1) := by decide +kernel
theorem dX5_work_13 : decode cX5_work 13 = .ok (.iload_n 2, 1) := by decide +kernel
theorem dX5_work_14 : decode cX5_work 14 = .ok (.aload_n 0, 1) := by decide +kernel
theorem dX5_work_15 : decode cX5_work 15 = .ok (.getfield 9, 3) := by decide +kernel
theorem dX5_work_18 : decode cX5_work 18 = .ok (.if_icmp .ge 23, 3) := by decide +kernel
theorem dX5_work_21 : decode cX5_work 21 = .ok (.iload_n 1, 1) := by decide +kernel
theorem dX5_work_22 : decode cX5_work 22 = .ok (.aload_n 0, 1) := by decide +kernel
theorem dX5_work_23 : decode cX5_work 23 = .ok (.iload_n 2, 1) := by decide +kernel
theorem dX5_work_24 : decode cX5_work 24 = .ok (.invokevirtual 133, 3) := by decide +kernel
theorem dX5_work_27 : decode cX5_work 27 = .ok (.aload_n 0, 1) := by decide +kernel
theorem dX5_work_28 : decode cX5_work 28 = .ok (.iload_n 2, 1) := by decide +kernel
theorem dX5_work_29 : decode cX5_work 29 = .ok (.invokevirtual 133, 3) := by decide +kernel
theorem dX5_work_32 : decode cX5_work 32 = .ok (.imul, 1) := by decide +kernel
theorem dX5_work_33 : decode cX5_work 33 = .ok (.iadd, 1) := by decide +kernel
theorem dX5_work_34 : decode cX5_work 34 = .ok (.istore_n 1, 1) := by decide +kernel
theorem dX5_work_35 : decode cX5_work 35 = .ok (.iinc 2 1, 3) := by decide +kernel
theorem dX5_work_38 : decode cX5_work 38 = .ok (.goto (-25), 3) := by decide +kernel
theorem dX5_work_41 : decode cX5_work 41 = .ok (.iload_n 1, 1) := by decide +kernel
theorem dX5_work_42 : decode cX5_work 42 = .ok (.ireturn, 1) := by decide +kernel
theorem dX5_parentOf_0 : decode cX5_parentOf 0 = .ok (.aload_n 0, 1) := by decide +kernel
theorem dX5_parentOf_1 : decode cX5_parentOf 1 = .ok (.getfield 20, 3) := by decide +kernel
theorem dX5_parentOf_4 : decode cX5_parentOf 4 = .ok (.iload_n 1, 1) := by decide +kernel
theorem dX5_parentOf_5 : decode cX5_parentOf 5 = .ok (.iaload, 1) := by decide +kernel
theorem dX5_parentOf_6 : decode cX5_parentOf 6 = .ok (.iconst 1, 1) := by decide +kernel
theorem dX5_parentOf_7 : decode cX5_parentOf 7 = .ok (.iadd, 1) := by decide +kernel
theorem dX5_parentOf_8 : decode cX5_parentOf 8 = .ok (.istore_n 2, 1) := by decide +kernel
theorem dX5_parentOf_9 : decode cX5_parentOf 9 = .ok (.iload_n 2, 1) := by decide +kernel
theorem dX5_parentOf_10 : decode cX5_parentOf 10 = .ok (.aload_n 0, 1) := by decide +kernel
theorem dX5_parentOf_11 : decode cX5_parentOf 11 = .ok (.getfield 9, 3) := by decide +kernel
theorem dX5_parentOf_14 : decode cX5_parentOf 14 = .ok (.if_icmp .ge 34, 3) := by decide +kernel
theorem dX5_parentOf_17 : decode cX5_parentOf 17 = .ok (.aload_n 0, 1) := by decide +kernel
theorem dX5_parentOf_18 : decode cX5_parentOf 18 = .ok (.getfield 41, 3) := by decide +kernel
theorem dX5_parentOf_21 : decode cX5_parentOf 21 = .ok (.iload_n 1, 1) := by decide +kernel
theorem dX5_parentOf_22 : decode cX5_parentOf 22 = .ok (.aload_n 0, 1) := by decide +kernel
theorem dX5_parentOf_23 : decode cX5_parentOf 23 = .ok (.getfield 17, 3) := by decide +kernel
theorem dX5_parentOf_26 : decode cX5_parentOf 26 = .ok (.iload_n 2, 1) := by decide +kernel
theorem dX5_parentOf_27 : decode cX5_parentOf 27 = .ok (.iaload, 1) := by decide +kernel
theorem dX5_parentOf_28 : decode cX5_parentOf 28 = .ok (.invokestatic 62, 3) := by decide +kernel
theorem dX5_parentOf_31 : decode cX5_parentOf 31 = .ok (.baload, 1) := by decide +kernel
theorem dX5_parentOf_32 : decode cX5_parentOf 32 = .ok (.ifCond .eq 10, 3) := by decide +kernel
theorem dX5_parentOf_35 : decode cX5_parentOf 35 = .ok (.aload_n 0, 1) := by decide +kernel
theorem dX5_parentOf_36 : decode cX5_parentOf 36 = .ok (.getfield 17, 3) := by decide +kernel
theorem dX5_parentOf_39 : decode cX5_parentOf 39 = .ok (.iload_n 2, 1) := by decide +kernel
theorem dX5_parentOf_40 : decode cX5_parentOf 40 = .ok (.iaload, 1) := by decide +kernel
theorem dX5_parentOf_41 : decode cX5_parentOf 41 = .ok (.ireturn, 1) := by decide +kernel
theorem dX5_parentOf_42 : decode cX5_parentOf 42 = .ok (.iinc 2 1, 3) := by decide +kernel
theorem dX5_parentOf_45 : decode cX5_parentOf 45 = .ok (.goto (-36), 3) := by decide +kernel
theorem dX5_parentOf_48 : decode cX5_parentOf 48 = .ok (.iconst (-1), 1) := by decide +kernel
theorem dX5_parentOf_49 : decode cX5_parentOf 49 = .ok (.ireturn, 1) := by decide +kernel
theorem dX5_lineOf_0 : decode cX5_lineOf 0 = .ok (.iconst 0, 1) := by decide +kernel
theorem dX5_lineOf_1 : decode cX5_lineOf 1 = .ok (.istore_n 2, 1) := by decide +kernel
theorem dX5_lineOf_2 : decode cX5_lineOf 2 = .ok (.iload_n 1, 1) := by decide +kernel
theorem dX5_lineOf_3 : decode cX5_lineOf 3 = .ok (.istore_n 3, 1) := by decide +kernel
theorem dX5_lineOf_4 : decode cX5_lineOf 4 = .ok (.iload_n 3, 1) := by decide +kernel
theorem dX5_lineOf_5 : decode cX5_lineOf 5 = .ok (.iconst (-1), 1) := by decide +kernel
theorem dX5_lineOf_6 : decode cX5_lineOf 6 = .ok (.if_icmp .eq 18, 3) := by decide +kernel
theorem dX5_lineOf_9 : decode cX5_lineOf 9 = .ok (.iload_n 2, 1) := by decide +kernel
theorem dX5_lineOf_10 : decode cX5_lineOf 10 = .ok (.iconst 1, 1) := by decide +kernel
theorem dX5_lineOf_11 : decode cX5_lineOf 11 = .ok (.iload_n 3, 1) := by decide +kernel
theorem dX5_lineOf_12 : decode cX5_lineOf 12 = .ok (.ishl, 1) := by decide +kernel
theorem dX5_lineOf_13 : decode cX5_lineOf 13 = .ok (.ior, 1) := by decide +kernel
theorem dX5_lineOf_14 : decode cX5_lineOf 14 = .ok (.istore_n 2, 1) := by decide +kernel
theorem dX5_lineOf_15 : decode cX5_lineOf 15 = .ok (.aload_n 0, 1) := by decide +kernel
theorem dX5_lineOf_16 : decode cX5_lineOf 16 = .ok (.iload_n 3, 1) := by decide +kernel
theorem dX5_lineOf_17 : decode cX5_lineOf 17 = .ok (.invokevirtual 136, 3) := by decide +kernel
theorem dX5_lineOf_20 : decode cX5_lineOf 20 = .ok (.istore_n 3, 1) := by decide +kernel
theorem dX5_lineOf_21 : decode cX5_lineOf 21 = .ok (.goto (-17), 3) := by decide +kernel
theorem dX5_lineOf_24 : decode cX5_lineOf 24 = .ok (.iload_n 2, 1) := by decide +kernel
theorem dX5_lineOf_25 : decode cX5_lineOf 25 = .ok (.ireturn, 1) := by decide +kernel
theorem dX5_bits_0 : decode cX5_bits 0 = .ok (.iconst 0, 1) := by decide +kernel
theorem dX5_bits_1 : decode cX5_bits 1 = .ok (.istore_n 1, 1) := by decide +kernel
theorem dX5_bits_2 : decode cX5_bits 2 = .ok (.iconst 0, 1) := by decide +kernel
theorem dX5_bits_3 : decode cX5_bits 3 = .ok (.istore_n 2, 1) := by decide +kernel
theorem dX5_bits_4 : decode cX5_bits 4 = .ok (.iload_n 2, 1) := by decide +kernel
theorem dX5_bits_5 : decode cX5_bits 5 = .ok (.bipush 16, 2) := by decide +kernel
theorem dX5_bits_7 : decode cX5_bits 7 = .ok (.if_icmp .ge 17, 3) := by decide +kernel
theorem dX5_bits_10 : decode cX5_bits 10 = .ok (.iload_n 1, 1) := by decide +kernel
theorem dX5_bits_11 : decode cX5_bits 11 = .ok (.iload_n 0, 1) := by decide +kernel
theorem dX5_bits_12 : decode cX5_bits 12 = .ok (.iload_n 2, 1) := by decide +kernel
theorem dX5_bits_13 : decode cX5_bits 13 = .ok (.ishr, 1) := by decide +kernel
theorem dX5_bits_14 : decode cX5_bits 14 = .ok (.iconst 1, 1) := by decide +kernel
theorem dX5_bits_15 : decode cX5_bits 15 = .ok (.iand, 1) := by decide +kernel
theorem dX5_bits_16 : decode cX5_bits 16 = .ok (.iadd, 1) := by decide +kernel
theorem dX5_bits_17 : decode cX5_bits 17 = .ok (.istore_n 1, 1) := by decide +kernel
theorem dX5_bits_18 : decode cX5_bits 18 = .ok (.iinc 2 1, 3) := by decide +kernel
theorem dX5_bits_21 : decode cX5_bits 21 = .ok (.goto (-17), 3) := by decide +kernel
theorem dX5_bits_24 : decode cX5_bits 24 = .ok (.iload_n 1, 1) := by decide +kernel
theorem dX5_bits_25 : decode cX5_bits 25 = .ok (.ireturn, 1) := by decide +kernel
theorem dX5_parent_0 : decode cX5_parent 0 = .ok (.aload_n 0, 1) := by decide +kernel
theorem dX5_parent_1 : decode cX5_parent 1 = .ok (.iconst 0, 1) := by decide +kernel
theorem dX5_parent_2 : decode cX5_parent 2 = .ok (.putfield 51, 3) := by decide +kernel
theorem dX5_parent_5 : decode cX5_parent 5 = .ok (.aload_n 0, 1) := by decide +kernel
theorem dX5_parent_6 : decode cX5_parent 6 = .ok (.iload_n 1, 1) := by decide +kernel
theorem dX5_parent_7 : decode cX5_parent 7 = .ok (.invokevirtual 76, 3) := by decide +kernel
theorem dX5_parent_10 : decode cX5_parent 10 = .ok (.ifCond .ne 9, 3) := by decide +kernel
theorem dX5_parent_13 : decode cX5_parent 13 = .ok (.aload_n 0, 1) := by decide +kernel
theorem dX5_parent_14 : decode cX5_parent 14 = .ok (.iconst 1, 1) := by decide +kernel
theorem dX5_parent_15 : decode cX5_parent 15 = .ok (.invokevirtual 72, 3) := by decide +kernel
theorem dX5_parent_18 : decode cX5_parent 18 = .ok (.ireturn, 1) := by decide +kernel
theorem dX5_parent_19 : decode cX5_parent 19 = .ok (.aload_n 0, 1) := by decide +kernel
theorem dX5_parent_20 : decode cX5_parent 20 = .ok (.invokevirtual 116, 3) := by decide +kernel
theorem dX5_parent_23 : decode cX5_parent 23 = .ok (.aload_n 0, 1) := by decide +kernel
theorem dX5_parent_24 : decode cX5_parent 24 = .ok (.iload_n 1, 1) := by decide +kernel
theorem dX5_parent_25 : decode cX5_parent 25 = .ok (.invokevirtual 136, 3) := by decide +kernel
theorem dX5_parent_28 : decode cX5_parent 28 = .ok (.ireturn, 1) := by decide +kernel
theorem dX5_depth_0 : decode cX5_depth 0 = .ok (.aload_n 0, 1) := by decide +kernel
theorem dX5_depth_1 : decode cX5_depth 1 = .ok (.iconst 0, 1) := by decide +kernel
theorem dX5_depth_2 : decode cX5_depth 2 = .ok (.putfield 51, 3) := by decide +kernel
theorem dX5_depth_5 : decode cX5_depth 5 = .ok (.aload_n 0, 1) := by decide +kernel
theorem dX5_depth_6 : decode cX5_depth 6 = .ok (.iload_n 1, 1) := by decide +kernel
theorem dX5_depth_7 : decode cX5_depth 7 = .ok (.invokevirtual 76, 3) := by decide +kernel
theorem dX5_depth_10 : decode cX5_depth 10 = .ok (.ifCond .ne 9, 3) := by decide +kernel
theorem dX5_depth_13 : decode cX5_depth 13 = .ok (.aload_n 0, 1) := by decide +kernel
theorem dX5_depth_14 : decode cX5_depth 14 = .ok (.iconst 1, 1) := by decide +kernel
theorem dX5_depth_15 : decode cX5_depth 15 = .ok (.invokevirtual 72, 3) := by decide +kernel
theorem dX5_depth_18 : decode cX5_depth 18 = .ok (.ireturn, 1) := by decide +kernel
theorem dX5_depth_19 : decode cX5_depth 19 = .ok (.aload_n 0, 1) := by decide +kernel
theorem dX5_depth_20 : decode cX5_depth 20 = .ok (.invokevirtual 116, 3) := by decide +kernel
theorem dX5_depth_23 : decode cX5_depth 23 = .ok (.aload_n 0, 1) := by decide +kernel
theorem dX5_depth_24 : decode cX5_depth 24 = .ok (.iload_n 1, 1) := by decide +kernel
theorem dX5_depth_25 : decode cX5_depth 25 = .ok (.invokevirtual 139, 3) := by decide +kernel
theorem dX5_depth_28 : decode cX5_depth 28 = .ok (.invokestatic 142, 3) := by decide +kernel
theorem dX5_depth_31 : decode cX5_depth 31 = .ok (.iconst 1, 1) := by decide +kernel
theorem dX5_depth_32 : decode cX5_depth 32 = .ok (.isub, 1) := by decide +kernel
theorem dX5_depth_33 : decode cX5_depth 33 = .ok (.ireturn, 1) := by decide +kernel
theorem dX5_subtree_0 : decode cX5_subtree 0 = .ok (.aload_n 0, 1) := by decide +kernel
theorem dX5_subtree_1 : decode cX5_subtree 1 = .ok (.iconst 0, 1) := by decide +kernel
theorem dX5_subtree_2 : decode cX5_subtree 2 = .ok (.putfield 51, 3) := by decide +kernel
theorem dX5_subtree_5 : decode cX5_subtree 5 = .ok (.aload_n 0, 1) := by decide +kernel
theorem dX5_subtree_6 : decode cX5_subtree 6 = .ok (.iload_n 1, 1) := by decide +kernel
theorem dX5_subtree_7 : decode cX5_subtree 7 = .ok (.invokevirtual 76, 3) := by decide +kernel
theorem dX5_subtree_10 : decode cX5_subtree 10 = .ok (.ifCond .ne 9, 3) := by decide +kernel
theorem dX5_subtree_13 : decode cX5_subtree 13 = .ok (.aload_n 0, 1) := by decide +kernel
theorem dX5_subtree_14 : decode cX5_subtree 14 = .ok (.iconst 1, 1) := by decide +kernel
theorem dX5_subtree_15 : decode cX5_subtree 15 = .ok (.invokevirtual 72, 3) := by decide +kernel
theorem dX5_subtree_18 : decode cX5_subtree 18 = .ok (.ireturn, 1) := by decide +kernel
theorem dX5_subtree_19 : decode cX5_subtree 19 = .ok (.aload_n 0, 1) := by decide +kernel
theorem dX5_subtree_20 : decode cX5_subtree 20 = .ok (.invokevirtual 116, 3) := by decide +kernel
theorem dX5_subtree_23 : decode cX5_subtree 23 = .ok (.iconst 0, 1) := by decide +kernel
theorem dX5_subtree_24 : decode cX5_subtree 24 = .ok (.istore_n 2, 1) := by decide +kernel
theorem dX5_subtree_25 : decode cX5_subtree 25 = .ok (.iconst 0, 1) := by decide +kernel
theorem dX5_subtree_26 : decode cX5_subtree 26 = .ok (.istore_n 3, 1) := by decide +kernel
theorem dX5_subtree_27 : decode cX5_subtree 27 = .ok (.iload_n 3, 1) := by decide +kernel
theorem dX5_subtree_28 : decode cX5_subtree 28 = .ok (.aload_n 0, 1) := by decide +kernel
theorem dX5_subtree_29 : decode cX5_subtree 29 = .ok (.getfield 9, 3) := by decide +kernel
theorem dX5_subtree_32 : decode cX5_subtree 32 = .ok (.if_icmp .ge 21, 3) := by decide +kernel
theorem dX5_subtree_35 : decode cX5_subtree 35 = .ok (.iload_n 2, 1) := by decide +kernel
theorem dX5_subtree_36 : decode cX5_subtree 36 = .ok (.aload_n 0, 1) := by decide +kernel
theorem dX5_subtree_37 : decode cX5_subtree 37 = .ok (.iload_n 3, 1) := by decide +kernel
theorem dX5_subtree_38 : decode cX5_subtree 38 = .ok (.invokevirtual 139, 3) := by decide +kernel
theorem dX5_subtree_41 : decode cX5_subtree 41 = .ok (.iload_n 1, 1) := by decide +kernel
theorem dX5_subtree_42 : decode cX5_subtree 42 = .ok (.ishr, 1) := by decide +kernel
theorem dX5_subtree_43 : decode cX5_subtree 43 = .ok (.iconst 1, 1) := by decide +kernel
theorem dX5_subtree_44 : decode cX5_subtree 44 = .ok (.iand, 1) := by decide +kernel
theorem dX5_subtree_45 : decode cX5_subtree 45 = .ok (.iadd, 1) := by decide +kernel
theorem dX5_subtree_46 : decode cX5_subtree 46 = .ok (.istore_n 2, 1) := by decide +kernel
theorem dX5_subtree_47 : decode cX5_subtree 47 = .ok (.iinc 3 1, 3) := by decide +kernel
theorem dX5_subtree_50 : decode cX5_subtree 50 = .ok (.goto (-23), 3) := by decide +kernel
theorem dX5_subtree_53 : decode cX5_subtree 53 = .ok (.iload_n 2, 1) := by decide +kernel
theorem dX5_subtree_54 : decode cX5_subtree 54 = .ok (.ireturn, 1) := by decide +kernel
theorem dX5_height_0 : decode cX5_height 0 = .ok (.aload_n 0, 1) := by decide +kernel
theorem dX5_height_1 : decode cX5_height 1 = .ok (.iconst 0, 1) := by decide +kernel
theorem dX5_height_2 : decode cX5_height 2 = .ok (.putfield 51, 3) := by decide +kernel
theorem dX5_height_5 : decode cX5_height 5 = .ok (.aload_n 0, 1) := by decide +kernel
theorem dX5_height_6 : decode cX5_height 6 = .ok (.invokevirtual 116, 3) := by decide +kernel
theorem dX5_height_9 : decode cX5_height 9 = .ok (.iconst 0, 1) := by decide +kernel
theorem dX5_height_10 : decode cX5_height 10 = .ok (.istore_n 1, 1) := by decide +kernel
theorem dX5_height_11 : decode cX5_height 11 = .ok (.iconst 0, 1) := by decide +kernel
theorem dX5_height_12 : decode cX5_height 12 = .ok (.istore_n 2, 1) := by decide +kernel
theorem dX5_height_13 : decode cX5_height 13 = .ok (.iload_n 2, 1) := by decide +kernel
theorem dX5_height_14 : decode cX5_height 14 = .ok (.aload_n 0, 1) := by decide +kernel
theorem dX5_height_15 : decode cX5_height 15 = .ok (.getfield 9, 3) := by decide +kernel
theorem dX5_height_18 : decode cX5_height 18 = .ok (.if_icmp .ge 22, 3) := by decide +kernel
theorem dX5_height_21 : decode cX5_height 21 = .ok (.iload_n 1, 1) := by decide +kernel
theorem dX5_height_22 : decode cX5_height 22 = .ok (.aload_n 0, 1) := by decide +kernel
theorem dX5_height_23 : decode cX5_height 23 = .ok (.iload_n 2, 1) := by decide +kernel
theorem dX5_height_24 : decode cX5_height 24 = .ok (.invokevirtual 139, 3) := by decide +kernel
theorem dX5_height_27 : decode cX5_height 27 = .ok (.invokestatic 142, 3) := by decide +kernel
theorem dX5_height_30 : decode cX5_height 30 = .ok (.invokestatic 125, 3) := by decide +kernel
theorem dX5_height_33 : decode cX5_height 33 = .ok (.istore_n 1, 1) := by decide +kernel
theorem dX5_height_34 : decode cX5_height 34 = .ok (.iinc 2 1, 3) := by decide +kernel
theorem dX5_height_37 : decode cX5_height 37 = .ok (.goto (-24), 3) := by decide +kernel
theorem dX5_height_40 : decode cX5_height 40 = .ok (.iload_n 1, 1) := by decide +kernel
theorem dX5_height_41 : decode cX5_height 41 = .ok (.ireturn, 1) := by decide +kernel
theorem dX5_meeting_0 : decode cX5_meeting 0 = .ok (.aload_n 0, 1) := by decide +kernel
theorem dX5_meeting_1 : decode cX5_meeting 1 = .ok (.iconst 0, 1) := by decide +kernel
theorem dX5_meeting_2 : decode cX5_meeting 2 = .ok (.putfield 51, 3) := by decide +kernel
theorem dX5_meeting_5 : decode cX5_meeting 5 = .ok (.aload_n 0, 1) := by decide +kernel
theorem dX5_meeting_6 : decode cX5_meeting 6 = .ok (.iload_n 1, 1) := by decide +kernel
theorem dX5_meeting_7 : decode cX5_meeting 7 = .ok (.invokevirtual 76, 3) := by decide +kernel
theorem dX5_meeting_10 : decode cX5_meeting 10 = .ok (.ifCond .eq 11, 3) := by decide +kernel
theorem dX5_meeting_13 : decode cX5_meeting 13 = .ok (.aload_n 0, 1) := by decide +kernel
theorem dX5_meeting_14 : decode cX5_meeting 14 = .ok (.iload_n 2, 1) := by decide +kernel
theorem dX5_meeting_15 : decode cX5_meeting 15 = .ok (.invokevirtual 76, 3) := by decide +kernel
theorem dX5_meeting_18 : decode cX5_meeting 18 = .ok (.ifCond .ne 9, 3) := by decide +kernel
theorem dX5_meeting_21 : decode cX5_meeting 21 = .ok (.aload_n 0, 1) := by decide +kernel
theorem dX5_meeting_22 : decode cX5_meeting 22 = .ok (.iconst 1, 1) := by decide +kernel
theorem dX5_meeting_23 : decode cX5_meeting 23 = .ok (.invokevirtual 72, 3) := by decide +kernel
theorem dX5_meeting_26 : decode cX5_meeting 26 = .ok (.ireturn, 1) := by decide +kernel
theorem dX5_meeting_27 : decode cX5_meeting 27 = .ok (.aload_n 0, 1) := by decide +kernel
theorem dX5_meeting_28 : decode cX5_meeting 28 = .ok (.invokevirtual 116, 3) := by decide +kernel
theorem dX5_meeting_31 : decode cX5_meeting 31 = .ok (.aload_n 0, 1) := by decide +kernel
theorem dX5_meeting_32 : decode cX5_meeting 32 = .ok (.iload_n 1, 1) := by decide +kernel
theorem dX5_meeting_33 : decode cX5_meeting 33 = .ok (.invokevirtual 139, 3) := by decide +kernel
theorem dX5_meeting_36 : decode cX5_meeting 36 = .ok (.aload_n 0, 1) := by decide +kernel
theorem dX5_meeting_37 : decode cX5_meeting 37 = .ok (.iload_n 2, 1) := by decide +kernel
theorem dX5_meeting_38 : decode cX5_meeting 38 = .ok (.invokevirtual 139, 3) := by decide +kernel
theorem dX5_meeting_41 : decode cX5_meeting 41 = .ok (.iand, 1) := by decide +kernel
theorem dX5_meeting_42 : decode cX5_meeting 42 = .ok (.istore_n 3, 1) := by decide +kernel
theorem dX5_meeting_43 : decode cX5_meeting 43 = .ok (.iconst 0, 1) := by decide +kernel
theorem dX5_meeting_44 : decode cX5_meeting 44 = .ok (.istore 4, 2) := by decide +kernel
theorem dX5_meeting_46 : decode cX5_meeting 46 = .ok (.iload 4, 2) := by decide +kernel
theorem dX5_meeting_48 : decode cX5_meeting 48 = .ok (.aload_n 0, 1) := by decide +kernel
theorem dX5_meeting_49 : decode cX5_meeting 49 = .ok (.getfield 9, 3) := by decide +kernel
theorem dX5_meeting_52 : decode cX5_meeting 52 = .ok (.if_icmp .ge 32, 3) := by decide +kernel
theorem dX5_meeting_55 : decode cX5_meeting 55 = .ok (.iload_n 3, 1) := by decide +kernel
theorem dX5_meeting_56 : decode cX5_meeting 56 = .ok (.aload_n 0, 1) := by decide +kernel
theorem dX5_meeting_57 : decode cX5_meeting 57 = .ok (.getfield 17, 3) := by decide +kernel
theorem dX5_meeting_60 : decode cX5_meeting 60 = .ok (.iload 4, 2) := by decide +kernel
theorem dX5_meeting_62 : decode cX5_meeting 62 = .ok (.iaload, 1) := by decide +kernel
theorem dX5_meeting_63 : decode cX5_meeting 63 = .ok (.ishr, 1) := by decide +kernel
theorem dX5_meeting_64 : decode cX5_meeting 64 = .ok (.iconst 1, 1) := by decide +kernel
theorem dX5_meeting_65 : decode cX5_meeting 65 = .ok (.iand, 1) := by decide +kernel
theorem dX5_meeting_66 : decode cX5_meeting 66 = .ok (.iconst 1, 1) := by decide +kernel
theorem dX5_meeting_67 : decode cX5_meeting 67 = .ok (.if_icmp .ne 11, 3) := by decide +kernel
theorem dX5_meeting_70 : decode cX5_meeting 70 = .ok (.aload_n 0, 1) := by decide +kernel
theorem dX5_meeting_71 : decode cX5_meeting 71 = .ok (.getfield 17, 3) := by decide +kernel
theorem dX5_meeting_74 : decode cX5_meeting 74 = .ok (.iload 4, 2) := by decide +kernel
theorem dX5_meeting_76 : decode cX5_meeting 76 = .ok (.iaload, 1) := by decide +kernel
theorem dX5_meeting_77 : decode cX5_meeting 77 = .ok (.ireturn, 1) := by decide +kernel
theorem dX5_meeting_78 : decode cX5_meeting 78 = .ok (.iinc 4 1, 3) := by decide +kernel
theorem dX5_meeting_81 : decode cX5_meeting 81 = .ok (.goto (-35), 3) := by decide +kernel
theorem dX5_meeting_84 : decode cX5_meeting 84 = .ok (.iconst (-1), 1) := by decide +kernel
theorem dX5_meeting_85 : decode cX5_meeting 85 = .ok (.ireturn, 1) := by decide +kernel
theorem dX5_reached_0 : decode cX5_reached 0 = .ok (.aload_n 0, 1) := by decide +kernel
theorem dX5_reached_1 : decode cX5_reached 1 = .ok (.iconst 0, 1) := by decide +kernel
theorem dX5_reached_2 : decode cX5_reached 2 = .ok (.putfield 51, 3) := by decide +kernel
theorem dX5_reached_5 : decode cX5_reached 5 = .ok (.iload_n 1, 1) := by decide +kernel
theorem dX5_reached_6 : decode cX5_reached 6 = .ok (.ifCond .lt 13, 3) := by decide +kernel
theorem dX5_reached_9 : decode cX5_reached 9 = .ok (.iload_n 1, 1) := by decide +kernel
theorem dX5_reached_10 : decode cX5_reached 10 = .ok (.iconst 1, 1) := by decide +kernel
theorem dX5_reached_11 : decode cX5_reached 11 = .ok (.aload_n 0, 1) := by decide +kernel
theorem dX5_reached_12 : decode cX5_reached 12 = .ok (.getfield 9, 3) := by decide +kernel
theorem dX5_reached_15 : decode cX5_reached 15 = .ok (.ishl, 1) := by decide +kernel
theorem dX5_reached_16 : decode cX5_reached 16 = .ok (.if_icmp .lt 9, 3) := by decide +kernel
theorem dX5_reached_19 : decode cX5_reached 19 = .ok (.aload_n 0, 1) := by decide +kernel
theorem dX5_reached_20 : decode cX5_reached 20 = .ok (.iconst 1, 1) := by decide +kernel
theorem dX5_reached_21 : decode cX5_reached 21 = .ok (.invokevirtual 72, 3) := by decide +kernel
theorem dX5_reached_24 : decode cX5_reached 24 = .ok (.ireturn, 1) := by decide +kernel
theorem dX5_reached_25 : decode cX5_reached 25 = .ok (.aload_n 0, 1) := by decide +kernel
theorem dX5_reached_26 : decode cX5_reached 26 = .ok (.invokevirtual 116, 3) := by decide +kernel
theorem dX5_reached_29 : decode cX5_reached 29 = .ok (.iconst 0, 1) := by decide +kernel
theorem dX5_reached_30 : decode cX5_reached 30 = .ok (.istore_n 2, 1) := by decide +kernel
theorem dX5_reached_31 : decode cX5_reached 31 = .ok (.iconst 0, 1) := by decide +kernel
theorem dX5_reached_32 : decode cX5_reached 32 = .ok (.istore_n 3, 1) := by decide +kernel
theorem dX5_reached_33 : decode cX5_reached 33 = .ok (.iload_n 3, 1) := by decide +kernel
theorem dX5_reached_34 : decode cX5_reached 34 = .ok (.aload_n 0, 1) := by decide +kernel
theorem dX5_reached_35 : decode cX5_reached 35 = .ok (.getfield 9, 3) := by decide +kernel
theorem dX5_reached_38 : decode cX5_reached 38 = .ok (.if_icmp .ge 26, 3) := by decide +kernel
theorem dX5_reached_41 : decode cX5_reached 41 = .ok (.iload_n 1, 1) := by decide +kernel
theorem dX5_reached_42 : decode cX5_reached 42 = .ok (.iload_n 3, 1) := by decide +kernel
theorem dX5_reached_43 : decode cX5_reached 43 = .ok (.ishr, 1) := by decide +kernel
theorem dX5_reached_44 : decode cX5_reached 44 = .ok (.iconst 1, 1) := by decide +kernel
theorem dX5_reached_45 : decode cX5_reached 45 = .ok (.iand, 1) := by decide +kernel
theorem dX5_reached_46 : decode cX5_reached 46 = .ok (.iconst 1, 1) := by decide +kernel
theorem dX5_reached_47 : decode cX5_reached 47 = .ok (.if_icmp .ne 11, 3) := by decide +kernel
theorem dX5_reached_50 : decode cX5_reached 50 = .ok (.iload_n 2, 1) := by decide +kernel
theorem dX5_reached_51 : decode cX5_reached 51 = .ok (.aload_n 0, 1) := by decide +kernel
theorem dX5_reached_52 : decode cX5_reached 52 = .ok (.iload_n 3, 1) := by decide +kernel
theorem dX5_reached_53 : decode cX5_reached 53 = .ok (.invokevirtual 139, 3) := by decide +kernel
theorem dX5_reached_56 : decode cX5_reached 56 = .ok (.ior, 1) := by decide +kernel
theorem dX5_reached_57 : decode cX5_reached 57 = .ok (.istore_n 2, 1) := by decide +kernel
theorem dX5_reached_58 : decode cX5_reached 58 = .ok (.iinc 3 1, 3) := by decide +kernel
theorem dX5_reached_61 : decode cX5_reached 61 = .ok (.goto (-28), 3) := by decide +kernel
theorem dX5_reached_64 : decode cX5_reached 64 = .ok (.iload_n 2, 1) := by decide +kernel
theorem dX5_reached_65 : decode cX5_reached 65 = .ok (.ireturn, 1) := by decide +kernel
theorem dX5_find_0 : decode cX5_find 0 = .ok (.aload_n 0, 1) := by decide +kernel
theorem dX5_find_1 : decode cX5_find 1 = .ok (.iconst 0, 1) := by decide +kernel
theorem dX5_find_2 : decode cX5_find 2 = .ok (.putfield 65, 3) := by decide +kernel
theorem dX5_find_5 : decode cX5_find 5 = .ok (.iconst 0, 1) := by decide +kernel
theorem dX5_find_6 : decode cX5_find 6 = .ok (.istore_n 1, 1) := by decide +kernel
theorem dX5_find_7 : decode cX5_find 7 = .ok (.iload_n 1, 1) := by decide +kernel
theorem dX5_find_8 : decode cX5_find 8 = .ok (.aload_n 0, 1) := by decide +kernel
theorem dX5_find_9 : decode cX5_find 9 = .ok (.getfield 9, 3) := by decide +kernel
theorem dX5_find_12 : decode cX5_find 12 = .ok (.if_icmp .ge 82, 3) := by decide +kernel
theorem dX5_find_15 : decode cX5_find 15 = .ok (.aload_n 0, 1) := by decide +kernel
theorem dX5_find_16 : decode cX5_find 16 = .ok (.getfield 29, 3) := by decide +kernel
theorem dX5_find_19 : decode cX5_find 19 = .ok (.iload_n 1, 1) := by decide +kernel
theorem dX5_find_20 : decode cX5_find 20 = .ok (.aload_n 0, 1) := by decide +kernel
theorem dX5_find_21 : decode cX5_find 21 = .ok (.iload_n 1, 1) := by decide +kernel
theorem dX5_find_22 : decode cX5_find 22 = .ok (.iload_n 1, 1) := by decide +kernel
theorem dX5_find_23 : decode cX5_find 23 = .ok (.iload_n 1, 1) := by decide +kernel
theorem dX5_find_24 : decode cX5_find 24 = .ok (.invokevirtual 145, 3) := by decide +kernel
theorem dX5_find_27 : decode cX5_find 27 = .ok (.iastore, 1) := by decide +kernel
theorem dX5_find_28 : decode cX5_find 28 = .ok (.aload_n 0, 1) := by decide +kernel
theorem dX5_find_29 : decode cX5_find 29 = .ok (.getfield 29, 3) := by decide +kernel
theorem dX5_find_32 : decode cX5_find 32 = .ok (.iload_n 1, 1) := by decide +kernel
theorem dX5_find_33 : decode cX5_find 33 = .ok (.iaload, 1) := by decide +kernel
theorem dX5_find_34 : decode cX5_find 34 = .ok (.ifCond .ne 5, 3) := by decide +kernel
theorem dX5_find_37 : decode cX5_find 37 = .ok (.iload_n 1, 1) := by decide +kernel
theorem dX5_find_38 : decode cX5_find 38 = .ok (.ireturn, 1) := by decide +kernel
theorem dX5_find_39 : decode cX5_find 39 = .ok (.aload_n 0, 1) := by decide +kernel
theorem dX5_find_40 : decode cX5_find 40 = .ok (.getfield 29, 3) := by decide +kernel
theorem dX5_find_43 : decode cX5_find 43 = .ok (.iload_n 1, 1) := by decide +kernel
theorem dX5_find_44 : decode cX5_find 44 = .ok (.iaload, 1) := by decide +kernel
theorem dX5_find_45 : decode cX5_find 45 = .ok (.invokestatic 97, 3) := by decide +kernel
theorem dX5_find_48 : decode cX5_find 48 = .ok (.istore_n 2, 1) := by decide +kernel
theorem dX5_find_49 : decode cX5_find 49 = .ok (.iload_n 1, 1) := by decide +kernel
theorem dX5_find_50 : decode cX5_find 50 = .ok (.iconst 1, 1) := by decide +kernel
theorem dX5_find_51 : decode cX5_find 51 = .ok (.iadd, 1) := by decide +kernel
theorem dX5_find_52 : decode cX5_find 52 = .ok (.istore_n 3, 1) := by decide +kernel
theorem dX5_find_53 : decode cX5_find 53 = .ok (.iload_n 3, 1) := by decide +kernel
theorem dX5_find_54 : decode cX5_find 54 = .ok (.aload_n 0, 1) := by decide +kernel
theorem dX5_find_55 : decode cX5_find 55 = .ok (.getfield 9, 3) := by decide +kernel
theorem dX5_find_58 : decode cX5_find 58 = .ok (.if_icmp .ge 30, 3) := by decide +kernel
theorem dX5_find_61 : decode cX5_find 61 = .ok (.aload_n 0, 1) := by decide +kernel
theorem dX5_find_62 : decode cX5_find 62 = .ok (.getfield 32, 3) := by decide +kernel
theorem dX5_find_65 : decode cX5_find 65 = .ok (.iload_n 3, 1) := by decide +kernel
theorem dX5_find_66 : decode cX5_find 66 = .ok (.iload_n 1, 1) := by decide +kernel
theorem dX5_find_67 : decode cX5_find 67 = .ok (.invokestatic 62, 3) := by decide +kernel
theorem dX5_find_70 : decode cX5_find 70 = .ok (.aload_n 0, 1) := by decide +kernel
theorem dX5_find_71 : decode cX5_find 71 = .ok (.iload_n 3, 1) := by decide +kernel
theorem dX5_find_72 : decode cX5_find 72 = .ok (.iload_n 1, 1) := by decide +kernel
theorem dX5_find_73 : decode cX5_find 73 = .ok (.iload_n 1, 1) := by decide +kernel
theorem dX5_find_74 : decode cX5_find 74 = .ok (.invokevirtual 145, 3) := by decide +kernel
theorem dX5_find_77 : decode cX5_find 77 = .ok (.iload_n 2, 1) := by decide +kernel
theorem dX5_find_78 : decode cX5_find 78 = .ok (.invokestatic 58, 3) := by decide +kernel
theorem dX5_find_81 : decode cX5_find 81 = .ok (.iastore, 1) := by decide +kernel
theorem dX5_find_82 : decode cX5_find 82 = .ok (.iinc 3 1, 3) := by decide +kernel
theorem dX5_find_85 : decode cX5_find 85 = .ok (.goto (-32), 3) := by decide +kernel
theorem dX5_find_88 : decode cX5_find 88 = .ok (.iinc 1 1, 3) := by decide +kernel
theorem dX5_find_91 : decode cX5_find 91 = .ok (.goto (-84), 3) := by decide +kernel
theorem dX5_find_94 : decode cX5_find 94 = .ok (.aload_n 0, 1) := by decide +kernel
theorem dX5_find_95 : decode cX5_find 95 = .ok (.iconst 1, 1) := by decide +kernel
theorem dX5_find_96 : decode cX5_find 96 = .ok (.putfield 65, 3) := by decide +kernel
theorem dX5_find_99 : decode cX5_find 99 = .ok (.aload_n 0, 1) := by decide +kernel
theorem dX5_find_100 : decode cX5_find 100 = .ok (.getfield 9, 3) := by decide +kernel
theorem dX5_find_103 : decode cX5_find 103 = .ok (.ireturn, 1) := by decide +kernel
theorem dX5_rest_0 : decode cX5_rest 0 = .ok (.aload_n 0, 1) := by decide +kernel
theorem dX5_rest_1 : decode cX5_rest 1 = .ok (.getfield 13, 3) := by decide +kernel
theorem dX5_rest_4 : decode cX5_rest 4 = .ok (.aload_n 0, 1) := by decide +kernel
theorem dX5_rest_5 : decode cX5_rest 5 = .ok (.getfield 17, 3) := by decide +kernel
theorem dX5_rest_8 : decode cX5_rest 8 = .ok (.iload_n 1, 1) := by decide +kernel
theorem dX5_rest_9 : decode cX5_rest 9 = .ok (.iaload, 1) := by decide +kernel
theorem dX5_rest_10 : decode cX5_rest 10 = .ok (.aload_n 0, 1) := by decide +kernel
theorem dX5_rest_11 : decode cX5_rest 11 = .ok (.getfield 17, 3) := by decide +kernel
theorem dX5_rest_14 : decode cX5_rest 14 = .ok (.iload_n 2, 1) := by decide +kernel
theorem dX5_rest_15 : decode cX5_rest 15 = .ok (.iaload, 1) := by decide +kernel
theorem dX5_rest_16 : decode cX5_rest 16 = .ok (.invokestatic 62, 3) := by decide +kernel
theorem dX5_rest_19 : decode cX5_rest 19 = .ok (.iaload, 1) := by decide +kernel
theorem dX5_rest_20 : decode cX5_rest 20 = .ok (.istore 4, 2) := by decide +kernel
theorem dX5_rest_22 : decode cX5_rest 22 = .ok (.iconst 0, 1) := by decide +kernel
theorem dX5_rest_23 : decode cX5_rest 23 = .ok (.istore 5, 2) := by decide +kernel
theorem dX5_rest_25 : decode cX5_rest 25 = .ok (.iload 5, 2) := by decide +kernel
theorem dX5_rest_27 : decode cX5_rest 27 = .ok (.iload_n 3, 1) := by decide +kernel
theorem dX5_rest_28 : decode cX5_rest 28 = .ok (.if_icmp .ge 51, 3) := by decide +kernel
theorem dX5_rest_31 : decode cX5_rest 31 = .ok (.iload 4, 2) := by decide +kernel
theorem dX5_rest_33 : decode cX5_rest 33 = .ok (.aload_n 0, 1) := by decide +kernel
theorem dX5_rest_34 : decode cX5_rest 34 = .ok (.getfield 32, 3) := by decide +kernel
theorem dX5_rest_37 : decode cX5_rest 37 = .ok (.iload_n 1, 1) := by decide +kernel
theorem dX5_rest_38 : decode cX5_rest 38 = .ok (.iload 5, 2) := by decide +kernel
theorem dX5_rest_40 : decode cX5_rest 40 = .ok (.invokestatic 62, 3) := by decide +kernel
theorem dX5_rest_43 : decode cX5_rest 43 = .ok (.iaload, 1) := by decide +kernel
theorem dX5_rest_44 : decode cX5_rest 44 = .ok (.aload_n 0, 1) := by decide +kernel
theorem dX5_rest_45 : decode cX5_rest 45 = .ok (.getfield 32, 3) := by decide +kernel
theorem dX5_rest_48 : decode cX5_rest 48 = .ok (.iload_n 2, 1) := by decide +kernel
theorem dX5_rest_49 : decode cX5_rest 49 = .ok (.iload 5, 2) := by decide +kernel
theorem dX5_rest_51 : decode cX5_rest 51 = .ok (.invokestatic 62, 3) := by decide +kernel
theorem dX5_rest_54 : decode cX5_rest 54 = .ok (.iaload, 1) := by decide +kernel
theorem dX5_rest_55 : decode cX5_rest 55 = .ok (.invokestatic 58, 3) := by decide +kernel
theorem dX5_rest_58 : decode cX5_rest 58 = .ok (.aload_n 0, 1) := by decide +kernel
theorem dX5_rest_59 : decode cX5_rest 59 = .ok (.getfield 29, 3) := by decide +kernel
theorem dX5_rest_62 : decode cX5_rest 62 = .ok (.iload 5, 2) := by decide +kernel
theorem dX5_rest_64 : decode cX5_rest 64 = .ok (.iaload, 1) := by decide +kernel
theorem dX5_rest_65 : decode cX5_rest 65 = .ok (.invokestatic 58, 3) := by decide +kernel
theorem dX5_rest_68 : decode cX5_rest 68 = .ok (.invokestatic 94, 3) := by decide +kernel
theorem dX5_rest_71 : decode cX5_rest 71 = .ok (.istore 4, 2) := by decide +kernel
theorem dX5_rest_73 : decode cX5_rest 73 = .ok (.iinc 5 1, 3) := by decide +kernel
theorem dX5_rest_76 : decode cX5_rest 76 = .ok (.goto (-51), 3) := by decide +kernel
theorem dX5_rest_79 : decode cX5_rest 79 = .ok (.iload 4, 2) := by decide +kernel
theorem dX5_rest_81 : decode cX5_rest 81 = .ok (.ireturn, 1) := by decide +kernel
theorem dX5_factor_0 : decode cX5_factor 0 = .ok (.aload_n 0, 1) := by decide +kernel
theorem dX5_factor_1 : decode cX5_factor 1 = .ok (.iconst 0, 1) := by decide +kernel
theorem dX5_factor_2 : decode cX5_factor 2 = .ok (.putfield 51, 3) := by decide +kernel
theorem dX5_factor_5 : decode cX5_factor 5 = .ok (.aload_n 0, 1) := by decide +kernel
theorem dX5_factor_6 : decode cX5_factor 6 = .ok (.invokevirtual 149, 3) := by decide +kernel
theorem dX5_factor_9 : decode cX5_factor 9 = .ok (.ireturn, 1) := by decide +kernel
theorem dX5_hasFactors_0 : decode cX5_hasFactors 0 = .ok (.aload_n 0, 1) := by decide +kernel
theorem dX5_hasFactors_1 : decode cX5_hasFactors 1 = .ok (.iconst 0, 1) := by decide +kernel
theorem dX5_hasFactors_2 : decode cX5_hasFactors 2 = .ok (.putfield 51, 3) := by decide +kernel
theorem dX5_hasFactors_5 : decode cX5_hasFactors 5 = .ok (.aload_n 0, 1) := by decide +kernel
theorem dX5_hasFactors_6 : decode cX5_hasFactors 6 = .ok (.getfield 65, 3) := by decide +kernel
theorem dX5_hasFactors_9 : decode cX5_hasFactors 9 = .ok (.ireturn, 1) := by decide +kernel
theorem dX5_pivot_0 : decode cX5_pivot 0 = .ok (.aload_n 0, 1) := by decide +kernel
theorem dX5_pivot_1 : decode cX5_pivot 1 = .ok (.aload_n 0, 1) := by decide +kernel
theorem dX5_pivot_2 : decode cX5_pivot 2 = .ok (.iload_n 1, 1) := by decide +kernel
theorem dX5_pivot_3 : decode cX5_pivot 3 = .ok (.invokevirtual 76, 3) := by decide +kernel
theorem dX5_pivot_6 : decode cX5_pivot 6 = .ok (.ifCond .ne 7, 3) := by decide +kernel
theorem dX5_pivot_9 : decode cX5_pivot 9 = .ok (.iconst 1, 1) := by decide +kernel
theorem dX5_pivot_10 : decode cX5_pivot 10 = .ok (.goto 15, 3) := by decide +kernel
theorem dX5_pivot_13 : decode cX5_pivot 13 = .ok (.aload_n 0, 1) := by decide +kernel
theorem dX5_pivot_14 : decode cX5_pivot 14 = .ok (.getfield 65, 3) := by decide +kernel
theorem dX5_pivot_17 : decode cX5_pivot 17 = .ok (.ifCond .ne 7, 3) := by decide +kernel
theorem dX5_pivot_20 : decode cX5_pivot 20 = .ok (.iconst 2, 1) := by decide +kernel
theorem dX5_pivot_21 : decode cX5_pivot 21 = .ok (.goto 4, 3) := by decide +kernel
theorem dX5_pivot_24 : decode cX5_pivot 24 = .ok (.iconst 0, 1) := by decide +kernel
theorem dX5_pivot_25 : decode cX5_pivot 25 = .ok (.putfield 51, 3) := by decide +kernel
theorem dX5_pivot_28 : decode cX5_pivot 28 = .ok (.aload_n 0, 1) := by decide +kernel
theorem dX5_pivot_29 : decode cX5_pivot 29 = .ok (.getfield 51, 3) := by decide +kernel
theorem dX5_pivot_32 : decode cX5_pivot 32 = .ok (.ifCond .ne 12, 3) := by decide +kernel
theorem dX5_pivot_35 : decode cX5_pivot 35 = .ok (.aload_n 0, 1) := by decide +kernel
theorem dX5_pivot_36 : decode cX5_pivot 36 = .ok (.getfield 29, 3) := by decide +kernel
theorem dX5_pivot_39 : decode cX5_pivot 39 = .ok (.iload_n 1, 1) := by decide +kernel
theorem dX5_pivot_40 : decode cX5_pivot 40 = .ok (.iaload, 1) := by decide +kernel
theorem dX5_pivot_41 : decode cX5_pivot 41 = .ok (.goto 4, 3) := by decide +kernel
theorem dX5_pivot_44 : decode cX5_pivot 44 = .ok (.iconst 0, 1) := by decide +kernel
theorem dX5_pivot_45 : decode cX5_pivot 45 = .ok (.ireturn, 1) := by decide +kernel
theorem dX5_lower_0 : decode cX5_lower 0 = .ok (.aload_n 0, 1) := by decide +kernel
theorem dX5_lower_1 : decode cX5_lower 1 = .ok (.aload_n 0, 1) := by decide +kernel
theorem dX5_lower_2 : decode cX5_lower 2 = .ok (.iload_n 1, 1) := by decide +kernel
theorem dX5_lower_3 : decode cX5_lower 3 = .ok (.invokevirtual 76, 3) := by decide +kernel
theorem dX5_lower_6 : decode cX5_lower 6 = .ok (.ifCond .eq 11, 3) := by decide +kernel
theorem dX5_lower_9 : decode cX5_lower 9 = .ok (.aload_n 0, 1) := by decide +kernel
theorem dX5_lower_10 : decode cX5_lower 10 = .ok (.iload_n 2, 1) := by decide +kernel
theorem dX5_lower_11 : decode cX5_lower 11 = .ok (.invokevirtual 76, 3) := by decide +kernel
theorem dX5_lower_14 : decode cX5_lower 14 = .ok (.ifCond .ne 7, 3) := by decide +kernel
theorem dX5_lower_17 : decode cX5_lower 17 = .ok (.iconst 1, 1) := by decide +kernel
theorem dX5_lower_18 : decode cX5_lower 18 = .ok (.goto 15, 3) := by decide +kernel
theorem dX5_lower_21 : decode cX5_lower 21 = .ok (.aload_n 0, 1) := by decide +kernel
theorem dX5_lower_22 : decode cX5_lower 22 = .ok (.getfield 65, 3) := by decide +kernel
theorem dX5_lower_25 : decode cX5_lower 25 = .ok (.ifCond .ne 7, 3) := by decide +kernel
theorem dX5_lower_28 : decode cX5_lower 28 = .ok (.iconst 2, 1) := by decide +kernel
theorem dX5_lower_29 : decode cX5_lower 29 = .ok (.goto 4, 3) := by decide +kernel
theorem dX5_lower_32 : decode cX5_lower 32 = .ok (.iconst 0, 1) := by decide +kernel
theorem dX5_lower_33 : decode cX5_lower 33 = .ok (.putfield 51, 3) := by decide +kernel
theorem dX5_lower_36 : decode cX5_lower 36 = .ok (.aload_n 0, 1) := by decide +kernel
theorem dX5_lower_37 : decode cX5_lower 37 = .ok (.getfield 51, 3) := by decide +kernel
theorem dX5_lower_40 : decode cX5_lower 40 = .ok (.ifCond .le 5, 3) := by decide +kernel
theorem dX5_lower_43 : decode cX5_lower 43 = .ok (.iconst 0, 1) := by decide +kernel
theorem dX5_lower_44 : decode cX5_lower 44 = .ok (.ireturn, 1) := by decide +kernel
theorem dX5_lower_45 : decode cX5_lower 45 = .ok (.iload_n 1, 1) := by decide +kernel
theorem dX5_lower_46 : decode cX5_lower 46 = .ok (.iload_n 2, 1) := by decide +kernel
theorem dX5_lower_47 : decode cX5_lower 47 = .ok (.if_icmp .ne 7, 3) := by decide +kernel
theorem dX5_lower_50 : decode cX5_lower 50 = .ok (.iconst 1, 1) := by decide +kernel
theorem dX5_lower_51 : decode cX5_lower 51 = .ok (.goto 22, 3) := by decide +kernel
theorem dX5_lower_54 : decode cX5_lower 54 = .ok (.iload_n 1, 1) := by decide +kernel
theorem dX5_lower_55 : decode cX5_lower 55 = .ok (.iload_n 2, 1) := by decide +kernel
theorem dX5_lower_56 : decode cX5_lower 56 = .ok (.if_icmp .ge 7, 3) := by decide +kernel
theorem dX5_lower_59 : decode cX5_lower 59 = .ok (.iconst 0, 1) := by decide +kernel
theorem dX5_lower_60 : decode cX5_lower 60 = .ok (.goto 13, 3) := by decide +kernel
theorem dX5_lower_63 : decode cX5_lower 63 = .ok (.aload_n 0, 1) := by decide +kernel
theorem dX5_lower_64 : decode cX5_lower 64 = .ok (.getfield 32, 3) := by decide +kernel
theorem dX5_lower_67 : decode cX5_lower 67 = .ok (.iload_n 1, 1) := by decide +kernel
theorem dX5_lower_68 : decode cX5_lower 68 = .ok (.iload_n 2, 1) := by decide +kernel
theorem dX5_lower_69 : decode cX5_lower 69 = .ok (.invokestatic 62, 3) := by decide +kernel
theorem dX5_lower_72 : decode cX5_lower 72 = .ok (.iaload, 1) := by decide +kernel
theorem dX5_lower_73 : decode cX5_lower 73 = .ok (.ireturn, 1) := by decide +kernel
theorem dX5_setWeight_0 : decode cX5_setWeight 0 = .ok (.aload_n 0, 1) := by decide +kernel
theorem dX5_setWeight_1 : decode cX5_setWeight 1 = .ok (.iconst 0, 1) := by decide +kernel
theorem dX5_setWeight_2 : decode cX5_setWeight 2 = .ok (.putfield 51, 3) := by decide +kernel
theorem dX5_setWeight_5 : decode cX5_setWeight 5 = .ok (.aload_n 0, 1) := by decide +kernel
theorem dX5_setWeight_6 : decode cX5_setWeight 6 = .ok (.iload_n 1, 1) := by decide +kernel
theorem dX5_setWeight_7 : decode cX5_setWeight 7 = .ok (.invokevirtual 76, 3) := by decide +kernel
theorem dX5_setWeight_10 : decode cX5_setWeight 10 = .ok (.ifCond .ne 9, 3) := by decide +kernel
theorem dX5_setWeight_13 : decode cX5_setWeight 13 = .ok (.aload_n 0, 1) := by decide +kernel
theorem dX5_setWeight_14 : decode cX5_setWeight 14 = .ok (.iconst 1, 1) := by decide +kernel
theorem dX5_setWeight_15 : decode cX5_setWeight 15 = .ok (.invokevirtual 72, 3) := by decide +kernel
theorem dX5_setWeight_18 : decode cX5_setWeight 18 = .ok (.ireturn, 1) := by decide +kernel
theorem dX5_setWeight_19 : decode cX5_setWeight 19 = .ok (.iload_n 2, 1) := by decide +kernel
theorem dX5_setWeight_20 : decode cX5_setWeight 20 = .ok (.invokestatic 80, 3) := by decide +kernel
theorem dX5_setWeight_23 : decode cX5_setWeight 23 = .ok (.ifCond .ne 9, 3) := by decide +kernel
