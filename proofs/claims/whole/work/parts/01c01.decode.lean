theorem dX2_reachBack_20 : decode cX2_reachBack 20 = .ok (.invokevirtual 48, 3) := by decide +kernel
theorem dX2_reachBack_23 : decode cX2_reachBack 23 = .ok (.ifCond .eq 14, 3) := by decide +kernel
theorem dX2_reachBack_26 : decode cX2_reachBack 26 = .ok (.iload_n 2, 1) := by decide +kernel
theorem dX2_reachBack_27 : decode cX2_reachBack 27 = .ok (.aload_n 0, 1) := by decide +kernel
theorem dX2_reachBack_28 : decode cX2_reachBack 28 = .ok (.getfield 22, 3) := by decide +kernel
theorem dX2_reachBack_31 : decode cX2_reachBack 31 = .ok (.iload_n 3, 1) := by decide +kernel
theorem dX2_reachBack_32 : decode cX2_reachBack 32 = .ok (.iaload, 1) := by decide +kernel
theorem dX2_reachBack_33 : decode cX2_reachBack 33 = .ok (.invokestatic 70, 3) := by decide +kernel
theorem dX2_reachBack_36 : decode cX2_reachBack 36 = .ok (.istore_n 2, 1) := by decide +kernel
theorem dX2_reachBack_37 : decode cX2_reachBack 37 = .ok (.iinc 3 1, 3) := by decide +kernel
theorem dX2_reachBack_40 : decode cX2_reachBack 40 = .ok (.goto (-31), 3) := by decide +kernel
theorem dX2_reachBack_43 : decode cX2_reachBack 43 = .ok (.aload_n 0, 1) := by decide +kernel
theorem dX2_reachBack_44 : decode cX2_reachBack 44 = .ok (.getfield 22, 3) := by decide +kernel
theorem dX2_reachBack_47 : decode cX2_reachBack 47 = .ok (.iload_n 1, 1) := by decide +kernel
theorem dX2_reachBack_48 : decode cX2_reachBack 48 = .ok (.iaload, 1) := by decide +kernel
theorem dX2_reachBack_49 : decode cX2_reachBack 49 = .ok (.iload_n 2, 1) := by decide +kernel
theorem dX2_reachBack_50 : decode cX2_reachBack 50 = .ok (.isub, 1) := by decide +kernel
theorem dX2_reachBack_51 : decode cX2_reachBack 51 = .ok (.ireturn, 1) := by decide +kernel
theorem dX2_place_0 : decode cX2_place 0 = .ok (.aload_n 0, 1) := by decide +kernel
theorem dX2_place_1 : decode cX2_place 1 = .ok (.getfield 19, 3) := by decide +kernel
theorem dX2_place_4 : decode cX2_place 4 = .ok (.iload_n 2, 1) := by decide +kernel
theorem dX2_place_5 : decode cX2_place 5 = .ok (.iload_n 1, 1) := by decide +kernel
theorem dX2_place_6 : decode cX2_place 6 = .ok (.iastore, 1) := by decide +kernel
theorem dX2_place_7 : decode cX2_place 7 = .ok (.aload_n 0, 1) := by decide +kernel
theorem dX2_place_8 : decode cX2_place 8 = .ok (.getfield 22, 3) := by decide +kernel
theorem dX2_place_11 : decode cX2_place 11 = .ok (.iload_n 1, 1) := by decide +kernel
theorem dX2_place_12 : decode cX2_place 12 = .ok (.iload_n 2, 1) := by decide +kernel
theorem dX2_place_13 : decode cX2_place 13 = .ok (.iastore, 1) := by decide +kernel
theorem dX2_place_14 : decode cX2_place 14 = .ok (.return_, 1) := by decide +kernel
theorem dX2_exchange_0 : decode cX2_exchange 0 = .ok (.aload_n 0, 1) := by decide +kernel
theorem dX2_exchange_1 : decode cX2_exchange 1 = .ok (.getfield 19, 3) := by decide +kernel
theorem dX2_exchange_4 : decode cX2_exchange 4 = .ok (.iload_n 1, 1) := by decide +kernel
theorem dX2_exchange_5 : decode cX2_exchange 5 = .ok (.iaload, 1) := by decide +kernel
theorem dX2_exchange_6 : decode cX2_exchange 6 = .ok (.istore_n 3, 1) := by decide +kernel
theorem dX2_exchange_7 : decode cX2_exchange 7 = .ok (.aload_n 0, 1) := by decide +kernel
theorem dX2_exchange_8 : decode cX2_exchange 8 = .ok (.getfield 19, 3) := by decide +kernel
theorem dX2_exchange_11 : decode cX2_exchange 11 = .ok (.iload_n 2, 1) := by decide +kernel
theorem dX2_exchange_12 : decode cX2_exchange 12 = .ok (.iaload, 1) := by decide +kernel
theorem dX2_exchange_13 : decode cX2_exchange 13 = .ok (.istore 4, 2) := by decide +kernel
theorem dX2_exchange_15 : decode cX2_exchange 15 = .ok (.aload_n 0, 1) := by decide +kernel
theorem dX2_exchange_16 : decode cX2_exchange 16 = .ok (.iload_n 3, 1) := by decide +kernel
theorem dX2_exchange_17 : decode cX2_exchange 17 = .ok (.iload_n 2, 1) := by decide +kernel
theorem dX2_exchange_18 : decode cX2_exchange 18 = .ok (.invokevirtual 35, 3) := by decide +kernel
theorem dX2_exchange_21 : decode cX2_exchange 21 = .ok (.aload_n 0, 1) := by decide +kernel
theorem dX2_exchange_22 : decode cX2_exchange 22 = .ok (.iload 4, 2) := by decide +kernel
theorem dX2_exchange_24 : decode cX2_exchange 24 = .ok (.iload_n 1, 1) := by decide +kernel
theorem dX2_exchange_25 : decode cX2_exchange 25 = .ok (.invokevirtual 35, 3) := by decide +kernel
theorem dX2_exchange_28 : decode cX2_exchange 28 = .ok (.return_, 1) := by decide +kernel
theorem dX2_turnRound_0 : decode cX2_turnRound 0 = .ok (.iconst 0, 1) := by decide +kernel
theorem dX2_turnRound_1 : decode cX2_turnRound 1 = .ok (.istore_n 1, 1) := by decide +kernel
theorem dX2_turnRound_2 : decode cX2_turnRound 2 = .ok (.iload_n 1, 1) := by decide +kernel
theorem dX2_turnRound_3 : decode cX2_turnRound 3 = .ok (.aload_n 0, 1) := by decide +kernel
theorem dX2_turnRound_4 : decode cX2_turnRound 4 = .ok (.getfield 9, 3) := by decide +kernel
theorem dX2_turnRound_7 : decode cX2_turnRound 7 = .ok (.iconst 2, 1) := by decide +kernel
theorem dX2_turnRound_8 : decode cX2_turnRound 8 = .ok (.idiv, 1) := by decide +kernel
theorem dX2_turnRound_9 : decode cX2_turnRound 9 = .ok (.if_icmp .ge 22, 3) := by decide +kernel
theorem dX2_turnRound_12 : decode cX2_turnRound 12 = .ok (.aload_n 0, 1) := by decide +kernel
theorem dX2_turnRound_13 : decode cX2_turnRound 13 = .ok (.iload_n 1, 1) := by decide +kernel
theorem dX2_turnRound_14 : decode cX2_turnRound 14 = .ok (.aload_n 0, 1) := by decide +kernel
theorem dX2_turnRound_15 : decode cX2_turnRound 15 = .ok (.getfield 9, 3) := by decide +kernel
theorem dX2_turnRound_18 : decode cX2_turnRound 18 = .ok (.iconst 1, 1) := by decide +kernel
theorem dX2_turnRound_19 : decode cX2_turnRound 19 = .ok (.isub, 1) := by decide +kernel
theorem dX2_turnRound_20 : decode cX2_turnRound 20 = .ok (.iload_n 1, 1) := by decide +kernel
theorem dX2_turnRound_21 : decode cX2_turnRound 21 = .ok (.isub, 1) := by decide +kernel
theorem dX2_turnRound_22 : decode cX2_turnRound 22 = .ok (.invokevirtual 75, 3) := by decide +kernel
theorem dX2_turnRound_25 : decode cX2_turnRound 25 = .ok (.iinc 1 1, 3) := by decide +kernel
theorem dX2_turnRound_28 : decode cX2_turnRound 28 = .ok (.goto (-26), 3) := by decide +kernel
theorem dX2_turnRound_31 : decode cX2_turnRound 31 = .ok (.return_, 1) := by decide +kernel
theorem dX2_firstOf_0 : decode cX2_firstOf 0 = .ok (.iconst 0, 1) := by decide +kernel
theorem dX2_firstOf_1 : decode cX2_firstOf 1 = .ok (.istore_n 2, 1) := by decide +kernel
theorem dX2_firstOf_2 : decode cX2_firstOf 2 = .ok (.iload_n 2, 1) := by decide +kernel
theorem dX2_firstOf_3 : decode cX2_firstOf 3 = .ok (.aload_n 0, 1) := by decide +kernel
theorem dX2_firstOf_4 : decode cX2_firstOf 4 = .ok (.getfield 9, 3) := by decide +kernel
theorem dX2_firstOf_7 : decode cX2_firstOf 7 = .ok (.if_icmp .ge 29, 3) := by decide +kernel
theorem dX2_firstOf_10 : decode cX2_firstOf 10 = .ok (.iload_n 1, 1) := by decide +kernel
theorem dX2_firstOf_11 : decode cX2_firstOf 11 = .ok (.aload_n 0, 1) := by decide +kernel
theorem dX2_firstOf_12 : decode cX2_firstOf 12 = .ok (.getfield 19, 3) := by decide +kernel
theorem dX2_firstOf_15 : decode cX2_firstOf 15 = .ok (.iload_n 2, 1) := by decide +kernel
theorem dX2_firstOf_16 : decode cX2_firstOf 16 = .ok (.iaload, 1) := by decide +kernel
theorem dX2_firstOf_17 : decode cX2_firstOf 17 = .ok (.invokestatic 78, 3) := by decide +kernel
theorem dX2_firstOf_20 : decode cX2_firstOf 20 = .ok (.ifCond .eq 10, 3) := by decide +kernel
theorem dX2_firstOf_23 : decode cX2_firstOf 23 = .ok (.aload_n 0, 1) := by decide +kernel
theorem dX2_firstOf_24 : decode cX2_firstOf 24 = .ok (.getfield 19, 3) := by decide +kernel
theorem dX2_firstOf_27 : decode cX2_firstOf 27 = .ok (.iload_n 2, 1) := by decide +kernel
theorem dX2_firstOf_28 : decode cX2_firstOf 28 = .ok (.iaload, 1) := by decide +kernel
theorem dX2_firstOf_29 : decode cX2_firstOf 29 = .ok (.ireturn, 1) := by decide +kernel
theorem dX2_firstOf_30 : decode cX2_firstOf 30 = .ok (.iinc 2 1, 3) := by decide +kernel
theorem dX2_firstOf_33 : decode cX2_firstOf 33 = .ok (.goto (-31), 3) := by decide +kernel
theorem dX2_firstOf_36 : decode cX2_firstOf 36 = .ok (.iconst (-1), 1) := by decide +kernel
theorem dX2_firstOf_37 : decode cX2_firstOf 37 = .ok (.ireturn, 1) := by decide +kernel
theorem dX3_init_0 : decode cX3_init 0 = .ok (.aload_n 0, 1) := by decide +kernel
theorem dX3_init_1 : decode cX3_init 1 = .ok (.invokespecial 3, 3) := by decide +kernel
theorem dX3_init_4 : decode cX3_init 4 = .ok (.aload_n 0, 1) := by decide +kernel
theorem dX3_init_5 : decode cX3_init 5 = .ok (.sipush 256, 3) := by decide +kernel
theorem dX3_init_8 : decode cX3_init 8 = .ok (.newarray .int, 2) := by decide +kernel
theorem dX3_init_10 : decode cX3_init 10 = .ok (.putfield 9, 3) := by decide +kernel
theorem dX3_init_13 : decode cX3_init 13 = .ok (.return_, 1) := by decide +kernel
theorem dX3_determinantOf_0 : decode cX3_determinantOf 0 = .ok (.aload_n 1, 1) := by decide +kernel
theorem dX3_determinantOf_1 : decode cX3_determinantOf 1 = .ok (.getfield 15, 3) := by decide +kernel
theorem dX3_determinantOf_4 : decode cX3_determinantOf 4 = .ok (.istore_n 2, 1) := by decide +kernel
theorem dX3_determinantOf_5 : decode cX3_determinantOf 5 = .ok (.aload_n 1, 1) := by decide +kernel
theorem dX3_determinantOf_6 : decode cX3_determinantOf 6 = .ok (.getfield 21, 3) := by decide +kernel
theorem dX3_determinantOf_9 : decode cX3_determinantOf 9 = .ok (.iconst 0, 1) := by decide +kernel
theorem dX3_determinantOf_10 : decode cX3_determinantOf 10 = .ok (.aload_n 0, 1) := by decide +kernel
theorem dX3_determinantOf_11 : decode cX3_determinantOf 11 = .ok (.getfield 9, 3) := by decide +kernel
theorem dX3_determinantOf_14 : decode cX3_determinantOf 14 = .ok (.iconst 0, 1) := by decide +kernel
theorem dX3_determinantOf_15 : decode cX3_determinantOf 15 = .ok (.sipush 256, 3) := by decide +kernel
theorem dX3_determinantOf_18 : decode cX3_determinantOf 18 = .ok (.invokestatic 24, 3) := by decide +kernel
theorem dX3_determinantOf_21 : decode cX3_determinantOf 21 = .ok (.iconst 1, 1) := by decide +kernel
theorem dX3_determinantOf_22 : decode cX3_determinantOf 22 = .ok (.istore_n 3, 1) := by decide +kernel
theorem dX3_determinantOf_23 : decode cX3_determinantOf 23 = .ok (.iconst 0, 1) := by decide +kernel
theorem dX3_determinantOf_24 : decode cX3_determinantOf 24 = .ok (.istore 4, 2) := by decide +kernel
theorem dX3_determinantOf_26 : decode cX3_determinantOf 26 = .ok (.iload 4, 2) := by decide +kernel
theorem dX3_determinantOf_28 : decode cX3_determinantOf 28 = .ok (.iload_n 2, 1) := by decide +kernel
theorem dX3_determinantOf_29 : decode cX3_determinantOf 29 = .ok (.if_icmp .ge 72, 3) := by decide +kernel
theorem dX3_determinantOf_32 : decode cX3_determinantOf 32 = .ok (.aload_n 0, 1) := by decide +kernel
theorem dX3_determinantOf_33 : decode cX3_determinantOf 33 = .ok (.iload 4, 2) := by decide +kernel
theorem dX3_determinantOf_35 : decode cX3_determinantOf 35 = .ok (.iload_n 2, 1) := by decide +kernel
theorem dX3_determinantOf_36 : decode cX3_determinantOf 36 = .ok (.invokevirtual 30, 3) := by decide +kernel
theorem dX3_determinantOf_39 : decode cX3_determinantOf 39 = .ok (.istore 5, 2) := by decide +kernel
theorem dX3_determinantOf_41 : decode cX3_determinantOf 41 = .ok (.iload 5, 2) := by decide +kernel
theorem dX3_determinantOf_43 : decode cX3_determinantOf 43 = .ok (.iconst (-1), 1) := by decide +kernel
theorem dX3_determinantOf_44 : decode cX3_determinantOf 44 = .ok (.if_icmp .ne 5, 3) := by decide +kernel
theorem dX3_determinantOf_47 : decode cX3_determinantOf 47 = .ok (.iconst 0, 1) := by decide +kernel
theorem dX3_determinantOf_48 : decode cX3_determinantOf 48 = .ok (.ireturn, 1) := by decide +kernel
theorem dX3_determinantOf_49 : decode cX3_determinantOf 49 = .ok (.iload 5, 2) := by decide +kernel
theorem dX3_determinantOf_51 : decode cX3_determinantOf 51 = .ok (.iload 4, 2) := by decide +kernel
theorem dX3_determinantOf_53 : decode cX3_determinantOf 53 = .ok (.if_icmp .eq 18, 3) := by decide +kernel
theorem dX3_determinantOf_56 : decode cX3_determinantOf 56 = .ok (.aload_n 0, 1) := by decide +kernel
theorem dX3_determinantOf_57 : decode cX3_determinantOf 57 = .ok (.iload 5, 2) := by decide +kernel
theorem dX3_determinantOf_59 : decode cX3_determinantOf 59 = .ok (.iload 4, 2) := by decide +kernel
theorem dX3_determinantOf_61 : decode cX3_determinantOf 61 = .ok (.iload_n 2, 1) := by decide +kernel
theorem dX3_determinantOf_62 : decode cX3_determinantOf 62 = .ok (.invokevirtual 34, 3) := by decide +kernel
theorem dX3_determinantOf_65 : decode cX3_determinantOf 65 = .ok (.iconst 0, 1) := by decide +kernel
theorem dX3_determinantOf_66 : decode cX3_determinantOf 66 = .ok (.iload_n 3, 1) := by decide +kernel
theorem dX3_determinantOf_67 : decode cX3_determinantOf 67 = .ok (.invokestatic 38, 3) := by decide +kernel
theorem dX3_determinantOf_70 : decode cX3_determinantOf 70 = .ok (.istore_n 3, 1) := by decide +kernel
theorem dX3_determinantOf_71 : decode cX3_determinantOf 71 = .ok (.iload_n 3, 1) := by decide +kernel
theorem dX3_determinantOf_72 : decode cX3_determinantOf 72 = .ok (.aload_n 0, 1) := by decide +kernel
theorem dX3_determinantOf_73 : decode cX3_determinantOf 73 = .ok (.getfield 9, 3) := by decide +kernel
theorem dX3_determinantOf_76 : decode cX3_determinantOf 76 = .ok (.iload 4, 2) := by decide +kernel
theorem dX3_determinantOf_78 : decode cX3_determinantOf 78 = .ok (.iload 4, 2) := by decide +kernel
theorem dX3_determinantOf_80 : decode cX3_determinantOf 80 = .ok (.invokestatic 41, 3) := by decide +kernel
theorem dX3_determinantOf_83 : decode cX3_determinantOf 83 = .ok (.iaload, 1) := by decide +kernel
theorem dX3_determinantOf_84 : decode cX3_determinantOf 84 = .ok (.invokestatic 44, 3) := by decide +kernel
theorem dX3_determinantOf_87 : decode cX3_determinantOf 87 = .ok (.istore_n 3, 1) := by decide +kernel
theorem dX3_determinantOf_88 : decode cX3_determinantOf 88 = .ok (.aload_n 0, 1) := by decide +kernel
theorem dX3_determinantOf_89 : decode cX3_determinantOf 89 = .ok (.iload 4, 2) := by decide +kernel
theorem dX3_determinantOf_91 : decode cX3_determinantOf 91 = .ok (.iload_n 2, 1) := by decide +kernel
theorem dX3_determinantOf_92 : decode cX3_determinantOf 92 = .ok (.invokevirtual 47, 3) := by decide +kernel
theorem dX3_determinantOf_95 : decode cX3_determinantOf 95 = .ok (.iinc 4 1, 3) := by decide +kernel
theorem dX3_determinantOf_98 : decode cX3_determinantOf 98 = .ok (.goto (-72), 3) := by decide +kernel
theorem dX3_determinantOf_101 : decode cX3_determinantOf 101 = .ok (.iload_n 3, 1) := by decide +kernel
theorem dX3_determinantOf_102 : decode cX3_determinantOf 102 = .ok (.ireturn, 1) := by decide +kernel
theorem dX3_rowWithEntry_0 : decode cX3_rowWithEntry 0 = .ok (.iload_n 1, 1) := by decide +kernel
theorem dX3_rowWithEntry_1 : decode cX3_rowWithEntry 1 = .ok (.istore_n 3, 1) := by decide +kernel
theorem dX3_rowWithEntry_2 : decode cX3_rowWithEntry 2 = .ok (.iload_n 3, 1) := by decide +kernel
theorem dX3_rowWithEntry_3 : decode cX3_rowWithEntry 3 = .ok (.iload_n 2, 1) := by decide +kernel
theorem dX3_rowWithEntry_4 : decode cX3_rowWithEntry 4 = .ok (.if_icmp .ge 24, 3) := by decide +kernel
theorem dX3_rowWithEntry_7 : decode cX3_rowWithEntry 7 = .ok (.aload_n 0, 1) := by decide +kernel
theorem dX3_rowWithEntry_8 : decode cX3_rowWithEntry 8 = .ok (.getfield 9, 3) := by decide +kernel
theorem dX3_rowWithEntry_11 : decode cX3_rowWithEntry 11 = .ok (.iload_n 3, 1) := by decide +kernel
theorem dX3_rowWithEntry_12 : decode cX3_rowWithEntry 12 = .ok (.iload_n 1, 1) := by decide +kernel
theorem dX3_rowWithEntry_13 : decode cX3_rowWithEntry 13 = .ok (.invokestatic 41, 3) := by decide +kernel
theorem dX3_rowWithEntry_16 : decode cX3_rowWithEntry 16 = .ok (.iaload, 1) := by decide +kernel
theorem dX3_rowWithEntry_17 : decode cX3_rowWithEntry 17 = .ok (.ifCond .eq 5, 3) := by decide +kernel
theorem dX3_rowWithEntry_20 : decode cX3_rowWithEntry 20 = .ok (.iload_n 3, 1) := by decide +kernel
theorem dX3_rowWithEntry_21 : decode cX3_rowWithEntry 21 = .ok (.ireturn, 1) := by decide +kernel
theorem dX3_rowWithEntry_22 : decode cX3_rowWithEntry 22 = .ok (.iinc 3 1, 3) := by decide +kernel
theorem dX3_rowWithEntry_25 : decode cX3_rowWithEntry 25 = .ok (.goto (-23), 3) := by decide +kernel
theorem dX3_rowWithEntry_28 : decode cX3_rowWithEntry 28 = .ok (.iconst (-1), 1) := by decide +kernel
theorem dX3_rowWithEntry_29 : decode cX3_rowWithEntry 29 = .ok (.ireturn, 1) := by decide +kernel
theorem dX3_exchangeRows_0 : decode cX3_exchangeRows 0 = .ok (.iconst 0, 1) := by decide +kernel
theorem dX3_exchangeRows_1 : decode cX3_exchangeRows 1 = .ok (.istore 4, 2) := by decide +kernel
theorem dX3_exchangeRows_3 : decode cX3_exchangeRows 3 = .ok (.iload 4, 2) := by decide +kernel
theorem dX3_exchangeRows_5 : decode cX3_exchangeRows 5 = .ok (.iload_n 3, 1) := by decide +kernel
theorem dX3_exchangeRows_6 : decode cX3_exchangeRows 6 = .ok (.if_icmp .ge 57, 3) := by decide +kernel
theorem dX3_exchangeRows_9 : decode cX3_exchangeRows 9 = .ok (.aload_n 0, 1) := by decide +kernel
theorem dX3_exchangeRows_10 : decode cX3_exchangeRows 10 = .ok (.getfield 9, 3) := by decide +kernel
theorem dX3_exchangeRows_13 : decode cX3_exchangeRows 13 = .ok (.iload_n 1, 1) := by decide +kernel
theorem dX3_exchangeRows_14 : decode cX3_exchangeRows 14 = .ok (.iload 4, 2) := by decide +kernel
theorem dX3_exchangeRows_16 : decode cX3_exchangeRows 16 = .ok (.invokestatic 41, 3) := by decide +kernel
theorem dX3_exchangeRows_19 : decode cX3_exchangeRows 19 = .ok (.iaload, 1) := by decide +kernel
theorem dX3_exchangeRows_20 : decode cX3_exchangeRows 20 = .ok (.istore 5, 2) := by decide +kernel
theorem dX3_exchangeRows_22 : decode cX3_exchangeRows 22 = .ok (.aload_n 0, 1) := by decide +kernel
theorem dX3_exchangeRows_23 : decode cX3_exchangeRows 23 = .ok (.getfield 9, 3) := by decide +kernel
theorem dX3_exchangeRows_26 : decode cX3_exchangeRows 26 = .ok (.iload_n 1, 1) := by decide +kernel
theorem dX3_exchangeRows_27 : decode cX3_exchangeRows 27 = .ok (.iload 4, 2) := by decide +kernel
theorem dX3_exchangeRows_29 : decode cX3_exchangeRows 29 = .ok (.invokestatic 41, 3) := by decide +kernel
theorem dX3_exchangeRows_32 : decode cX3_exchangeRows 32 = .ok (.aload_n 0, 1) := by decide +kernel
theorem dX3_exchangeRows_33 : decode cX3_exchangeRows 33 = .ok (.getfield 9, 3) := by decide +kernel
theorem dX3_exchangeRows_36 : decode cX3_exchangeRows 36 = .ok (.iload_n 2, 1) := by decide +kernel
theorem dX3_exchangeRows_37 : decode cX3_exchangeRows 37 = .ok (.iload 4, 2) := by decide +kernel
theorem dX3_exchangeRows_39 : decode cX3_exchangeRows 39 = .ok (.invokestatic 41, 3) := by decide +kernel
theorem dX3_exchangeRows_42 : decode cX3_exchangeRows 42 = .ok (.iaload, 1) := by decide +kernel
theorem dX3_exchangeRows_43 : decode cX3_exchangeRows 43 = .ok (.iastore, 1) := by decide +kernel
theorem dX3_exchangeRows_44 : decode cX3_exchangeRows 44 = .ok (.aload_n 0, 1) := by decide +kernel
theorem dX3_exchangeRows_45 : decode cX3_exchangeRows 45 = .ok (.getfield 9, 3) := by decide +kernel
theorem dX3_exchangeRows_48 : decode cX3_exchangeRows 48 = .ok (.iload_n 2, 1) := by decide +kernel
theorem dX3_exchangeRows_49 : decode cX3_exchangeRows 49 = .ok (.iload 4, 2) := by decide +kernel
theorem dX3_exchangeRows_51 : decode cX3_exchangeRows 51 = .ok (.invokestatic 41, 3) := by decide +kernel
theorem dX3_exchangeRows_54 : decode cX3_exchangeRows 54 = .ok (.iload 5, 2) := by decide +kernel
theorem dX3_exchangeRows_56 : decode cX3_exchangeRows 56 = .ok (.iastore, 1) := by decide +kernel
theorem dX3_exchangeRows_57 : decode cX3_exchangeRows 57 = .ok (.iinc 4 1, 3) := by decide +kernel
theorem dX3_exchangeRows_60 : decode cX3_exchangeRows 60 = .ok (.goto (-57), 3) := by decide +kernel
theorem dX3_exchangeRows_63 : decode cX3_exchangeRows 63 = .ok (.return_, 1) := by decide +kernel
theorem dX3_clearBelow_0 : decode cX3_clearBelow 0 = .ok (.aload_n 0, 1) := by decide +kernel
theorem dX3_clearBelow_1 : decode cX3_clearBelow 1 = .ok (.getfield 9, 3) := by decide +kernel
theorem dX3_clearBelow_4 : decode cX3_clearBelow 4 = .ok (.iload_n 1, 1) := by decide +kernel
theorem dX3_clearBelow_5 : decode cX3_clearBelow 5 = .ok (.iload_n 1, 1) := by decide +kernel
theorem dX3_clearBelow_6 : decode cX3_clearBelow 6 = .ok (.invokestatic 41, 3) := by decide +kernel
theorem dX3_clearBelow_9 : decode cX3_clearBelow 9 = .ok (.iaload, 1) := by decide +kernel
theorem dX3_clearBelow_10 : decode cX3_clearBelow 10 = .ok (.invokestatic 51, 3) := by decide +kernel
theorem dX3_clearBelow_13 : decode cX3_clearBelow 13 = .ok (.istore_n 3, 1) := by decide +kernel
theorem dX3_clearBelow_14 : decode cX3_clearBelow 14 = .ok (.iload_n 1, 1) := by decide +kernel
theorem dX3_clearBelow_15 : decode cX3_clearBelow 15 = .ok (.iconst 1, 1) := by decide +kernel
theorem dX3_clearBelow_16 : decode cX3_clearBelow 16 = .ok (.iadd, 1) := by decide +kernel
theorem dX3_clearBelow_17 : decode cX3_clearBelow 17 = .ok (.istore 4, 2) := by decide +kernel
theorem dX3_clearBelow_19 : decode cX3_clearBelow 19 = .ok (.iload 4, 2) := by decide +kernel
theorem dX3_clearBelow_21 : decode cX3_clearBelow 21 = .ok (.iload_n 2, 1) := by decide +kernel
theorem dX3_clearBelow_22 : decode cX3_clearBelow 22 = .ok (.if_icmp .ge 84, 3) := by decide +kernel
theorem dX3_clearBelow_25 : decode cX3_clearBelow 25 = .ok (.aload_n 0, 1) := by decide +kernel
theorem dX3_clearBelow_26 : decode cX3_clearBelow 26 = .ok (.getfield 9, 3) := by decide +kernel
theorem dX3_clearBelow_29 : decode cX3_clearBelow 29 = .ok (.iload 4, 2) := by decide +kernel
theorem dX3_clearBelow_31 : decode cX3_clearBelow 31 = .ok (.iload_n 1, 1) := by decide +kernel
theorem dX3_clearBelow_32 : decode cX3_clearBelow 32 = .ok (.invokestatic 41, 3) := by decide +kernel
theorem dX3_clearBelow_35 : decode cX3_clearBelow 35 = .ok (.iaload, 1) := by decide +kernel
theorem dX3_clearBelow_36 : decode cX3_clearBelow 36 = .ok (.iload_n 3, 1) := by decide +kernel
theorem dX3_clearBelow_37 : decode cX3_clearBelow 37 = .ok (.invokestatic 44, 3) := by decide +kernel
theorem dX3_clearBelow_40 : decode cX3_clearBelow 40 = .ok (.istore 5, 2) := by decide +kernel
theorem dX3_clearBelow_42 : decode cX3_clearBelow 42 = .ok (.iload_n 1, 1) := by decide +kernel
theorem dX3_clearBelow_43 : decode cX3_clearBelow 43 = .ok (.istore 6, 2) := by decide +kernel
theorem dX3_clearBelow_45 : decode cX3_clearBelow 45 = .ok (.iload 6, 2) := by decide +kernel
theorem dX3_clearBelow_47 : decode cX3_clearBelow 47 = .ok (.iload_n 2, 1) := by decide +kernel
theorem dX3_clearBelow_48 : decode cX3_clearBelow 48 = .ok (.if_icmp .ge 52, 3) := by decide +kernel
theorem dX3_clearBelow_51 : decode cX3_clearBelow 51 = .ok (.aload_n 0, 1) := by decide +kernel
theorem dX3_clearBelow_52 : decode cX3_clearBelow 52 = .ok (.getfield 9, 3) := by decide +kernel
theorem dX3_clearBelow_55 : decode cX3_clearBelow 55 = .ok (.iload 4, 2) := by decide +kernel
theorem dX3_clearBelow_57 : decode cX3_clearBelow 57 = .ok (.iload 6, 2) := by decide +kernel
theorem dX3_clearBelow_59 : decode cX3_clearBelow 59 = .ok (.invokestatic 41, 3) := by decide +kernel
theorem dX3_clearBelow_62 : decode cX3_clearBelow 62 = .ok (.aload_n 0, 1) := by decide +kernel
theorem dX3_clearBelow_63 : decode cX3_clearBelow 63 = .ok (.getfield 9, 3) := by decide +kernel
theorem dX3_clearBelow_66 : decode cX3_clearBelow 66 = .ok (.iload 4, 2) := by decide +kernel
theorem dX3_clearBelow_68 : decode cX3_clearBelow 68 = .ok (.iload 6, 2) := by decide +kernel
theorem dX3_clearBelow_70 : decode cX3_clearBelow 70 = .ok (.invokestatic 41, 3) := by decide +kernel
theorem dX3_clearBelow_73 : decode cX3_clearBelow 73 = .ok (.iaload, 1) := by decide +kernel
theorem dX3_clearBelow_74 : decode cX3_clearBelow 74 = .ok (.iload 5, 2) := by decide +kernel
theorem dX3_clearBelow_76 : decode cX3_clearBelow 76 = .ok (.aload_n 0, 1) := by decide +kernel
theorem dX3_clearBelow_77 : decode cX3_clearBelow 77 = .ok (.getfield 9, 3) := by decide +kernel
theorem dX3_clearBelow_80 : decode cX3_clearBelow 80 = .ok (.iload_n 1, 1) := by decide +kernel
theorem dX3_clearBelow_81 : decode cX3_clearBelow 81 = .ok (.iload 6, 2) := by decide +kernel
theorem dX3_clearBelow_83 : decode cX3_clearBelow 83 = .ok (.invokestatic 41, 3) := by decide +kernel
theorem dX3_clearBelow_86 : decode cX3_clearBelow 86 = .ok (.iaload, 1) := by decide +kernel
theorem dX3_clearBelow_87 : decode cX3_clearBelow 87 = .ok (.invokestatic 44, 3) := by decide +kernel
theorem dX3_clearBelow_90 : decode cX3_clearBelow 90 = .ok (.invokestatic 38, 3) := by decide +kernel
theorem dX3_clearBelow_93 : decode cX3_clearBelow 93 = .ok (.iastore, 1) := by decide +kernel
theorem dX3_clearBelow_94 : decode cX3_clearBelow 94 = .ok (.iinc 6 1, 3) := by decide +kernel
theorem dX3_clearBelow_97 : decode cX3_clearBelow 97 = .ok (.goto (-52), 3) := by decide +kernel
theorem dX3_clearBelow_100 : decode cX3_clearBelow 100 = .ok (.iinc 4 1, 3) := by decide +kernel
theorem dX3_clearBelow_103 : decode cX3_clearBelow 103 = .ok (.goto (-84), 3) := by decide +kernel
theorem dX3_clearBelow_106 : decode cX3_clearBelow 106 = .ok (.return_, 1) := by decide +kernel
theorem dX4_init_0 : decode cX4_init 0 = .ok (.aload_n 0, 1) := by decide +kernel
theorem dX4_init_1 : decode cX4_init 1 = .ok (.invokespecial 1, 3) := by decide +kernel
theorem dX4_init_4 : decode cX4_init 4 = .ok (.aload_n 0, 1) := by decide +kernel
theorem dX4_init_5 : decode cX4_init 5 = .ok (.new 7, 3) := by decide +kernel
theorem dX4_init_8 : decode cX4_init 8 = .ok (.dup, 1) := by decide +kernel
theorem dX4_init_9 : decode cX4_init 9 = .ok (.invokespecial 9, 3) := by decide +kernel
theorem dX4_init_12 : decode cX4_init 12 = .ok (.putfield 10, 3) := by decide +kernel
theorem dX4_init_15 : decode cX4_init 15 = .ok (.aload_n 0, 1) := by decide +kernel
theorem dX4_init_16 : decode cX4_init 16 = .ok (.bipush 6, 2) := by decide +kernel
theorem dX4_init_18 : decode cX4_init 18 = .ok (.anewarray 7, 3) := by decide +kernel
theorem dX4_init_21 : decode cX4_init 21 = .ok (.putfield 16, 3) := by decide +kernel
theorem dX4_init_24 : decode cX4_init 24 = .ok (.iconst 0, 1) := by decide +kernel
theorem dX4_init_25 : decode cX4_init 25 = .ok (.istore_n 1, 1) := by decide +kernel
theorem dX4_init_26 : decode cX4_init 26 = .ok (.iload_n 1, 1) := by decide +kernel
theorem dX4_init_27 : decode cX4_init 27 = .ok (.bipush 6, 2) := by decide +kernel
theorem dX4_init_29 : decode cX4_init 29 = .ok (.if_icmp .ge 22, 3) := by decide +kernel
theorem dX4_init_32 : decode cX4_init 32 = .ok (.aload_n 0, 1) := by decide +kernel
theorem dX4_init_33 : decode cX4_init 33 = .ok (.getfield 16, 3) := by decide +kernel
theorem dX4_init_36 : decode cX4_init 36 = .ok (.iload_n 1, 1) := by decide +kernel
theorem dX4_init_37 : decode cX4_init 37 = .ok (.new 7, 3) := by decide +kernel
theorem dX4_init_40 : decode cX4_init 40 = .ok (.dup, 1) := by decide +kernel
theorem dX4_init_41 : decode cX4_init 41 = .ok (.invokespecial 9, 3) := by decide +kernel
theorem dX4_init_44 : decode cX4_init 44 = .ok (.aastore, 1) := by decide +kernel
theorem dX4_init_45 : decode cX4_init 45 = .ok (.iinc 1 1, 3) := by decide +kernel
theorem dX4_init_48 : decode cX4_init 48 = .ok (.goto (-22), 3) := by decide +kernel
theorem dX4_init_51 : decode cX4_init 51 = .ok (.aload_n 0, 1) := by decide +kernel
theorem dX4_init_52 : decode cX4_init 52 = .ok (.new 20, 3) := by decide +kernel
theorem dX4_init_55 : decode cX4_init 55 = .ok (.dup, 1) := by decide +kernel
theorem dX4_init_56 : decode cX4_init 56 = .ok (.invokespecial 22, 3) := by decide +kernel
theorem dX4_init_59 : decode cX4_init 59 = .ok (.putfield 23, 3) := by decide +kernel
theorem dX4_init_62 : decode cX4_init 62 = .ok (.aload_n 0, 1) := by decide +kernel
theorem dX4_init_63 : decode cX4_init 63 = .ok (.new 27, 3) := by decide +kernel
theorem dX4_init_66 : decode cX4_init 66 = .ok (.dup, 1) := by decide +kernel
theorem dX4_init_67 : decode cX4_init 67 = .ok (.invokespecial 29, 3) := by decide +kernel
theorem dX4_init_70 : decode cX4_init 70 = .ok (.putfield 30, 3) := by decide +kernel
theorem dX4_init_73 : decode cX4_init 73 = .ok (.aload_n 0, 1) := by decide +kernel
theorem dX4_init_74 : decode cX4_init 74 = .ok (.new 34, 3) := by decide +kernel
theorem dX4_init_77 : decode cX4_init 77 = .ok (.dup, 1) := by decide +kernel
theorem dX4_init_78 : decode cX4_init 78 = .ok (.invokespecial 36, 3) := by decide +kernel
theorem dX4_init_81 : decode cX4_init 81 = .ok (.putfield 37, 3) := by decide +kernel
theorem dX4_init_84 : decode cX4_init 84 = .ok (.aload_n 0, 1) := by decide +kernel
theorem dX4_init_85 : decode cX4_init 85 = .ok (.bipush 16, 2) := by decide +kernel
theorem dX4_init_87 : decode cX4_init 87 = .ok (.newarray .int, 2) := by decide +kernel
theorem dX4_init_89 : decode cX4_init 89 = .ok (.putfield 41, 3) := by decide +kernel
theorem dX4_init_92 : decode cX4_init 92 = .ok (.aload_n 0, 1) := by decide +kernel
theorem dX4_init_93 : decode cX4_init 93 = .ok (.bipush 16, 2) := by decide +kernel
theorem dX4_init_95 : decode cX4_init 95 = .ok (.newarray .int, 2) := by decide +kernel
theorem dX4_init_97 : decode cX4_init 97 = .ok (.putfield 45, 3) := by decide +kernel
theorem dX4_init_100 : decode cX4_init 100 = .ok (.aload_n 0, 1) := by decide +kernel
theorem dX4_init_101 : decode cX4_init 101 = .ok (.iconst 0, 1) := by decide +kernel
theorem dX4_init_102 : decode cX4_init 102 = .ok (.putfield 48, 3) := by decide +kernel
theorem dX4_init_105 : decode cX4_init 105 = .ok (.aload_n 0, 1) := by decide +kernel
theorem dX4_init_106 : decode cX4_init 106 = .ok (.iconst 0, 1) := by decide +kernel
theorem dX4_init_107 : decode cX4_init 107 = .ok (.putfield 52, 3) := by decide +kernel
theorem dX4_init_110 : decode cX4_init 110 = .ok (.return_, 1) := by decide +kernel
theorem dX4_setSize_0 : decode cX4_setSize 0 = .ok (.iload_n 1, 1) := by decide +kernel
theorem dX4_setSize_1 : decode cX4_setSize 1 = .ok (.iconst 1, 1) := by decide +kernel
theorem dX4_setSize_2 : decode cX4_setSize 2 = .ok (.if_icmp .lt 9, 3) := by decide +kernel
theorem dX4_setSize_5 : decode cX4_setSize 5 = .ok (.iload_n 1, 1) := by decide +kernel
theorem dX4_setSize_6 : decode cX4_setSize 6 = .ok (.bipush 16, 2) := by decide +kernel
theorem dX4_setSize_8 : decode cX4_setSize 8 = .ok (.if_icmp .le 13, 3) := by decide +kernel
theorem dX4_setSize_11 : decode cX4_setSize 11 = .ok (.new 56, 3) := by decide +kernel
theorem dX4_setSize_14 : decode cX4_setSize 14 = .ok (.dup, 1) := by decide +kernel
theorem dX4_setSize_15 : decode cX4_setSize 15 = .ok (.ldc 58, 2) := by decide +kernel
theorem dX4_setSize_17 : decode cX4_setSize 17 = .ok (.invokespecial 60, 3) := by decide +kernel
theorem dX4_setSize_20 : decode cX4_setSize 20 = .ok (.athrow, 1) := by decide +kernel
theorem dX4_setSize_21 : decode cX4_setSize 21 = .ok (.aload_n 0, 1) := by decide +kernel
theorem dX4_setSize_22 : decode cX4_setSize 22 = .ok (.getfield 10, 3) := by decide +kernel
theorem dX4_setSize_25 : decode cX4_setSize 25 = .ok (.iload_n 1, 1) := by decide +kernel
theorem dX4_setSize_26 : decode cX4_setSize 26 = .ok (.invokevirtual 63, 3) := by decide +kernel
theorem dX4_setSize_29 : decode cX4_setSize 29 = .ok (.aload_n 0, 1) := by decide +kernel
theorem dX4_setSize_30 : decode cX4_setSize 30 = .ok (.getfield 30, 3) := by decide +kernel
theorem dX4_setSize_33 : decode cX4_setSize 33 = .ok (.invokevirtual 67, 3) := by decide +kernel
theorem dX4_setSize_36 : decode cX4_setSize 36 = .ok (.aload_n 0, 1) := by decide +kernel
theorem dX4_setSize_37 : decode cX4_setSize 37 = .ok (.iconst 0, 1) := by decide +kernel
theorem dX4_setSize_38 : decode cX4_setSize 38 = .ok (.putfield 48, 3) := by decide +kernel
theorem dX4_setSize_41 : decode cX4_setSize 41 = .ok (.iload_n 1, 1) := by decide +kernel
theorem dX4_setSize_42 : decode cX4_setSize 42 = .ok (.ireturn, 1) := by decide +kernel
theorem dX4_size_0 : decode cX4_size 0 = .ok (.aload_n 0, 1) := by decide +kernel
theorem dX4_size_1 : decode cX4_size 1 = .ok (.getfield 10, 3) := by decide +kernel
theorem dX4_size_4 : decode cX4_size 4 = .ok (.getfield 70, 3) := by decide +kernel
theorem dX4_size_7 : decode cX4_size 7 = .ok (.ireturn, 1) := by decide +kernel
theorem dX4_setEntry_0 : decode cX4_setEntry 0 = .ok (.aload_n 0, 1) := by decide +kernel
theorem dX4_setEntry_1 : decode cX4_setEntry 1 = .ok (.iload_n 1, 1) := by decide +kernel
theorem dX4_setEntry_2 : decode cX4_setEntry 2 = .ok (.invokevirtual 73, 3) := by decide +kernel
theorem dX4_setEntry_5 : decode cX4_setEntry 5 = .ok (.aload_n 0, 1) := by decide +kernel
theorem dX4_setEntry_6 : decode cX4_setEntry 6 = .ok (.iload_n 2, 1) := by decide +kernel
theorem dX4_setEntry_7 : decode cX4_setEntry 7 = .ok (.invokevirtual 73, 3) := by decide +kernel
theorem dX4_setEntry_10 : decode cX4_setEntry 10 = .ok (.iload_n 3, 1) := by decide +kernel
theorem dX4_setEntry_11 : decode cX4_setEntry 11 = .ok (.invokestatic 76, 3) := by decide +kernel
theorem dX4_setEntry_14 : decode cX4_setEntry 14 = .ok (.aload_n 0, 1) := by decide +kernel
theorem dX4_setEntry_15 : decode cX4_setEntry 15 = .ok (.getfield 10, 3) := by decide +kernel
theorem dX4_setEntry_18 : decode cX4_setEntry 18 = .ok (.iload_n 1, 1) := by decide +kernel
theorem dX4_setEntry_19 : decode cX4_setEntry 19 = .ok (.iload_n 2, 1) := by decide +kernel
theorem dX4_setEntry_20 : decode cX4_setEntry 20 = .ok (.invokevirtual 79, 3) := by decide +kernel
theorem dX4_setEntry_23 : decode cX4_setEntry 23 = .ok (.istore 4, 2) := by decide +kernel
theorem dX4_setEntry_25 : decode cX4_setEntry 25 = .ok (.aload_n 0, 1) := by decide +kernel
theorem dX4_setEntry_26 : decode cX4_setEntry 26 = .ok (.getfield 10, 3) := by decide +kernel
theorem dX4_setEntry_29 : decode cX4_setEntry 29 = .ok (.iload_n 1, 1) := by decide +kernel
theorem dX4_setEntry_30 : decode cX4_setEntry 30 = .ok (.iload_n 2, 1) := by decide +kernel
theorem dX4_setEntry_31 : decode cX4_setEntry 31 = .ok (.iload_n 3, 1) := by decide +kernel
theorem dX4_setEntry_32 : decode cX4_setEntry 32 = .ok (.invokevirtual 83, 3) := by decide +kernel
theorem dX4_setEntry_35 : decode cX4_setEntry 35 = .ok (.aload_n 0, 1) := by decide +kernel
theorem dX4_setEntry_36 : decode cX4_setEntry 36 = .ok (.getfield 30, 3) := by decide +kernel
theorem dX4_setEntry_39 : decode cX4_setEntry 39 = .ok (.invokevirtual 67, 3) := by decide +kernel
theorem dX4_setEntry_42 : decode cX4_setEntry 42 = .ok (.iload 4, 2) := by decide +kernel
theorem dX4_setEntry_44 : decode cX4_setEntry 44 = .ok (.ireturn, 1) := by decide +kernel
theorem dX4_entry_0 : decode cX4_entry 0 = .ok (.aload_n 0, 1) := by decide +kernel
theorem dX4_entry_1 : decode cX4_entry 1 = .ok (.iload_n 1, 1) := by decide +kernel
theorem dX4_entry_2 : decode cX4_entry 2 = .ok (.invokevirtual 73, 3) := by decide +kernel
theorem dX4_entry_5 : decode cX4_entry 5 = .ok (.aload_n 0, 1) := by decide +kernel
theorem dX4_entry_6 : decode cX4_entry 6 = .ok (.iload_n 2, 1) := by decide +kernel
theorem dX4_entry_7 : decode cX4_entry 7 = .ok (.invokevirtual 73, 3) := by decide +kernel
theorem dX4_entry_10 : decode cX4_entry 10 = .ok (.aload_n 0, 1) := by decide +kernel
theorem dX4_entry_11 : decode cX4_entry 11 = .ok (.getfield 10, 3) := by decide +kernel
theorem dX4_entry_14 : decode cX4_entry 14 = .ok (.iload_n 1, 1) := by decide +kernel
theorem dX4_entry_15 : decode cX4_entry 15 = .ok (.iload_n 2, 1) := by decide +kernel
theorem dX4_entry_16 : decode cX4_entry 16 = .ok (.invokevirtual 79, 3) := by decide +kernel
theorem dX4_entry_19 : decode cX4_entry 19 = .ok (.ireturn, 1) := by decide +kernel
theorem dX4_linkCount_0 : decode cX4_linkCount 0 = .ok (.aload_n 0, 1) := by decide +kernel
theorem dX4_linkCount_1 : decode cX4_linkCount 1 = .ok (.getfield 10, 3) := by decide +kernel
theorem dX4_linkCount_4 : decode cX4_linkCount 4 = .ok (.invokevirtual 87, 3) := by decide +kernel
theorem dX4_linkCount_7 : decode cX4_linkCount 7 = .ok (.ireturn, 1) := by decide +kernel
theorem dX4_determinant_0 : decode cX4_determinant 0 = .ok (.aload_n 0, 1) := by decide +kernel
theorem dX4_determinant_1 : decode cX4_determinant 1 = .ok (.getfield 37, 3) := by decide +kernel
theorem dX4_determinant_4 : decode cX4_determinant 4 = .ok (.aload_n 0, 1) := by decide +kernel
theorem dX4_determinant_5 : decode cX4_determinant 5 = .ok (.getfield 10, 3) := by decide +kernel
theorem dX4_determinant_8 : decode cX4_determinant 8 = .ok (.invokevirtual 91, 3) := by decide +kernel
theorem dX4_determinant_11 : decode cX4_determinant 11 = .ok (.ireturn, 1) := by decide +kernel
theorem dX4_swap_0 : decode cX4_swap 0 = .ok (.aload_n 0, 1) := by decide +kernel
theorem dX4_swap_1 : decode cX4_swap 1 = .ok (.iload_n 1, 1) := by decide +kernel
theorem dX4_swap_2 : decode cX4_swap 2 = .ok (.invokevirtual 95, 3) := by decide +kernel
theorem dX4_swap_5 : decode cX4_swap 5 = .ok (.aload_n 0, 1) := by decide +kernel
theorem dX4_swap_6 : decode cX4_swap 6 = .ok (.iload_n 2, 1) := by decide +kernel
theorem dX4_swap_7 : decode cX4_swap 7 = .ok (.invokevirtual 95, 3) := by decide +kernel
theorem dX4_swap_10 : decode cX4_swap 10 = .ok (.aload_n 0, 1) := by decide +kernel
theorem dX4_swap_11 : decode cX4_swap 11 = .ok (.getfield 10, 3) := by decide +kernel
theorem dX4_swap_14 : decode cX4_swap 14 = .ok (.iload_n 1, 1) := by decide +kernel
theorem dX4_swap_15 : decode cX4_swap 15 = .ok (.iload_n 2, 1) := by decide +kernel
theorem dX4_swap_16 : decode cX4_swap 16 = .ok (.invokevirtual 98, 3) := by decide +kernel
theorem dX4_swap_19 : decode cX4_swap 19 = .ok (.aload_n 0, 1) := by decide +kernel
theorem dX4_swap_20 : decode cX4_swap 20 = .ok (.getfield 30, 3) := by decide +kernel
theorem dX4_swap_23 : decode cX4_swap 23 = .ok (.invokevirtual 67, 3) := by decide +kernel
theorem dX4_swap_26 : decode cX4_swap 26 = .ok (.iload_n 1, 1) := by decide +kernel
theorem dX4_swap_27 : decode cX4_swap 27 = .ok (.iload_n 2, 1) := by decide +kernel
theorem dX4_swap_28 : decode cX4_swap 28 = .ok (.if_icmp .eq 7, 3) := by decide +kernel
theorem dX4_swap_31 : decode cX4_swap 31 = .ok (.iconst 1, 1) := by decide +kernel
theorem dX4_swap_32 : decode cX4_swap 32 = .ok (.goto 4, 3) := by decide +kernel
theorem dX4_swap_35 : decode cX4_swap 35 = .ok (.iconst 0, 1) := by decide +kernel
theorem dX4_swap_36 : decode cX4_swap 36 = .ok (.ireturn, 1) := by decide +kernel
theorem dX4_minimumDegree_0 : decode cX4_minimumDegree 0 = .ok (.aload_n 0, 1) := by decide +kernel
theorem dX4_minimumDegree_1 : decode cX4_minimumDegree 1 = .ok (.getfield 23, 3) := by decide +kernel
theorem dX4_minimumDegree_4 : decode cX4_minimumDegree 4 = .ok (.aload_n 0, 1) := by decide +kernel
theorem dX4_minimumDegree_5 : decode cX4_minimumDegree 5 = .ok (.getfield 10, 3) := by decide +kernel
theorem dX4_minimumDegree_8 : decode cX4_minimumDegree 8 = .ok (.invokevirtual 102, 3) := by decide +kernel
theorem dX4_minimumDegree_11 : decode cX4_minimumDegree 11 = .ok (.aload_n 0, 1) := by decide +kernel
theorem dX4_minimumDegree_12 : decode cX4_minimumDegree 12 = .ok (.getfield 30, 3) := by decide +kernel
theorem dX4_minimumDegree_15 : decode cX4_minimumDegree 15 = .ok (.invokevirtual 67, 3) := by decide +kernel
theorem dX4_minimumDegree_18 : decode cX4_minimumDegree 18 = .ok (.aload_n 0, 1) := by decide +kernel
theorem dX4_minimumDegree_19 : decode cX4_minimumDegree 19 = .ok (.invokevirtual 106, 3) := by decide +kernel
theorem dX4_minimumDegree_22 : decode cX4_minimumDegree 22 = .ok (.ireturn, 1) := by decide +kernel
theorem dX4_reverse_0 : decode cX4_reverse 0 = .ok (.aload_n 0, 1) := by decide +kernel
theorem dX4_reverse_1 : decode cX4_reverse 1 = .ok (.getfield 10, 3) := by decide +kernel
theorem dX4_reverse_4 : decode cX4_reverse 4 = .ok (.invokevirtual 109, 3) := by decide +kernel
theorem dX4_reverse_7 : decode cX4_reverse 7 = .ok (.aload_n 0, 1) := by decide +kernel
theorem dX4_reverse_8 : decode cX4_reverse 8 = .ok (.getfield 30, 3) := by decide +kernel
theorem dX4_reverse_11 : decode cX4_reverse 11 = .ok (.invokevirtual 67, 3) := by decide +kernel
theorem dX4_reverse_14 : decode cX4_reverse 14 = .ok (.aload_n 0, 1) := by decide +kernel
theorem dX4_reverse_15 : decode cX4_reverse 15 = .ok (.invokevirtual 106, 3) := by decide +kernel
theorem dX4_reverse_18 : decode cX4_reverse 18 = .ok (.ireturn, 1) := by decide +kernel
theorem dX4_position_0 : decode cX4_position 0 = .ok (.aload_n 0, 1) := by decide +kernel
theorem dX4_position_1 : decode cX4_position 1 = .ok (.iload_n 1, 1) := by decide +kernel
theorem dX4_position_2 : decode cX4_position 2 = .ok (.invokevirtual 73, 3) := by decide +kernel
theorem dX4_position_5 : decode cX4_position 5 = .ok (.aload_n 0, 1) := by decide +kernel
theorem dX4_position_6 : decode cX4_position 6 = .ok (.getfield 10, 3) := by decide +kernel
theorem dX4_position_9 : decode cX4_position 9 = .ok (.getfield 112, 3) := by decide +kernel
theorem dX4_position_12 : decode cX4_position 12 = .ok (.iload_n 1, 1) := by decide +kernel
theorem dX4_position_13 : decode cX4_position 13 = .ok (.iaload, 1) := by decide +kernel
theorem dX4_position_14 : decode cX4_position 14 = .ok (.ireturn, 1) := by decide +kernel
theorem dX4_rowAt_0 : decode cX4_rowAt 0 = .ok (.aload_n 0, 1) := by decide +kernel
theorem dX4_rowAt_1 : decode cX4_rowAt 1 = .ok (.iload_n 1, 1) := by decide +kernel
theorem dX4_rowAt_2 : decode cX4_rowAt 2 = .ok (.invokevirtual 95, 3) := by decide +kernel
theorem dX4_rowAt_5 : decode cX4_rowAt 5 = .ok (.aload_n 0, 1) := by decide +kernel
theorem dX4_rowAt_6 : decode cX4_rowAt 6 = .ok (.getfield 10, 3) := by decide +kernel
theorem dX4_rowAt_9 : decode cX4_rowAt 9 = .ok (.getfield 115, 3) := by decide +kernel
theorem dX4_rowAt_12 : decode cX4_rowAt 12 = .ok (.iload_n 1, 1) := by decide +kernel
theorem dX4_rowAt_13 : decode cX4_rowAt 13 = .ok (.iaload, 1) := by decide +kernel
theorem dX4_rowAt_14 : decode cX4_rowAt 14 = .ok (.ireturn, 1) := by decide +kernel
theorem dX4_bandwidth_0 : decode cX4_bandwidth 0 = .ok (.iconst 0, 1) := by decide +kernel
theorem dX4_bandwidth_1 : decode cX4_bandwidth 1 = .ok (.istore_n 1, 1) := by decide +kernel
theorem dX4_bandwidth_2 : decode cX4_bandwidth 2 = .ok (.iconst 0, 1) := by decide +kernel
theorem dX4_bandwidth_3 : decode cX4_bandwidth 3 = .ok (.istore_n 2, 1) := by decide +kernel
theorem dX4_bandwidth_4 : decode cX4_bandwidth 4 = .ok (.iload_n 2, 1) := by decide +kernel
theorem dX4_bandwidth_5 : decode cX4_bandwidth 5 = .ok (.aload_n 0, 1) := by decide +kernel
theorem dX4_bandwidth_6 : decode cX4_bandwidth 6 = .ok (.getfield 10, 3) := by decide +kernel
theorem dX4_bandwidth_9 : decode cX4_bandwidth 9 = .ok (.getfield 70, 3) := by decide +kernel
theorem dX4_bandwidth_12 : decode cX4_bandwidth 12 = .ok (.if_icmp .ge 22, 3) := by decide +kernel
theorem dX4_bandwidth_15 : decode cX4_bandwidth 15 = .ok (.iload_n 1, 1) := by decide +kernel
theorem dX4_bandwidth_16 : decode cX4_bandwidth 16 = .ok (.aload_n 0, 1) := by decide +kernel
theorem dX4_bandwidth_17 : decode cX4_bandwidth 17 = .ok (.getfield 10, 3) := by decide +kernel
theorem dX4_bandwidth_20 : decode cX4_bandwidth 20 = .ok (.iload_n 2, 1) := by decide +kernel
theorem dX4_bandwidth_21 : decode cX4_bandwidth 21 = .ok (.invokevirtual 118, 3) := by decide +kernel
theorem dX4_bandwidth_24 : decode cX4_bandwidth 24 = .ok (.invokestatic 122, 3) := by decide +kernel
theorem dX4_bandwidth_27 : decode cX4_bandwidth 27 = .ok (.istore_n 1, 1) := by decide +kernel
theorem dX4_bandwidth_28 : decode cX4_bandwidth 28 = .ok (.iinc 2 1, 3) := by decide +kernel
theorem dX4_bandwidth_31 : decode cX4_bandwidth 31 = .ok (.goto (-27), 3) := by decide +kernel
theorem dX4_bandwidth_34 : decode cX4_bandwidth 34 = .ok (.iload_n 1, 1) := by decide +kernel
theorem dX4_bandwidth_35 : decode cX4_bandwidth 35 = .ok (.ireturn, 1) := by decide +kernel
theorem dX4_profile_0 : decode cX4_profile 0 = .ok (.iconst 0, 1) := by decide +kernel
theorem dX4_profile_1 : decode cX4_profile 1 = .ok (.istore_n 1, 1) := by decide +kernel
theorem dX4_profile_2 : decode cX4_profile 2 = .ok (.iconst 0, 1) := by decide +kernel
theorem dX4_profile_3 : decode cX4_profile 3 = .ok (.istore_n 2, 1) := by decide +kernel
theorem dX4_profile_4 : decode cX4_profile 4 = .ok (.iload_n 2, 1) := by decide +kernel
theorem dX4_profile_5 : decode cX4_profile 5 = .ok (.aload_n 0, 1) := by decide +kernel
theorem dX4_profile_6 : decode cX4_profile 6 = .ok (.getfield 10, 3) := by decide +kernel
theorem dX4_profile_9 : decode cX4_profile 9 = .ok (.getfield 70, 3) := by decide +kernel
theorem dX4_profile_12 : decode cX4_profile 12 = .ok (.if_icmp .ge 20, 3) := by decide +kernel
theorem dX4_profile_15 : decode cX4_profile 15 = .ok (.iload_n 1, 1) := by decide +kernel
theorem dX4_profile_16 : decode cX4_profile 16 = .ok (.aload_n 0, 1) := by decide +kernel
theorem dX4_profile_17 : decode cX4_profile 17 = .ok (.getfield 10, 3) := by decide +kernel
theorem dX4_profile_20 : decode cX4_profile 20 = .ok (.iload_n 2, 1) := by decide +kernel
theorem dX4_profile_21 : decode cX4_profile 21 = .ok (.invokevirtual 118, 3) := by decide +kernel
theorem dX4_profile_24 : decode cX4_profile 24 = .ok (.iadd, 1) := by decide +kernel
theorem dX4_profile_25 : decode cX4_profile 25 = .ok (.istore_n 1, 1) := by decide +kernel
theorem dX4_profile_26 : decode cX4_profile 26 = .ok (.iinc 2 1, 3) := by decide +kernel
theorem dX4_profile_29 : decode cX4_profile 29 = .ok (.goto (-25), 3) := by decide +kernel
theorem dX4_profile_32 : decode cX4_profile 32 = .ok (.iload_n 1, 1) := by decide +kernel
theorem dX4_profile_33 : decode cX4_profile 33 = .ok (.ireturn, 1) := by decide +kernel
theorem dX4_isJoined_0 : decode cX4_isJoined 0 = .ok (.aload_n 0, 1) := by decide +kernel
theorem dX4_isJoined_1 : decode cX4_isJoined 1 = .ok (.iload_n 1, 1) := by decide +kernel
theorem dX4_isJoined_2 : decode cX4_isJoined 2 = .ok (.invokevirtual 73, 3) := by decide +kernel
theorem dX4_isJoined_5 : decode cX4_isJoined 5 = .ok (.aload_n 0, 1) := by decide +kernel
theorem dX4_isJoined_6 : decode cX4_isJoined 6 = .ok (.iload_n 2, 1) := by decide +kernel
theorem dX4_isJoined_7 : decode cX4_isJoined 7 = .ok (.invokevirtual 73, 3) := by decide +kernel
theorem dX4_isJoined_10 : decode cX4_isJoined 10 = .ok (.aload_n 0, 1) := by decide +kernel
theorem dX4_isJoined_11 : decode cX4_isJoined 11 = .ok (.getfield 23, 3) := by decide +kernel
theorem dX4_isJoined_14 : decode cX4_isJoined 14 = .ok (.aload_n 0, 1) := by decide +kernel
theorem dX4_isJoined_15 : decode cX4_isJoined 15 = .ok (.getfield 10, 3) := by decide +kernel
theorem dX4_isJoined_18 : decode cX4_isJoined 18 = .ok (.invokevirtual 127, 3) := by decide +kernel
theorem dX4_isJoined_21 : decode cX4_isJoined 21 = .ok (.aload_n 0, 1) := by decide +kernel
theorem dX4_isJoined_22 : decode cX4_isJoined 22 = .ok (.getfield 23, 3) := by decide +kernel
theorem dX4_isJoined_25 : decode cX4_isJoined 25 = .ok (.getfield 130, 3) := by decide +kernel
theorem dX4_isJoined_28 : decode cX4_isJoined 28 = .ok (.iload_n 1, 1) := by decide +kernel
theorem dX4_isJoined_29 : decode cX4_isJoined 29 = .ok (.iaload, 1) := by decide +kernel
theorem dX4_isJoined_30 : decode cX4_isJoined 30 = .ok (.iload_n 2, 1) := by decide +kernel
theorem dX4_isJoined_31 : decode cX4_isJoined 31 = .ok (.invokestatic 133, 3) := by decide +kernel
theorem dX4_isJoined_34 : decode cX4_isJoined 34 = .ok (.ifCond .ne 19, 3) := by decide +kernel
theorem dX4_isJoined_37 : decode cX4_isJoined 37 = .ok (.aload_n 0, 1) := by decide +kernel
theorem dX4_isJoined_38 : decode cX4_isJoined 38 = .ok (.getfield 23, 3) := by decide +kernel
theorem dX4_isJoined_41 : decode cX4_isJoined 41 = .ok (.getfield 130, 3) := by decide +kernel
theorem dX4_isJoined_44 : decode cX4_isJoined 44 = .ok (.iload_n 2, 1) := by decide +kernel
theorem dX4_isJoined_45 : decode cX4_isJoined 45 = .ok (.iaload, 1) := by decide +kernel
theorem dX4_isJoined_46 : decode cX4_isJoined 46 = .ok (.iload_n 1, 1) := by decide +kernel
theorem dX4_isJoined_47 : decode cX4_isJoined 47 = .ok (.invokestatic 133, 3) := by decide +kernel
theorem dX4_isJoined_50 : decode cX4_isJoined 50 = .ok (.ifCond .eq 7, 3) := by decide +kernel
theorem dX4_isJoined_53 : decode cX4_isJoined 53 = .ok (.iconst 1, 1) := by decide +kernel
theorem dX4_isJoined_54 : decode cX4_isJoined 54 = .ok (.goto 4, 3) := by decide +kernel
theorem dX4_isJoined_57 : decode cX4_isJoined 57 = .ok (.iconst 0, 1) := by decide +kernel
theorem dX4_isJoined_58 : decode cX4_isJoined 58 = .ok (.ireturn, 1) := by decide +kernel
theorem dX4_fillCount_0 : decode cX4_fillCount 0 = .ok (.aload_n 0, 1) := by decide +kernel
theorem dX4_fillCount_1 : decode cX4_fillCount 1 = .ok (.invokevirtual 106, 3) := by decide +kernel
theorem dX4_fillCount_4 : decode cX4_fillCount 4 = .ok (.ireturn, 1) := by decide +kernel
theorem dX4_width_0 : decode cX4_width 0 = .ok (.aload_n 0, 1) := by decide +kernel
theorem dX4_width_1 : decode cX4_width 1 = .ok (.iload_n 1, 1) := by decide +kernel
theorem dX4_width_2 : decode cX4_width 2 = .ok (.invokevirtual 73, 3) := by decide +kernel
theorem dX4_width_5 : decode cX4_width 5 = .ok (.aload_n 0, 1) := by decide +kernel
theorem dX4_width_6 : decode cX4_width 6 = .ok (.getfield 23, 3) := by decide +kernel
theorem dX4_width_9 : decode cX4_width 9 = .ok (.aload_n 0, 1) := by decide +kernel
theorem dX4_width_10 : decode cX4_width 10 = .ok (.getfield 10, 3) := by decide +kernel
theorem dX4_width_13 : decode cX4_width 13 = .ok (.invokevirtual 127, 3) := by decide +kernel
theorem dX4_width_16 : decode cX4_width 16 = .ok (.aload_n 0, 1) := by decide +kernel
theorem dX4_width_17 : decode cX4_width 17 = .ok (.getfield 23, 3) := by decide +kernel
theorem dX4_width_20 : decode cX4_width 20 = .ok (.getfield 130, 3) := by decide +kernel
theorem dX4_width_23 : decode cX4_width 23 = .ok (.iload_n 1, 1) := by decide +kernel
theorem dX4_width_24 : decode cX4_width 24 = .ok (.iaload, 1) := by decide +kernel
theorem dX4_width_25 : decode cX4_width 25 = .ok (.invokestatic 137, 3) := by decide +kernel
theorem dX4_width_28 : decode cX4_width 28 = .ok (.ireturn, 1) := by decide +kernel
theorem dX4_work_0 : decode cX4_work 0 = .ok (.aload_n 0, 1) := by decide +kernel
theorem dX4_work_1 : decode cX4_work 1 = .ok (.getfield 23, 3) := by decide +kernel
theorem dX4_work_4 : decode cX4_work 4 = .ok (.aload_n 0, 1) := by decide +kernel
theorem dX4_work_5 : decode cX4_work 5 = .ok (.getfield 10, 3) := by decide +kernel
theorem dX4_work_8 : decode cX4_work 8 = .ok (.invokevirtual 127, 3) := by decide +kernel
theorem dX4_work_11 : decode cX4_work 11 = .ok (.iconst 0, 1) := by decide +kernel
theorem dX4_work_12 : decode cX4_work 12 = .ok (.istore_n 1, 1) := by decide +kernel
theorem dX4_work_13 : decode cX4_work 13 = .ok (.iconst 0, 1) := by decide +kernel
theorem dX4_work_14 : decode cX4_work 14 = .ok (.istore_n 2, 1) := by decide +kernel
theorem dX4_work_15 : decode cX4_work 15 = .ok (.iload_n 2, 1) := by decide +kernel
theorem dX4_work_16 : decode cX4_work 16 = .ok (.aload_n 0, 1) := by decide +kernel
theorem dX4_work_17 : decode cX4_work 17 = .ok (.getfield 10, 3) := by decide +kernel
theorem dX4_work_20 : decode cX4_work 20 = .ok (.getfield 70, 3) := by decide +kernel
theorem dX4_work_23 : decode cX4_work 23 = .ok (.if_icmp .ge 28, 3) := by decide +kernel
theorem dX4_work_26 : decode cX4_work 26 = .ok (.aload_n 0, 1) := by decide +kernel
theorem dX4_work_27 : decode cX4_work 27 = .ok (.getfield 23, 3) := by decide +kernel
theorem dX4_work_30 : decode cX4_work 30 = .ok (.getfield 130, 3) := by decide +kernel
theorem dX4_work_33 : decode cX4_work 33 = .ok (.iload_n 2, 1) := by decide +kernel
theorem dX4_work_34 : decode cX4_work 34 = .ok (.iaload, 1) := by decide +kernel
theorem dX4_work_35 : decode cX4_work 35 = .ok (.invokestatic 137, 3) := by decide +kernel
theorem dX4_work_38 : decode cX4_work 38 = .ok (.istore_n 3, 1) := by decide +kernel
theorem dX4_work_39 : decode cX4_work 39 = .ok (.iload_n 1, 1) := by decide +kernel
theorem dX4_work_40 : decode cX4_work 40 = .ok (.iload_n 3, 1) := by decide +kernel
theorem dX4_work_41 : decode cX4_work 41 = .ok (.iload_n 3, 1) := by decide +kernel
theorem dX4_work_42 : decode cX4_work 42 = .ok (.imul, 1) := by decide +kernel
theorem dX4_work_43 : decode cX4_work 43 = .ok (.iadd, 1) := by decide +kernel
theorem dX4_work_44 : decode cX4_work 44 = .ok (.istore_n 1, 1) := by decide +kernel
theorem dX4_work_45 : decode cX4_work 45 = .ok (.iinc 2 1, 3) := by decide +kernel
theorem dX4_work_48 : decode cX4_work 48 = .ok (.goto (-33), 3) := by decide +kernel
theorem dX4_work_51 : decode cX4_work 51 = .ok (.iload_n 1, 1) := by decide +kernel
theorem dX4_work_52 : decode cX4_work 52 = .ok (.ireturn, 1) := by decide +kernel
theorem dX4_parent_0 : decode cX4_parent 0 = .ok (.aload_n 0, 1) := by decide +kernel
theorem dX4_parent_1 : decode cX4_parent 1 = .ok (.iload_n 1, 1) := by decide +kernel
theorem dX4_parent_2 : decode cX4_parent 2 = .ok (.invokevirtual 73, 3) := by decide +kernel
theorem dX4_parent_5 : decode cX4_parent 5 = .ok (.aload_n 0, 1) := by decide +kernel
theorem dX4_parent_6 : decode cX4_parent 6 = .ok (.getfield 23, 3) := by decide +kernel
theorem dX4_parent_9 : decode cX4_parent 9 = .ok (.aload_n 0, 1) := by decide +kernel
theorem dX4_parent_10 : decode cX4_parent 10 = .ok (.getfield 10, 3) := by decide +kernel
theorem dX4_parent_13 : decode cX4_parent 13 = .ok (.invokevirtual 127, 3) := by decide +kernel
theorem dX4_parent_16 : decode cX4_parent 16 = .ok (.aload_n 0, 1) := by decide +kernel
theorem dX4_parent_17 : decode cX4_parent 17 = .ok (.getfield 10, 3) := by decide +kernel
theorem dX4_parent_20 : decode cX4_parent 20 = .ok (.aload_n 0, 1) := by decide +kernel
theorem dX4_parent_21 : decode cX4_parent 21 = .ok (.getfield 23, 3) := by decide +kernel
theorem dX4_parent_24 : decode cX4_parent 24 = .ok (.getfield 130, 3) := by decide +kernel
theorem dX4_parent_27 : decode cX4_parent 27 = .ok (.iload_n 1, 1) := by decide +kernel
theorem dX4_parent_28 : decode cX4_parent 28 = .ok (.iaload, 1) := by decide +kernel
theorem dX4_parent_29 : decode cX4_parent 29 = .ok (.invokevirtual 142, 3) := by decide +kernel
theorem dX4_parent_32 : decode cX4_parent 32 = .ok (.ireturn, 1) := by decide +kernel
theorem dX4_depth_0 : decode cX4_depth 0 = .ok (.aload_n 0, 1) := by decide +kernel
theorem dX4_depth_1 : decode cX4_depth 1 = .ok (.iload_n 1, 1) := by decide +kernel
theorem dX4_depth_2 : decode cX4_depth 2 = .ok (.invokevirtual 73, 3) := by decide +kernel
theorem dX4_depth_5 : decode cX4_depth 5 = .ok (.aload_n 0, 1) := by decide +kernel
theorem dX4_depth_6 : decode cX4_depth 6 = .ok (.getfield 23, 3) := by decide +kernel
theorem dX4_depth_9 : decode cX4_depth 9 = .ok (.aload_n 0, 1) := by decide +kernel
theorem dX4_depth_10 : decode cX4_depth 10 = .ok (.getfield 10, 3) := by decide +kernel
theorem dX4_depth_13 : decode cX4_depth 13 = .ok (.invokevirtual 127, 3) := by decide +kernel
theorem dX4_depth_16 : decode cX4_depth 16 = .ok (.aload_n 0, 1) := by decide +kernel
theorem dX4_depth_17 : decode cX4_depth 17 = .ok (.getfield 23, 3) := by decide +kernel
theorem dX4_depth_20 : decode cX4_depth 20 = .ok (.getfield 145, 3) := by decide +kernel
theorem dX4_depth_23 : decode cX4_depth 23 = .ok (.iload_n 1, 1) := by decide +kernel
theorem dX4_depth_24 : decode cX4_depth 24 = .ok (.iaload, 1) := by decide +kernel
theorem dX4_depth_25 : decode cX4_depth 25 = .ok (.invokestatic 137, 3) := by decide +kernel
theorem dX4_depth_28 : decode cX4_depth 28 = .ok (.iconst 1, 1) := by decide +kernel
theorem dX4_depth_29 : decode cX4_depth 29 = .ok (.isub, 1) := by decide +kernel
theorem dX4_depth_30 : decode cX4_depth 30 = .ok (.ireturn, 1) := by decide +kernel
theorem dX4_subtree_0 : decode cX4_subtree 0 = .ok (.aload_n 0, 1) := by decide +kernel
theorem dX4_subtree_1 : decode cX4_subtree 1 = .ok (.iload_n 1, 1) := by decide +kernel
theorem dX4_subtree_2 : decode cX4_subtree 2 = .ok (.invokevirtual 73, 3) := by decide +kernel
theorem dX4_subtree_5 : decode cX4_subtree 5 = .ok (.aload_n 0, 1) := by decide +kernel
theorem dX4_subtree_6 : decode cX4_subtree 6 = .ok (.getfield 23, 3) := by decide +kernel
theorem dX4_subtree_9 : decode cX4_subtree 9 = .ok (.aload_n 0, 1) := by decide +kernel
theorem dX4_subtree_10 : decode cX4_subtree 10 = .ok (.getfield 10, 3) := by decide +kernel
theorem dX4_subtree_13 : decode cX4_subtree 13 = .ok (.invokevirtual 127, 3) := by decide +kernel
theorem dX4_subtree_16 : decode cX4_subtree 16 = .ok (.iconst 0, 1) := by decide +kernel
theorem dX4_subtree_17 : decode cX4_subtree 17 = .ok (.istore_n 2, 1) := by decide +kernel
theorem dX4_subtree_18 : decode cX4_subtree 18 = .ok (.iconst 0, 1) := by decide +kernel
theorem dX4_subtree_19 : decode cX4_subtree 19 = .ok (.istore_n 3, 1) := by decide +kernel
theorem dX4_subtree_20 : decode cX4_subtree 20 = .ok (.iload_n 3, 1) := by decide +kernel
theorem dX4_subtree_21 : decode cX4_subtree 21 = .ok (.aload_n 0, 1) := by decide +kernel
theorem dX4_subtree_22 : decode cX4_subtree 22 = .ok (.getfield 10, 3) := by decide +kernel
theorem dX4_subtree_25 : decode cX4_subtree 25 = .ok (.getfield 70, 3) := by decide +kernel
theorem dX4_subtree_28 : decode cX4_subtree 28 = .ok (.if_icmp .ge 28, 3) := by decide +kernel
theorem dX4_subtree_31 : decode cX4_subtree 31 = .ok (.aload_n 0, 1) := by decide +kernel
theorem dX4_subtree_32 : decode cX4_subtree 32 = .ok (.getfield 23, 3) := by decide +kernel
theorem dX4_subtree_35 : decode cX4_subtree 35 = .ok (.getfield 145, 3) := by decide +kernel
theorem dX4_subtree_38 : decode cX4_subtree 38 = .ok (.iload_n 3, 1) := by decide +kernel
theorem dX4_subtree_39 : decode cX4_subtree 39 = .ok (.iaload, 1) := by decide +kernel
theorem dX4_subtree_40 : decode cX4_subtree 40 = .ok (.iload_n 1, 1) := by decide +kernel
theorem dX4_subtree_41 : decode cX4_subtree 41 = .ok (.invokestatic 133, 3) := by decide +kernel
theorem dX4_subtree_44 : decode cX4_subtree 44 = .ok (.ifCond .eq 6, 3) := by decide +kernel
theorem dX4_subtree_47 : decode cX4_subtree 47 = .ok (.iinc 2 1, 3) := by decide +kernel
theorem dX4_subtree_50 : decode cX4_subtree 50 = .ok (.iinc 3 1, 3) := by decide +kernel
theorem dX4_subtree_53 : decode cX4_subtree 53 = .ok (.goto (-33), 3) := by decide +kernel
theorem dX4_subtree_56 : decode cX4_subtree 56 = .ok (.iload_n 2, 1) := by decide +kernel
theorem dX4_subtree_57 : decode cX4_subtree 57 = .ok (.ireturn, 1) := by decide +kernel
theorem dX4_height_0 : decode cX4_height 0 = .ok (.aload_n 0, 1) := by decide +kernel
theorem dX4_height_1 : decode cX4_height 1 = .ok (.getfield 23, 3) := by decide +kernel
theorem dX4_height_4 : decode cX4_height 4 = .ok (.aload_n 0, 1) := by decide +kernel
theorem dX4_height_5 : decode cX4_height 5 = .ok (.getfield 10, 3) := by decide +kernel
theorem dX4_height_8 : decode cX4_height 8 = .ok (.invokevirtual 127, 3) := by decide +kernel
theorem dX4_height_11 : decode cX4_height 11 = .ok (.iconst 0, 1) := by decide +kernel
theorem dX4_height_12 : decode cX4_height 12 = .ok (.istore_n 1, 1) := by decide +kernel
theorem dX4_height_13 : decode cX4_height 13 = .ok (.iconst 0, 1) := by decide +kernel
theorem dX4_height_14 : decode cX4_height 14 = .ok (.istore_n 2, 1) := by decide +kernel
theorem dX4_height_15 : decode cX4_height 15 = .ok (.iload_n 2, 1) := by decide +kernel
theorem dX4_height_16 : decode cX4_height 16 = .ok (.aload_n 0, 1) := by decide +kernel
theorem dX4_height_17 : decode cX4_height 17 = .ok (.getfield 10, 3) := by decide +kernel
theorem dX4_height_20 : decode cX4_height 20 = .ok (.getfield 70, 3) := by decide +kernel
theorem dX4_height_23 : decode cX4_height 23 = .ok (.if_icmp .ge 26, 3) := by decide +kernel
theorem dX4_height_26 : decode cX4_height 26 = .ok (.iload_n 1, 1) := by decide +kernel
theorem dX4_height_27 : decode cX4_height 27 = .ok (.aload_n 0, 1) := by decide +kernel
theorem dX4_height_28 : decode cX4_height 28 = .ok (.getfield 23, 3) := by decide +kernel
theorem dX4_height_31 : decode cX4_height 31 = .ok (.getfield 145, 3) := by decide +kernel
theorem dX4_height_34 : decode cX4_height 34 = .ok (.iload_n 2, 1) := by decide +kernel
theorem dX4_height_35 : decode cX4_height 35 = .ok (.iaload, 1) := by decide +kernel
theorem dX4_height_36 : decode cX4_height 36 = .ok (.invokestatic 137, 3) := by decide +kernel
theorem dX4_height_39 : decode cX4_height 39 = .ok (.invokestatic 122, 3) := by decide +kernel
theorem dX4_height_42 : decode cX4_height 42 = .ok (.istore_n 1, 1) := by decide +kernel
theorem dX4_height_43 : decode cX4_height 43 = .ok (.iinc 2 1, 3) := by decide +kernel
theorem dX4_height_46 : decode cX4_height 46 = .ok (.goto (-31), 3) := by decide +kernel
theorem dX4_height_49 : decode cX4_height 49 = .ok (.iload_n 1, 1) := by decide +kernel
theorem dX4_height_50 : decode cX4_height 50 = .ok (.ireturn, 1) := by decide +kernel
theorem dX4_meeting_0 : decode cX4_meeting 0 = .ok (.aload_n 0, 1) := by decide +kernel
theorem dX4_meeting_1 : decode cX4_meeting 1 = .ok (.iload_n 1, 1) := by decide +kernel
theorem dX4_meeting_2 : decode cX4_meeting 2 = .ok (.invokevirtual 73, 3) := by decide +kernel
theorem dX4_meeting_5 : decode cX4_meeting 5 = .ok (.aload_n 0, 1) := by decide +kernel
theorem dX4_meeting_6 : decode cX4_meeting 6 = .ok (.iload_n 2, 1) := by decide +kernel
theorem dX4_meeting_7 : decode cX4_meeting 7 = .ok (.invokevirtual 73, 3) := by decide +kernel
theorem dX4_meeting_10 : decode cX4_meeting 10 = .ok (.aload_n 0, 1) := by decide +kernel
theorem dX4_meeting_11 : decode cX4_meeting 11 = .ok (.getfield 23, 3) := by decide +kernel
theorem dX4_meeting_14 : decode cX4_meeting 14 = .ok (.aload_n 0, 1) := by decide +kernel
theorem dX4_meeting_15 : decode cX4_meeting 15 = .ok (.getfield 10, 3) := by decide +kernel
theorem dX4_meeting_18 : decode cX4_meeting 18 = .ok (.invokevirtual 127, 3) := by decide +kernel
theorem dX4_meeting_21 : decode cX4_meeting 21 = .ok (.aload_n 0, 1) := by decide +kernel
theorem dX4_meeting_22 : decode cX4_meeting 22 = .ok (.getfield 10, 3) := by decide +kernel
theorem dX4_meeting_25 : decode cX4_meeting 25 = .ok (.aload_n 0, 1) := by decide +kernel
theorem dX4_meeting_26 : decode cX4_meeting 26 = .ok (.getfield 23, 3) := by decide +kernel
theorem dX4_meeting_29 : decode cX4_meeting 29 = .ok (.getfield 145, 3) := by decide +kernel
theorem dX4_meeting_32 : decode cX4_meeting 32 = .ok (.iload_n 1, 1) := by decide +kernel
theorem dX4_meeting_33 : decode cX4_meeting 33 = .ok (.iaload, 1) := by decide +kernel
theorem dX4_meeting_34 : decode cX4_meeting 34 = .ok (.aload_n 0, 1) := by decide +kernel
theorem dX4_meeting_35 : decode cX4_meeting 35 = .ok (.getfield 23, 3) := by decide +kernel
theorem dX4_meeting_38 : decode cX4_meeting 38 = .ok (.getfield 145, 3) := by decide +kernel
theorem dX4_meeting_41 : decode cX4_meeting 41 = .ok (.iload_n 2, 1) := by decide +kernel
theorem dX4_meeting_42 : decode cX4_meeting 42 = .ok (.iaload, 1) := by decide +kernel
theorem dX4_meeting_43 : decode cX4_meeting 43 = .ok (.iand, 1) := by decide +kernel
theorem dX4_meeting_44 : decode cX4_meeting 44 = .ok (.invokevirtual 142, 3) := by decide +kernel
theorem dX4_meeting_47 : decode cX4_meeting 47 = .ok (.ireturn, 1) := by decide +kernel
theorem dX4_reached_0 : decode cX4_reached 0 = .ok (.iload_n 1, 1) := by decide +kernel
theorem dX4_reached_1 : decode cX4_reached 1 = .ok (.ifCond .lt 14, 3) := by decide +kernel
theorem dX4_reached_4 : decode cX4_reached 4 = .ok (.iload_n 1, 1) := by decide +kernel
theorem dX4_reached_5 : decode cX4_reached 5 = .ok (.aload_n 0, 1) := by decide +kernel
theorem dX4_reached_6 : decode cX4_reached 6 = .ok (.getfield 10, 3) := by decide +kernel
theorem dX4_reached_9 : decode cX4_reached 9 = .ok (.invokevirtual 148, 3) := by decide +kernel
theorem dX4_reached_12 : decode cX4_reached 12 = .ok (.if_icmp .le 13, 3) := by decide +kernel
theorem dX4_reached_15 : decode cX4_reached 15 = .ok (.new 56, 3) := by decide +kernel
theorem dX4_reached_18 : decode cX4_reached 18 = .ok (.dup, 1) := by decide +kernel
theorem dX4_reached_19 : decode cX4_reached 19 = .ok (.ldc 151, 2) := by decide +kernel
theorem dX4_reached_21 : decode cX4_reached 21 = .ok (.invokespecial 60, 3) := by decide +kernel
theorem dX4_reached_24 : decode cX4_reached 24 = .ok (.athrow, 1) := by decide +kernel
theorem dX4_reached_25 : decode cX4_reached 25 = .ok (.aload_n 0, 1) := by decide +kernel
theorem dX4_reached_26 : decode cX4_reached 26 = .ok (.getfield 23, 3) := by decide +kernel
