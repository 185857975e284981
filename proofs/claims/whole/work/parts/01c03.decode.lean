theorem dX5_clear_27 : decode cX5_clear 27 = .ok (.iconst 0, 1) := by decide +kernel
theorem dX5_clear_28 : decode cX5_clear 28 = .ok (.iastore, 1) := by decide +kernel
theorem dX5_clear_29 : decode cX5_clear 29 = .ok (.aload_n 0, 1) := by decide +kernel
theorem dX5_clear_30 : decode cX5_clear 30 = .ok (.getfield 26, 3) := by decide +kernel
theorem dX5_clear_33 : decode cX5_clear 33 = .ok (.iload_n 1, 1) := by decide +kernel
theorem dX5_clear_34 : decode cX5_clear 34 = .ok (.iconst 0, 1) := by decide +kernel
theorem dX5_clear_35 : decode cX5_clear 35 = .ok (.iastore, 1) := by decide +kernel
theorem dX5_clear_36 : decode cX5_clear 36 = .ok (.iconst 0, 1) := by decide +kernel
theorem dX5_clear_37 : decode cX5_clear 37 = .ok (.istore_n 2, 1) := by decide +kernel
theorem dX5_clear_38 : decode cX5_clear 38 = .ok (.iload_n 2, 1) := by decide +kernel
theorem dX5_clear_39 : decode cX5_clear 39 = .ok (.bipush 16, 2) := by decide +kernel
theorem dX5_clear_41 : decode cX5_clear 41 = .ok (.if_icmp .ge 20, 3) := by decide +kernel
theorem dX5_clear_44 : decode cX5_clear 44 = .ok (.aload_n 0, 1) := by decide +kernel
theorem dX5_clear_45 : decode cX5_clear 45 = .ok (.getfield 13, 3) := by decide +kernel
theorem dX5_clear_48 : decode cX5_clear 48 = .ok (.iload_n 1, 1) := by decide +kernel
theorem dX5_clear_49 : decode cX5_clear 49 = .ok (.iload_n 2, 1) := by decide +kernel
theorem dX5_clear_50 : decode cX5_clear 50 = .ok (.invokestatic 62, 3) := by decide +kernel
theorem dX5_clear_53 : decode cX5_clear 53 = .ok (.iconst 0, 1) := by decide +kernel
theorem dX5_clear_54 : decode cX5_clear 54 = .ok (.iastore, 1) := by decide +kernel
theorem dX5_clear_55 : decode cX5_clear 55 = .ok (.iinc 2 1, 3) := by decide +kernel
theorem dX5_clear_58 : decode cX5_clear 58 = .ok (.goto (-20), 3) := by decide +kernel
theorem dX5_clear_61 : decode cX5_clear 61 = .ok (.iinc 1 1, 3) := by decide +kernel
theorem dX5_clear_64 : decode cX5_clear 64 = .ok (.goto (-62), 3) := by decide +kernel
theorem dX5_clear_67 : decode cX5_clear 67 = .ok (.aload_n 0, 1) := by decide +kernel
theorem dX5_clear_68 : decode cX5_clear 68 = .ok (.iconst 0, 1) := by decide +kernel
theorem dX5_clear_69 : decode cX5_clear 69 = .ok (.putfield 65, 3) := by decide +kernel
theorem dX5_clear_72 : decode cX5_clear 72 = .ok (.aload_n 0, 1) := by decide +kernel
theorem dX5_clear_73 : decode cX5_clear 73 = .ok (.iconst 0, 1) := by decide +kernel
theorem dX5_clear_74 : decode cX5_clear 74 = .ok (.putfield 69, 3) := by decide +kernel
theorem dX5_clear_77 : decode cX5_clear 77 = .ok (.return_, 1) := by decide +kernel
theorem dX5_setSize_0 : decode cX5_setSize 0 = .ok (.aload_n 0, 1) := by decide +kernel
theorem dX5_setSize_1 : decode cX5_setSize 1 = .ok (.iconst 0, 1) := by decide +kernel
theorem dX5_setSize_2 : decode cX5_setSize 2 = .ok (.putfield 51, 3) := by decide +kernel
theorem dX5_setSize_5 : decode cX5_setSize 5 = .ok (.iload_n 1, 1) := by decide +kernel
theorem dX5_setSize_6 : decode cX5_setSize 6 = .ok (.iconst 1, 1) := by decide +kernel
theorem dX5_setSize_7 : decode cX5_setSize 7 = .ok (.if_icmp .lt 9, 3) := by decide +kernel
theorem dX5_setSize_10 : decode cX5_setSize 10 = .ok (.iload_n 1, 1) := by decide +kernel
theorem dX5_setSize_11 : decode cX5_setSize 11 = .ok (.bipush 16, 2) := by decide +kernel
theorem dX5_setSize_13 : decode cX5_setSize 13 = .ok (.if_icmp .le 9, 3) := by decide +kernel
theorem dX5_setSize_16 : decode cX5_setSize 16 = .ok (.aload_n 0, 1) := by decide +kernel
theorem dX5_setSize_17 : decode cX5_setSize 17 = .ok (.iconst 1, 1) := by decide +kernel
theorem dX5_setSize_18 : decode cX5_setSize 18 = .ok (.invokevirtual 72, 3) := by decide +kernel
theorem dX5_setSize_21 : decode cX5_setSize 21 = .ok (.ireturn, 1) := by decide +kernel
theorem dX5_setSize_22 : decode cX5_setSize 22 = .ok (.aload_n 0, 1) := by decide +kernel
theorem dX5_setSize_23 : decode cX5_setSize 23 = .ok (.iload_n 1, 1) := by decide +kernel
theorem dX5_setSize_24 : decode cX5_setSize 24 = .ok (.putfield 9, 3) := by decide +kernel
theorem dX5_setSize_27 : decode cX5_setSize 27 = .ok (.aload_n 0, 1) := by decide +kernel
theorem dX5_setSize_28 : decode cX5_setSize 28 = .ok (.invokevirtual 48, 3) := by decide +kernel
theorem dX5_setSize_31 : decode cX5_setSize 31 = .ok (.aload_n 0, 1) := by decide +kernel
theorem dX5_setSize_32 : decode cX5_setSize 32 = .ok (.getfield 9, 3) := by decide +kernel
theorem dX5_setSize_35 : decode cX5_setSize 35 = .ok (.ireturn, 1) := by decide +kernel
theorem dX5_size_0 : decode cX5_size 0 = .ok (.aload_n 0, 1) := by decide +kernel
theorem dX5_size_1 : decode cX5_size 1 = .ok (.iconst 0, 1) := by decide +kernel
theorem dX5_size_2 : decode cX5_size 2 = .ok (.putfield 51, 3) := by decide +kernel
theorem dX5_size_5 : decode cX5_size 5 = .ok (.aload_n 0, 1) := by decide +kernel
theorem dX5_size_6 : decode cX5_size 6 = .ok (.getfield 9, 3) := by decide +kernel
theorem dX5_size_9 : decode cX5_size 9 = .ok (.ireturn, 1) := by decide +kernel
theorem dX5_setEntry_0 : decode cX5_setEntry 0 = .ok (.aload_n 0, 1) := by decide +kernel
theorem dX5_setEntry_1 : decode cX5_setEntry 1 = .ok (.iconst 0, 1) := by decide +kernel
theorem dX5_setEntry_2 : decode cX5_setEntry 2 = .ok (.putfield 51, 3) := by decide +kernel
theorem dX5_setEntry_5 : decode cX5_setEntry 5 = .ok (.aload_n 0, 1) := by decide +kernel
theorem dX5_setEntry_6 : decode cX5_setEntry 6 = .ok (.iload_n 1, 1) := by decide +kernel
theorem dX5_setEntry_7 : decode cX5_setEntry 7 = .ok (.invokevirtual 76, 3) := by decide +kernel
theorem dX5_setEntry_10 : decode cX5_setEntry 10 = .ok (.ifCond .eq 11, 3) := by decide +kernel
theorem dX5_setEntry_13 : decode cX5_setEntry 13 = .ok (.aload_n 0, 1) := by decide +kernel
theorem dX5_setEntry_14 : decode cX5_setEntry 14 = .ok (.iload_n 2, 1) := by decide +kernel
theorem dX5_setEntry_15 : decode cX5_setEntry 15 = .ok (.invokevirtual 76, 3) := by decide +kernel
theorem dX5_setEntry_18 : decode cX5_setEntry 18 = .ok (.ifCond .ne 9, 3) := by decide +kernel
theorem dX5_setEntry_21 : decode cX5_setEntry 21 = .ok (.aload_n 0, 1) := by decide +kernel
theorem dX5_setEntry_22 : decode cX5_setEntry 22 = .ok (.iconst 1, 1) := by decide +kernel
theorem dX5_setEntry_23 : decode cX5_setEntry 23 = .ok (.invokevirtual 72, 3) := by decide +kernel
theorem dX5_setEntry_26 : decode cX5_setEntry 26 = .ok (.ireturn, 1) := by decide +kernel
theorem dX5_setEntry_27 : decode cX5_setEntry 27 = .ok (.iload_n 3, 1) := by decide +kernel
theorem dX5_setEntry_28 : decode cX5_setEntry 28 = .ok (.invokestatic 80, 3) := by decide +kernel
theorem dX5_setEntry_31 : decode cX5_setEntry 31 = .ok (.ifCond .ne 9, 3) := by decide +kernel
theorem dX5_setEntry_34 : decode cX5_setEntry 34 = .ok (.aload_n 0, 1) := by decide +kernel
theorem dX5_setEntry_35 : decode cX5_setEntry 35 = .ok (.iconst 2, 1) := by decide +kernel
theorem dX5_setEntry_36 : decode cX5_setEntry 36 = .ok (.invokevirtual 72, 3) := by decide +kernel
theorem dX5_setEntry_39 : decode cX5_setEntry 39 = .ok (.ireturn, 1) := by decide +kernel
theorem dX5_setEntry_40 : decode cX5_setEntry 40 = .ok (.aload_n 0, 1) := by decide +kernel
theorem dX5_setEntry_41 : decode cX5_setEntry 41 = .ok (.getfield 13, 3) := by decide +kernel
theorem dX5_setEntry_44 : decode cX5_setEntry 44 = .ok (.iload_n 1, 1) := by decide +kernel
theorem dX5_setEntry_45 : decode cX5_setEntry 45 = .ok (.iload_n 2, 1) := by decide +kernel
theorem dX5_setEntry_46 : decode cX5_setEntry 46 = .ok (.invokestatic 62, 3) := by decide +kernel
theorem dX5_setEntry_49 : decode cX5_setEntry 49 = .ok (.iaload, 1) := by decide +kernel
theorem dX5_setEntry_50 : decode cX5_setEntry 50 = .ok (.istore 4, 2) := by decide +kernel
theorem dX5_setEntry_52 : decode cX5_setEntry 52 = .ok (.aload_n 0, 1) := by decide +kernel
theorem dX5_setEntry_53 : decode cX5_setEntry 53 = .ok (.getfield 13, 3) := by decide +kernel
theorem dX5_setEntry_56 : decode cX5_setEntry 56 = .ok (.iload_n 1, 1) := by decide +kernel
theorem dX5_setEntry_57 : decode cX5_setEntry 57 = .ok (.iload_n 2, 1) := by decide +kernel
theorem dX5_setEntry_58 : decode cX5_setEntry 58 = .ok (.invokestatic 62, 3) := by decide +kernel
theorem dX5_setEntry_61 : decode cX5_setEntry 61 = .ok (.iload_n 3, 1) := by decide +kernel
theorem dX5_setEntry_62 : decode cX5_setEntry 62 = .ok (.iastore, 1) := by decide +kernel
theorem dX5_setEntry_63 : decode cX5_setEntry 63 = .ok (.aload_n 0, 1) := by decide +kernel
theorem dX5_setEntry_64 : decode cX5_setEntry 64 = .ok (.getfield 13, 3) := by decide +kernel
theorem dX5_setEntry_67 : decode cX5_setEntry 67 = .ok (.iload_n 2, 1) := by decide +kernel
theorem dX5_setEntry_68 : decode cX5_setEntry 68 = .ok (.iload_n 1, 1) := by decide +kernel
theorem dX5_setEntry_69 : decode cX5_setEntry 69 = .ok (.invokestatic 62, 3) := by decide +kernel
theorem dX5_setEntry_72 : decode cX5_setEntry 72 = .ok (.iload_n 3, 1) := by decide +kernel
theorem dX5_setEntry_73 : decode cX5_setEntry 73 = .ok (.iastore, 1) := by decide +kernel
theorem dX5_setEntry_74 : decode cX5_setEntry 74 = .ok (.aload_n 0, 1) := by decide +kernel
theorem dX5_setEntry_75 : decode cX5_setEntry 75 = .ok (.iconst 0, 1) := by decide +kernel
theorem dX5_setEntry_76 : decode cX5_setEntry 76 = .ok (.putfield 65, 3) := by decide +kernel
theorem dX5_setEntry_79 : decode cX5_setEntry 79 = .ok (.iload 4, 2) := by decide +kernel
theorem dX5_setEntry_81 : decode cX5_setEntry 81 = .ok (.ireturn, 1) := by decide +kernel
theorem dX5_entry_0 : decode cX5_entry 0 = .ok (.aload_n 0, 1) := by decide +kernel
theorem dX5_entry_1 : decode cX5_entry 1 = .ok (.iconst 0, 1) := by decide +kernel
theorem dX5_entry_2 : decode cX5_entry 2 = .ok (.putfield 51, 3) := by decide +kernel
theorem dX5_entry_5 : decode cX5_entry 5 = .ok (.aload_n 0, 1) := by decide +kernel
theorem dX5_entry_6 : decode cX5_entry 6 = .ok (.iload_n 1, 1) := by decide +kernel
theorem dX5_entry_7 : decode cX5_entry 7 = .ok (.invokevirtual 76, 3) := by decide +kernel
theorem dX5_entry_10 : decode cX5_entry 10 = .ok (.ifCond .eq 24, 3) := by decide +kernel
theorem dX5_entry_13 : decode cX5_entry 13 = .ok (.aload_n 0, 1) := by decide +kernel
theorem dX5_entry_14 : decode cX5_entry 14 = .ok (.iload_n 2, 1) := by decide +kernel
theorem dX5_entry_15 : decode cX5_entry 15 = .ok (.invokevirtual 76, 3) := by decide +kernel
theorem dX5_entry_18 : decode cX5_entry 18 = .ok (.ifCond .eq 16, 3) := by decide +kernel
theorem dX5_entry_21 : decode cX5_entry 21 = .ok (.aload_n 0, 1) := by decide +kernel
theorem dX5_entry_22 : decode cX5_entry 22 = .ok (.getfield 13, 3) := by decide +kernel
theorem dX5_entry_25 : decode cX5_entry 25 = .ok (.iload_n 1, 1) := by decide +kernel
theorem dX5_entry_26 : decode cX5_entry 26 = .ok (.iload_n 2, 1) := by decide +kernel
theorem dX5_entry_27 : decode cX5_entry 27 = .ok (.invokestatic 62, 3) := by decide +kernel
theorem dX5_entry_30 : decode cX5_entry 30 = .ok (.iaload, 1) := by decide +kernel
theorem dX5_entry_31 : decode cX5_entry 31 = .ok (.goto 8, 3) := by decide +kernel
theorem dX5_entry_34 : decode cX5_entry 34 = .ok (.aload_n 0, 1) := by decide +kernel
theorem dX5_entry_35 : decode cX5_entry 35 = .ok (.iconst 1, 1) := by decide +kernel
theorem dX5_entry_36 : decode cX5_entry 36 = .ok (.invokevirtual 72, 3) := by decide +kernel
theorem dX5_entry_39 : decode cX5_entry 39 = .ok (.ireturn, 1) := by decide +kernel
theorem dX5_isLinked_0 : decode cX5_isLinked 0 = .ok (.iload_n 1, 1) := by decide +kernel
theorem dX5_isLinked_1 : decode cX5_isLinked 1 = .ok (.iload_n 2, 1) := by decide +kernel
theorem dX5_isLinked_2 : decode cX5_isLinked 2 = .ok (.if_icmp .eq 20, 3) := by decide +kernel
theorem dX5_isLinked_5 : decode cX5_isLinked 5 = .ok (.aload_n 0, 1) := by decide +kernel
theorem dX5_isLinked_6 : decode cX5_isLinked 6 = .ok (.getfield 13, 3) := by decide +kernel
theorem dX5_isLinked_9 : decode cX5_isLinked 9 = .ok (.iload_n 1, 1) := by decide +kernel
theorem dX5_isLinked_10 : decode cX5_isLinked 10 = .ok (.iload_n 2, 1) := by decide +kernel
theorem dX5_isLinked_11 : decode cX5_isLinked 11 = .ok (.invokestatic 62, 3) := by decide +kernel
theorem dX5_isLinked_14 : decode cX5_isLinked 14 = .ok (.iaload, 1) := by decide +kernel
theorem dX5_isLinked_15 : decode cX5_isLinked 15 = .ok (.ifCond .eq 7, 3) := by decide +kernel
theorem dX5_isLinked_18 : decode cX5_isLinked 18 = .ok (.iconst 1, 1) := by decide +kernel
theorem dX5_isLinked_19 : decode cX5_isLinked 19 = .ok (.goto 4, 3) := by decide +kernel
theorem dX5_isLinked_22 : decode cX5_isLinked 22 = .ok (.iconst 0, 1) := by decide +kernel
theorem dX5_isLinked_23 : decode cX5_isLinked 23 = .ok (.ireturn, 1) := by decide +kernel
theorem dX5_links_0 : decode cX5_links 0 = .ok (.iconst 0, 1) := by decide +kernel
theorem dX5_links_1 : decode cX5_links 1 = .ok (.istore_n 1, 1) := by decide +kernel
theorem dX5_links_2 : decode cX5_links 2 = .ok (.iconst 0, 1) := by decide +kernel
theorem dX5_links_3 : decode cX5_links 3 = .ok (.istore_n 2, 1) := by decide +kernel
theorem dX5_links_4 : decode cX5_links 4 = .ok (.iload_n 2, 1) := by decide +kernel
theorem dX5_links_5 : decode cX5_links 5 = .ok (.aload_n 0, 1) := by decide +kernel
theorem dX5_links_6 : decode cX5_links 6 = .ok (.getfield 9, 3) := by decide +kernel
theorem dX5_links_9 : decode cX5_links 9 = .ok (.if_icmp .ge 39, 3) := by decide +kernel
theorem dX5_links_12 : decode cX5_links 12 = .ok (.iconst 0, 1) := by decide +kernel
theorem dX5_links_13 : decode cX5_links 13 = .ok (.istore_n 3, 1) := by decide +kernel
theorem dX5_links_14 : decode cX5_links 14 = .ok (.iload_n 3, 1) := by decide +kernel
theorem dX5_links_15 : decode cX5_links 15 = .ok (.iload_n 2, 1) := by decide +kernel
theorem dX5_links_16 : decode cX5_links 16 = .ok (.if_icmp .ge 26, 3) := by decide +kernel
theorem dX5_links_19 : decode cX5_links 19 = .ok (.iload_n 1, 1) := by decide +kernel
theorem dX5_links_20 : decode cX5_links 20 = .ok (.aload_n 0, 1) := by decide +kernel
theorem dX5_links_21 : decode cX5_links 21 = .ok (.iload_n 2, 1) := by decide +kernel
theorem dX5_links_22 : decode cX5_links 22 = .ok (.iload_n 3, 1) := by decide +kernel
theorem dX5_links_23 : decode cX5_links 23 = .ok (.invokevirtual 83, 3) := by decide +kernel
theorem dX5_links_26 : decode cX5_links 26 = .ok (.ifCond .eq 7, 3) := by decide +kernel
theorem dX5_links_29 : decode cX5_links 29 = .ok (.iconst 1, 1) := by decide +kernel
theorem dX5_links_30 : decode cX5_links 30 = .ok (.goto 4, 3) := by decide +kernel
theorem dX5_links_33 : decode cX5_links 33 = .ok (.iconst 0, 1) := by decide +kernel
theorem dX5_links_34 : decode cX5_links 34 = .ok (.iadd, 1) := by decide +kernel
theorem dX5_links_35 : decode cX5_links 35 = .ok (.istore_n 1, 1) := by decide +kernel
theorem dX5_links_36 : decode cX5_links 36 = .ok (.iinc 3 1, 3) := by decide +kernel
theorem dX5_links_39 : decode cX5_links 39 = .ok (.goto (-25), 3) := by decide +kernel
theorem dX5_links_42 : decode cX5_links 42 = .ok (.iinc 2 1, 3) := by decide +kernel
theorem dX5_links_45 : decode cX5_links 45 = .ok (.goto (-41), 3) := by decide +kernel
theorem dX5_links_48 : decode cX5_links 48 = .ok (.iload_n 1, 1) := by decide +kernel
theorem dX5_links_49 : decode cX5_links 49 = .ok (.ireturn, 1) := by decide +kernel
theorem dX5_linkCount_0 : decode cX5_linkCount 0 = .ok (.aload_n 0, 1) := by decide +kernel
theorem dX5_linkCount_1 : decode cX5_linkCount 1 = .ok (.iconst 0, 1) := by decide +kernel
theorem dX5_linkCount_2 : decode cX5_linkCount 2 = .ok (.putfield 51, 3) := by decide +kernel
theorem dX5_linkCount_5 : decode cX5_linkCount 5 = .ok (.aload_n 0, 1) := by decide +kernel
theorem dX5_linkCount_6 : decode cX5_linkCount 6 = .ok (.invokevirtual 87, 3) := by decide +kernel
theorem dX5_linkCount_9 : decode cX5_linkCount 9 = .ok (.ireturn, 1) := by decide +kernel
theorem dX5_cell_0 : decode cX5_cell 0 = .ok (.bipush 17, 2) := by decide +kernel
theorem dX5_cell_2 : decode cX5_cell 2 = .ok (.iload_n 0, 1) := by decide +kernel
theorem dX5_cell_3 : decode cX5_cell 3 = .ok (.imul, 1) := by decide +kernel
theorem dX5_cell_4 : decode cX5_cell 4 = .ok (.iload_n 1, 1) := by decide +kernel
theorem dX5_cell_5 : decode cX5_cell 5 = .ok (.iadd, 1) := by decide +kernel
theorem dX5_cell_6 : decode cX5_cell 6 = .ok (.ireturn, 1) := by decide +kernel
theorem dX5_copy_0 : decode cX5_copy 0 = .ok (.iconst 0, 1) := by decide +kernel
theorem dX5_copy_1 : decode cX5_copy 1 = .ok (.istore_n 1, 1) := by decide +kernel
theorem dX5_copy_2 : decode cX5_copy 2 = .ok (.iload_n 1, 1) := by decide +kernel
theorem dX5_copy_3 : decode cX5_copy 3 = .ok (.aload_n 0, 1) := by decide +kernel
theorem dX5_copy_4 : decode cX5_copy 4 = .ok (.getfield 9, 3) := by decide +kernel
theorem dX5_copy_7 : decode cX5_copy 7 = .ok (.if_icmp .ge 45, 3) := by decide +kernel
theorem dX5_copy_10 : decode cX5_copy 10 = .ok (.iconst 0, 1) := by decide +kernel
theorem dX5_copy_11 : decode cX5_copy 11 = .ok (.istore_n 2, 1) := by decide +kernel
theorem dX5_copy_12 : decode cX5_copy 12 = .ok (.iload_n 2, 1) := by decide +kernel
theorem dX5_copy_13 : decode cX5_copy 13 = .ok (.aload_n 0, 1) := by decide +kernel
theorem dX5_copy_14 : decode cX5_copy 14 = .ok (.getfield 9, 3) := by decide +kernel
theorem dX5_copy_17 : decode cX5_copy 17 = .ok (.if_icmp .ge 29, 3) := by decide +kernel
theorem dX5_copy_20 : decode cX5_copy 20 = .ok (.aload_n 0, 1) := by decide +kernel
theorem dX5_copy_21 : decode cX5_copy 21 = .ok (.getfield 38, 3) := by decide +kernel
theorem dX5_copy_24 : decode cX5_copy 24 = .ok (.iload_n 1, 1) := by decide +kernel
theorem dX5_copy_25 : decode cX5_copy 25 = .ok (.iload_n 2, 1) := by decide +kernel
theorem dX5_copy_26 : decode cX5_copy 26 = .ok (.invokestatic 91, 3) := by decide +kernel
theorem dX5_copy_29 : decode cX5_copy 29 = .ok (.aload_n 0, 1) := by decide +kernel
theorem dX5_copy_30 : decode cX5_copy 30 = .ok (.getfield 13, 3) := by decide +kernel
theorem dX5_copy_33 : decode cX5_copy 33 = .ok (.iload_n 1, 1) := by decide +kernel
theorem dX5_copy_34 : decode cX5_copy 34 = .ok (.iload_n 2, 1) := by decide +kernel
theorem dX5_copy_35 : decode cX5_copy 35 = .ok (.invokestatic 62, 3) := by decide +kernel
theorem dX5_copy_38 : decode cX5_copy 38 = .ok (.iaload, 1) := by decide +kernel
theorem dX5_copy_39 : decode cX5_copy 39 = .ok (.iastore, 1) := by decide +kernel
theorem dX5_copy_40 : decode cX5_copy 40 = .ok (.iinc 2 1, 3) := by decide +kernel
theorem dX5_copy_43 : decode cX5_copy 43 = .ok (.goto (-31), 3) := by decide +kernel
theorem dX5_copy_46 : decode cX5_copy 46 = .ok (.iinc 1 1, 3) := by decide +kernel
theorem dX5_copy_49 : decode cX5_copy 49 = .ok (.goto (-47), 3) := by decide +kernel
theorem dX5_copy_52 : decode cX5_copy 52 = .ok (.return_, 1) := by decide +kernel
theorem dX5_eliminate_0 : decode cX5_eliminate 0 = .ok (.iconst 1, 1) := by decide +kernel
theorem dX5_eliminate_1 : decode cX5_eliminate 1 = .ok (.istore_n 1, 1) := by decide +kernel
theorem dX5_eliminate_2 : decode cX5_eliminate 2 = .ok (.iconst 0, 1) := by decide +kernel
theorem dX5_eliminate_3 : decode cX5_eliminate 3 = .ok (.istore_n 2, 1) := by decide +kernel
theorem dX5_eliminate_4 : decode cX5_eliminate 4 = .ok (.iload_n 2, 1) := by decide +kernel
theorem dX5_eliminate_5 : decode cX5_eliminate 5 = .ok (.aload_n 0, 1) := by decide +kernel
theorem dX5_eliminate_6 : decode cX5_eliminate 6 = .ok (.getfield 9, 3) := by decide +kernel
theorem dX5_eliminate_9 : decode cX5_eliminate 9 = .ok (.if_icmp .ge 292, 3) := by decide +kernel
theorem dX5_eliminate_12 : decode cX5_eliminate 12 = .ok (.iload_n 2, 1) := by decide +kernel
theorem dX5_eliminate_13 : decode cX5_eliminate 13 = .ok (.istore_n 3, 1) := by decide +kernel
theorem dX5_eliminate_14 : decode cX5_eliminate 14 = .ok (.iload_n 3, 1) := by decide +kernel
theorem dX5_eliminate_15 : decode cX5_eliminate 15 = .ok (.aload_n 0, 1) := by decide +kernel
theorem dX5_eliminate_16 : decode cX5_eliminate 16 = .ok (.getfield 9, 3) := by decide +kernel
theorem dX5_eliminate_19 : decode cX5_eliminate 19 = .ok (.if_icmp .ge 22, 3) := by decide +kernel
theorem dX5_eliminate_22 : decode cX5_eliminate 22 = .ok (.aload_n 0, 1) := by decide +kernel
theorem dX5_eliminate_23 : decode cX5_eliminate 23 = .ok (.getfield 38, 3) := by decide +kernel
theorem dX5_eliminate_26 : decode cX5_eliminate 26 = .ok (.iload_n 3, 1) := by decide +kernel
theorem dX5_eliminate_27 : decode cX5_eliminate 27 = .ok (.iload_n 2, 1) := by decide +kernel
theorem dX5_eliminate_28 : decode cX5_eliminate 28 = .ok (.invokestatic 91, 3) := by decide +kernel
theorem dX5_eliminate_31 : decode cX5_eliminate 31 = .ok (.iaload, 1) := by decide +kernel
theorem dX5_eliminate_32 : decode cX5_eliminate 32 = .ok (.ifCond .ne 9, 3) := by decide +kernel
theorem dX5_eliminate_35 : decode cX5_eliminate 35 = .ok (.iinc 3 1, 3) := by decide +kernel
theorem dX5_eliminate_38 : decode cX5_eliminate 38 = .ok (.goto (-24), 3) := by decide +kernel
theorem dX5_eliminate_41 : decode cX5_eliminate 41 = .ok (.iload_n 3, 1) := by decide +kernel
theorem dX5_eliminate_42 : decode cX5_eliminate 42 = .ok (.aload_n 0, 1) := by decide +kernel
theorem dX5_eliminate_43 : decode cX5_eliminate 43 = .ok (.getfield 9, 3) := by decide +kernel
theorem dX5_eliminate_46 : decode cX5_eliminate 46 = .ok (.if_icmp .ne 5, 3) := by decide +kernel
theorem dX5_eliminate_49 : decode cX5_eliminate 49 = .ok (.iconst 0, 1) := by decide +kernel
theorem dX5_eliminate_50 : decode cX5_eliminate 50 = .ok (.ireturn, 1) := by decide +kernel
theorem dX5_eliminate_51 : decode cX5_eliminate 51 = .ok (.iload_n 3, 1) := by decide +kernel
theorem dX5_eliminate_52 : decode cX5_eliminate 52 = .ok (.iload_n 2, 1) := by decide +kernel
theorem dX5_eliminate_53 : decode cX5_eliminate 53 = .ok (.if_icmp .eq 73, 3) := by decide +kernel
theorem dX5_eliminate_56 : decode cX5_eliminate 56 = .ok (.iconst 0, 1) := by decide +kernel
theorem dX5_eliminate_57 : decode cX5_eliminate 57 = .ok (.iload_n 1, 1) := by decide +kernel
theorem dX5_eliminate_58 : decode cX5_eliminate 58 = .ok (.invokestatic 94, 3) := by decide +kernel
theorem dX5_eliminate_61 : decode cX5_eliminate 61 = .ok (.istore_n 1, 1) := by decide +kernel
theorem dX5_eliminate_62 : decode cX5_eliminate 62 = .ok (.iconst 0, 1) := by decide +kernel
theorem dX5_eliminate_63 : decode cX5_eliminate 63 = .ok (.istore 4, 2) := by decide +kernel
theorem dX5_eliminate_65 : decode cX5_eliminate 65 = .ok (.iload 4, 2) := by decide +kernel
theorem dX5_eliminate_67 : decode cX5_eliminate 67 = .ok (.bipush 16, 2) := by decide +kernel
theorem dX5_eliminate_69 : decode cX5_eliminate 69 = .ok (.if_icmp .gt 57, 3) := by decide +kernel
theorem dX5_eliminate_72 : decode cX5_eliminate 72 = .ok (.aload_n 0, 1) := by decide +kernel
theorem dX5_eliminate_73 : decode cX5_eliminate 73 = .ok (.getfield 38, 3) := by decide +kernel
theorem dX5_eliminate_76 : decode cX5_eliminate 76 = .ok (.iload_n 2, 1) := by decide +kernel
theorem dX5_eliminate_77 : decode cX5_eliminate 77 = .ok (.iload 4, 2) := by decide +kernel
theorem dX5_eliminate_79 : decode cX5_eliminate 79 = .ok (.invokestatic 91, 3) := by decide +kernel
theorem dX5_eliminate_82 : decode cX5_eliminate 82 = .ok (.iaload, 1) := by decide +kernel
theorem dX5_eliminate_83 : decode cX5_eliminate 83 = .ok (.istore 5, 2) := by decide +kernel
theorem dX5_eliminate_85 : decode cX5_eliminate 85 = .ok (.aload_n 0, 1) := by decide +kernel
theorem dX5_eliminate_86 : decode cX5_eliminate 86 = .ok (.getfield 38, 3) := by decide +kernel
theorem dX5_eliminate_89 : decode cX5_eliminate 89 = .ok (.iload_n 2, 1) := by decide +kernel
theorem dX5_eliminate_90 : decode cX5_eliminate 90 = .ok (.iload 4, 2) := by decide +kernel
theorem dX5_eliminate_92 : decode cX5_eliminate 92 = .ok (.invokestatic 91, 3) := by decide +kernel
theorem dX5_eliminate_95 : decode cX5_eliminate 95 = .ok (.aload_n 0, 1) := by decide +kernel
theorem dX5_eliminate_96 : decode cX5_eliminate 96 = .ok (.getfield 38, 3) := by decide +kernel
theorem dX5_eliminate_99 : decode cX5_eliminate 99 = .ok (.iload_n 3, 1) := by decide +kernel
theorem dX5_eliminate_100 : decode cX5_eliminate 100 = .ok (.iload 4, 2) := by decide +kernel
theorem dX5_eliminate_102 : decode cX5_eliminate 102 = .ok (.invokestatic 91, 3) := by decide +kernel
theorem dX5_eliminate_105 : decode cX5_eliminate 105 = .ok (.iaload, 1) := by decide +kernel
theorem dX5_eliminate_106 : decode cX5_eliminate 106 = .ok (.iastore, 1) := by decide +kernel
theorem dX5_eliminate_107 : decode cX5_eliminate 107 = .ok (.aload_n 0, 1) := by decide +kernel
theorem dX5_eliminate_108 : decode cX5_eliminate 108 = .ok (.getfield 38, 3) := by decide +kernel
theorem dX5_eliminate_111 : decode cX5_eliminate 111 = .ok (.iload_n 3, 1) := by decide +kernel
theorem dX5_eliminate_112 : decode cX5_eliminate 112 = .ok (.iload 4, 2) := by decide +kernel
theorem dX5_eliminate_114 : decode cX5_eliminate 114 = .ok (.invokestatic 91, 3) := by decide +kernel
theorem dX5_eliminate_117 : decode cX5_eliminate 117 = .ok (.iload 5, 2) := by decide +kernel
theorem dX5_eliminate_119 : decode cX5_eliminate 119 = .ok (.iastore, 1) := by decide +kernel
theorem dX5_eliminate_120 : decode cX5_eliminate 120 = .ok (.iinc 4 1, 3) := by decide +kernel
theorem dX5_eliminate_123 : decode cX5_eliminate 123 = .ok (.goto (-58), 3) := by decide +kernel
theorem dX5_eliminate_126 : decode cX5_eliminate 126 = .ok (.iload_n 1, 1) := by decide +kernel
theorem dX5_eliminate_127 : decode cX5_eliminate 127 = .ok (.aload_n 0, 1) := by decide +kernel
theorem dX5_eliminate_128 : decode cX5_eliminate 128 = .ok (.getfield 38, 3) := by decide +kernel
theorem dX5_eliminate_131 : decode cX5_eliminate 131 = .ok (.iload_n 2, 1) := by decide +kernel
theorem dX5_eliminate_132 : decode cX5_eliminate 132 = .ok (.iload_n 2, 1) := by decide +kernel
theorem dX5_eliminate_133 : decode cX5_eliminate 133 = .ok (.invokestatic 91, 3) := by decide +kernel
theorem dX5_eliminate_136 : decode cX5_eliminate 136 = .ok (.iaload, 1) := by decide +kernel
theorem dX5_eliminate_137 : decode cX5_eliminate 137 = .ok (.invokestatic 58, 3) := by decide +kernel
theorem dX5_eliminate_140 : decode cX5_eliminate 140 = .ok (.istore_n 1, 1) := by decide +kernel
theorem dX5_eliminate_141 : decode cX5_eliminate 141 = .ok (.aload_n 0, 1) := by decide +kernel
theorem dX5_eliminate_142 : decode cX5_eliminate 142 = .ok (.getfield 38, 3) := by decide +kernel
theorem dX5_eliminate_145 : decode cX5_eliminate 145 = .ok (.iload_n 2, 1) := by decide +kernel
theorem dX5_eliminate_146 : decode cX5_eliminate 146 = .ok (.iload_n 2, 1) := by decide +kernel
theorem dX5_eliminate_147 : decode cX5_eliminate 147 = .ok (.invokestatic 91, 3) := by decide +kernel
theorem dX5_eliminate_150 : decode cX5_eliminate 150 = .ok (.iaload, 1) := by decide +kernel
theorem dX5_eliminate_151 : decode cX5_eliminate 151 = .ok (.invokestatic 97, 3) := by decide +kernel
theorem dX5_eliminate_154 : decode cX5_eliminate 154 = .ok (.istore 4, 2) := by decide +kernel
theorem dX5_eliminate_156 : decode cX5_eliminate 156 = .ok (.iconst 0, 1) := by decide +kernel
theorem dX5_eliminate_157 : decode cX5_eliminate 157 = .ok (.istore 5, 2) := by decide +kernel
theorem dX5_eliminate_159 : decode cX5_eliminate 159 = .ok (.iload 5, 2) := by decide +kernel
theorem dX5_eliminate_161 : decode cX5_eliminate 161 = .ok (.bipush 16, 2) := by decide +kernel
theorem dX5_eliminate_163 : decode cX5_eliminate 163 = .ok (.if_icmp .gt 36, 3) := by decide +kernel
theorem dX5_eliminate_166 : decode cX5_eliminate 166 = .ok (.aload_n 0, 1) := by decide +kernel
theorem dX5_eliminate_167 : decode cX5_eliminate 167 = .ok (.getfield 38, 3) := by decide +kernel
theorem dX5_eliminate_170 : decode cX5_eliminate 170 = .ok (.iload_n 2, 1) := by decide +kernel
theorem dX5_eliminate_171 : decode cX5_eliminate 171 = .ok (.iload 5, 2) := by decide +kernel
theorem dX5_eliminate_173 : decode cX5_eliminate 173 = .ok (.invokestatic 91, 3) := by decide +kernel
theorem dX5_eliminate_176 : decode cX5_eliminate 176 = .ok (.aload_n 0, 1) := by decide +kernel
theorem dX5_eliminate_177 : decode cX5_eliminate 177 = .ok (.getfield 38, 3) := by decide +kernel
theorem dX5_eliminate_180 : decode cX5_eliminate 180 = .ok (.iload_n 2, 1) := by decide +kernel
theorem dX5_eliminate_181 : decode cX5_eliminate 181 = .ok (.iload 5, 2) := by decide +kernel
theorem dX5_eliminate_183 : decode cX5_eliminate 183 = .ok (.invokestatic 91, 3) := by decide +kernel
theorem dX5_eliminate_186 : decode cX5_eliminate 186 = .ok (.iaload, 1) := by decide +kernel
theorem dX5_eliminate_187 : decode cX5_eliminate 187 = .ok (.iload 4, 2) := by decide +kernel
theorem dX5_eliminate_189 : decode cX5_eliminate 189 = .ok (.invokestatic 58, 3) := by decide +kernel
theorem dX5_eliminate_192 : decode cX5_eliminate 192 = .ok (.iastore, 1) := by decide +kernel
theorem dX5_eliminate_193 : decode cX5_eliminate 193 = .ok (.iinc 5 1, 3) := by decide +kernel
theorem dX5_eliminate_196 : decode cX5_eliminate 196 = .ok (.goto (-37), 3) := by decide +kernel
theorem dX5_eliminate_199 : decode cX5_eliminate 199 = .ok (.iconst 0, 1) := by decide +kernel
theorem dX5_eliminate_200 : decode cX5_eliminate 200 = .ok (.istore 5, 2) := by decide +kernel
theorem dX5_eliminate_202 : decode cX5_eliminate 202 = .ok (.iload 5, 2) := by decide +kernel
theorem dX5_eliminate_204 : decode cX5_eliminate 204 = .ok (.aload_n 0, 1) := by decide +kernel
theorem dX5_eliminate_205 : decode cX5_eliminate 205 = .ok (.getfield 9, 3) := by decide +kernel
theorem dX5_eliminate_208 : decode cX5_eliminate 208 = .ok (.if_icmp .ge 87, 3) := by decide +kernel
theorem dX5_eliminate_211 : decode cX5_eliminate 211 = .ok (.aload_n 0, 1) := by decide +kernel
theorem dX5_eliminate_212 : decode cX5_eliminate 212 = .ok (.getfield 38, 3) := by decide +kernel
theorem dX5_eliminate_215 : decode cX5_eliminate 215 = .ok (.iload 5, 2) := by decide +kernel
theorem dX5_eliminate_217 : decode cX5_eliminate 217 = .ok (.iload_n 2, 1) := by decide +kernel
theorem dX5_eliminate_218 : decode cX5_eliminate 218 = .ok (.invokestatic 91, 3) := by decide +kernel
theorem dX5_eliminate_221 : decode cX5_eliminate 221 = .ok (.iaload, 1) := by decide +kernel
theorem dX5_eliminate_222 : decode cX5_eliminate 222 = .ok (.istore 6, 2) := by decide +kernel
theorem dX5_eliminate_224 : decode cX5_eliminate 224 = .ok (.iconst 0, 1) := by decide +kernel
theorem dX5_eliminate_225 : decode cX5_eliminate 225 = .ok (.istore 7, 2) := by decide +kernel
theorem dX5_eliminate_227 : decode cX5_eliminate 227 = .ok (.iload 7, 2) := by decide +kernel
theorem dX5_eliminate_229 : decode cX5_eliminate 229 = .ok (.bipush 16, 2) := by decide +kernel
theorem dX5_eliminate_231 : decode cX5_eliminate 231 = .ok (.if_icmp .gt 58, 3) := by decide +kernel
theorem dX5_eliminate_234 : decode cX5_eliminate 234 = .ok (.iload 5, 2) := by decide +kernel
theorem dX5_eliminate_236 : decode cX5_eliminate 236 = .ok (.iload_n 2, 1) := by decide +kernel
theorem dX5_eliminate_237 : decode cX5_eliminate 237 = .ok (.if_icmp .eq 52, 3) := by decide +kernel
theorem dX5_eliminate_240 : decode cX5_eliminate 240 = .ok (.aload_n 0, 1) := by decide +kernel
theorem dX5_eliminate_241 : decode cX5_eliminate 241 = .ok (.getfield 38, 3) := by decide +kernel
theorem dX5_eliminate_244 : decode cX5_eliminate 244 = .ok (.iload 5, 2) := by decide +kernel
theorem dX5_eliminate_246 : decode cX5_eliminate 246 = .ok (.iload 7, 2) := by decide +kernel
theorem dX5_eliminate_248 : decode cX5_eliminate 248 = .ok (.invokestatic 91, 3) := by decide +kernel
theorem dX5_eliminate_251 : decode cX5_eliminate 251 = .ok (.aload_n 0, 1) := by decide +kernel
theorem dX5_eliminate_252 : decode cX5_eliminate 252 = .ok (.getfield 38, 3) := by decide +kernel
theorem dX5_eliminate_255 : decode cX5_eliminate 255 = .ok (.iload 5, 2) := by decide +kernel
theorem dX5_eliminate_257 : decode cX5_eliminate 257 = .ok (.iload 7, 2) := by decide +kernel
theorem dX5_eliminate_259 : decode cX5_eliminate 259 = .ok (.invokestatic 91, 3) := by decide +kernel
theorem dX5_eliminate_262 : decode cX5_eliminate 262 = .ok (.iaload, 1) := by decide +kernel
theorem dX5_eliminate_263 : decode cX5_eliminate 263 = .ok (.iload 6, 2) := by decide +kernel
theorem dX5_eliminate_265 : decode cX5_eliminate 265 = .ok (.aload_n 0, 1) := by decide +kernel
theorem dX5_eliminate_266 : decode cX5_eliminate 266 = .ok (.getfield 38, 3) := by decide +kernel
theorem dX5_eliminate_269 : decode cX5_eliminate 269 = .ok (.iload_n 2, 1) := by decide +kernel
theorem dX5_eliminate_270 : decode cX5_eliminate 270 = .ok (.iload 7, 2) := by decide +kernel
theorem dX5_eliminate_272 : decode cX5_eliminate 272 = .ok (.invokestatic 91, 3) := by decide +kernel
theorem dX5_eliminate_275 : decode cX5_eliminate 275 = .ok (.iaload, 1) := by decide +kernel
theorem dX5_eliminate_276 : decode cX5_eliminate 276 = .ok (.invokestatic 58, 3) := by decide +kernel
theorem dX5_eliminate_279 : decode cX5_eliminate 279 = .ok (.invokestatic 94, 3) := by decide +kernel
theorem dX5_eliminate_282 : decode cX5_eliminate 282 = .ok (.iastore, 1) := by decide +kernel
theorem dX5_eliminate_283 : decode cX5_eliminate 283 = .ok (.iinc 7 1, 3) := by decide +kernel
theorem dX5_eliminate_286 : decode cX5_eliminate 286 = .ok (.goto (-59), 3) := by decide +kernel
theorem dX5_eliminate_289 : decode cX5_eliminate 289 = .ok (.iinc 5 1, 3) := by decide +kernel
theorem dX5_eliminate_292 : decode cX5_eliminate 292 = .ok (.goto (-90), 3) := by decide +kernel
theorem dX5_eliminate_295 : decode cX5_eliminate 295 = .ok (.iinc 2 1, 3) := by decide +kernel
theorem dX5_eliminate_298 : decode cX5_eliminate 298 = .ok (.goto (-294), 3) := by decide +kernel
theorem dX5_eliminate_301 : decode cX5_eliminate 301 = .ok (.iload_n 1, 1) := by decide +kernel
theorem dX5_eliminate_302 : decode cX5_eliminate 302 = .ok (.ireturn, 1) := by decide +kernel
theorem dX5_determinant_0 : decode cX5_determinant 0 = .ok (.aload_n 0, 1) := by decide +kernel
theorem dX5_determinant_1 : decode cX5_determinant 1 = .ok (.iconst 0, 1) := by decide +kernel
theorem dX5_determinant_2 : decode cX5_determinant 2 = .ok (.putfield 51, 3) := by decide +kernel
theorem dX5_determinant_5 : decode cX5_determinant 5 = .ok (.aload_n 0, 1) := by decide +kernel
theorem dX5_determinant_6 : decode cX5_determinant 6 = .ok (.invokevirtual 100, 3) := by decide +kernel
theorem dX5_determinant_9 : decode cX5_determinant 9 = .ok (.aload_n 0, 1) := by decide +kernel
theorem dX5_determinant_10 : decode cX5_determinant 10 = .ok (.invokevirtual 103, 3) := by decide +kernel
theorem dX5_determinant_13 : decode cX5_determinant 13 = .ok (.ireturn, 1) := by decide +kernel
theorem dX5_exchange_0 : decode cX5_exchange 0 = .ok (.aload_n 0, 1) := by decide +kernel
theorem dX5_exchange_1 : decode cX5_exchange 1 = .ok (.getfield 17, 3) := by decide +kernel
theorem dX5_exchange_4 : decode cX5_exchange 4 = .ok (.iload_n 1, 1) := by decide +kernel
theorem dX5_exchange_5 : decode cX5_exchange 5 = .ok (.iaload, 1) := by decide +kernel
theorem dX5_exchange_6 : decode cX5_exchange 6 = .ok (.istore_n 3, 1) := by decide +kernel
theorem dX5_exchange_7 : decode cX5_exchange 7 = .ok (.aload_n 0, 1) := by decide +kernel
theorem dX5_exchange_8 : decode cX5_exchange 8 = .ok (.getfield 17, 3) := by decide +kernel
theorem dX5_exchange_11 : decode cX5_exchange 11 = .ok (.iload_n 1, 1) := by decide +kernel
theorem dX5_exchange_12 : decode cX5_exchange 12 = .ok (.aload_n 0, 1) := by decide +kernel
theorem dX5_exchange_13 : decode cX5_exchange 13 = .ok (.getfield 17, 3) := by decide +kernel
theorem dX5_exchange_16 : decode cX5_exchange 16 = .ok (.iload_n 2, 1) := by decide +kernel
theorem dX5_exchange_17 : decode cX5_exchange 17 = .ok (.iaload, 1) := by decide +kernel
theorem dX5_exchange_18 : decode cX5_exchange 18 = .ok (.iastore, 1) := by decide +kernel
theorem dX5_exchange_19 : decode cX5_exchange 19 = .ok (.aload_n 0, 1) := by decide +kernel
theorem dX5_exchange_20 : decode cX5_exchange 20 = .ok (.getfield 17, 3) := by decide +kernel
theorem dX5_exchange_23 : decode cX5_exchange 23 = .ok (.iload_n 2, 1) := by decide +kernel
theorem dX5_exchange_24 : decode cX5_exchange 24 = .ok (.iload_n 3, 1) := by decide +kernel
theorem dX5_exchange_25 : decode cX5_exchange 25 = .ok (.iastore, 1) := by decide +kernel
theorem dX5_exchange_26 : decode cX5_exchange 26 = .ok (.aload_n 0, 1) := by decide +kernel
theorem dX5_exchange_27 : decode cX5_exchange 27 = .ok (.getfield 20, 3) := by decide +kernel
theorem dX5_exchange_30 : decode cX5_exchange 30 = .ok (.aload_n 0, 1) := by decide +kernel
theorem dX5_exchange_31 : decode cX5_exchange 31 = .ok (.getfield 17, 3) := by decide +kernel
theorem dX5_exchange_34 : decode cX5_exchange 34 = .ok (.iload_n 1, 1) := by decide +kernel
theorem dX5_exchange_35 : decode cX5_exchange 35 = .ok (.iaload, 1) := by decide +kernel
theorem dX5_exchange_36 : decode cX5_exchange 36 = .ok (.iload_n 1, 1) := by decide +kernel
theorem dX5_exchange_37 : decode cX5_exchange 37 = .ok (.iastore, 1) := by decide +kernel
theorem dX5_exchange_38 : decode cX5_exchange 38 = .ok (.aload_n 0, 1) := by decide +kernel
theorem dX5_exchange_39 : decode cX5_exchange 39 = .ok (.getfield 20, 3) := by decide +kernel
theorem dX5_exchange_42 : decode cX5_exchange 42 = .ok (.aload_n 0, 1) := by decide +kernel
theorem dX5_exchange_43 : decode cX5_exchange 43 = .ok (.getfield 17, 3) := by decide +kernel
theorem dX5_exchange_46 : decode cX5_exchange 46 = .ok (.iload_n 2, 1) := by decide +kernel
theorem dX5_exchange_47 : decode cX5_exchange 47 = .ok (.iaload, 1) := by decide +kernel
theorem dX5_exchange_48 : decode cX5_exchange 48 = .ok (.iload_n 2, 1) := by decide +kernel
theorem dX5_exchange_49 : decode cX5_exchange 49 = .ok (.iastore, 1) := by decide +kernel
theorem dX5_exchange_50 : decode cX5_exchange 50 = .ok (.return_, 1) := by decide +kernel
theorem dX5_swap_0 : decode cX5_swap 0 = .ok (.aload_n 0, 1) := by decide +kernel
theorem dX5_swap_1 : decode cX5_swap 1 = .ok (.iconst 0, 1) := by decide +kernel
theorem dX5_swap_2 : decode cX5_swap 2 = .ok (.putfield 51, 3) := by decide +kernel
theorem dX5_swap_5 : decode cX5_swap 5 = .ok (.aload_n 0, 1) := by decide +kernel
theorem dX5_swap_6 : decode cX5_swap 6 = .ok (.iload_n 1, 1) := by decide +kernel
theorem dX5_swap_7 : decode cX5_swap 7 = .ok (.invokevirtual 76, 3) := by decide +kernel
theorem dX5_swap_10 : decode cX5_swap 10 = .ok (.ifCond .eq 11, 3) := by decide +kernel
theorem dX5_swap_13 : decode cX5_swap 13 = .ok (.aload_n 0, 1) := by decide +kernel
theorem dX5_swap_14 : decode cX5_swap 14 = .ok (.iload_n 2, 1) := by decide +kernel
theorem dX5_swap_15 : decode cX5_swap 15 = .ok (.invokevirtual 76, 3) := by decide +kernel
theorem dX5_swap_18 : decode cX5_swap 18 = .ok (.ifCond .ne 17, 3) := by decide +kernel
theorem dX5_swap_21 : decode cX5_swap 21 = .ok (.aload_n 0, 1) := by decide +kernel
theorem dX5_swap_22 : decode cX5_swap 22 = .ok (.iconst 1, 1) := by decide +kernel
theorem dX5_swap_23 : decode cX5_swap 23 = .ok (.invokevirtual 72, 3) := by decide +kernel
theorem dX5_swap_26 : decode cX5_swap 26 = .ok (.ifCond .le 7, 3) := by decide +kernel
theorem dX5_swap_29 : decode cX5_swap 29 = .ok (.iconst 1, 1) := by decide +kernel
theorem dX5_swap_30 : decode cX5_swap 30 = .ok (.goto 4, 3) := by decide +kernel
theorem dX5_swap_33 : decode cX5_swap 33 = .ok (.iconst 0, 1) := by decide +kernel
theorem dX5_swap_34 : decode cX5_swap 34 = .ok (.ireturn, 1) := by decide +kernel
theorem dX5_swap_35 : decode cX5_swap 35 = .ok (.aload_n 0, 1) := by decide +kernel
theorem dX5_swap_36 : decode cX5_swap 36 = .ok (.iload_n 1, 1) := by decide +kernel
theorem dX5_swap_37 : decode cX5_swap 37 = .ok (.iload_n 2, 1) := by decide +kernel
theorem dX5_swap_38 : decode cX5_swap 38 = .ok (.invokevirtual 106, 3) := by decide +kernel
theorem dX5_swap_41 : decode cX5_swap 41 = .ok (.aload_n 0, 1) := by decide +kernel
theorem dX5_swap_42 : decode cX5_swap 42 = .ok (.iconst 0, 1) := by decide +kernel
theorem dX5_swap_43 : decode cX5_swap 43 = .ok (.putfield 65, 3) := by decide +kernel
theorem dX5_swap_46 : decode cX5_swap 46 = .ok (.iload_n 1, 1) := by decide +kernel
theorem dX5_swap_47 : decode cX5_swap 47 = .ok (.iload_n 2, 1) := by decide +kernel
theorem dX5_swap_48 : decode cX5_swap 48 = .ok (.if_icmp .eq 7, 3) := by decide +kernel
theorem dX5_swap_51 : decode cX5_swap 51 = .ok (.iconst 1, 1) := by decide +kernel
theorem dX5_swap_52 : decode cX5_swap 52 = .ok (.goto 4, 3) := by decide +kernel
theorem dX5_swap_55 : decode cX5_swap 55 = .ok (.iconst 0, 1) := by decide +kernel
theorem dX5_swap_56 : decode cX5_swap 56 = .ok (.ireturn, 1) := by decide +kernel
theorem dX5_join_0 : decode cX5_join 0 = .ok (.iconst 0, 1) := by decide +kernel
theorem dX5_join_1 : decode cX5_join 1 = .ok (.istore_n 1, 1) := by decide +kernel
theorem dX5_join_2 : decode cX5_join 2 = .ok (.iload_n 1, 1) := by decide +kernel
theorem dX5_join_3 : decode cX5_join 3 = .ok (.aload_n 0, 1) := by decide +kernel
theorem dX5_join_4 : decode cX5_join 4 = .ok (.getfield 9, 3) := by decide +kernel
theorem dX5_join_7 : decode cX5_join 7 = .ok (.if_icmp .ge 41, 3) := by decide +kernel
theorem dX5_join_10 : decode cX5_join 10 = .ok (.iconst 0, 1) := by decide +kernel
theorem dX5_join_11 : decode cX5_join 11 = .ok (.istore_n 2, 1) := by decide +kernel
theorem dX5_join_12 : decode cX5_join 12 = .ok (.iload_n 2, 1) := by decide +kernel
theorem dX5_join_13 : decode cX5_join 13 = .ok (.aload_n 0, 1) := by decide +kernel
theorem dX5_join_14 : decode cX5_join 14 = .ok (.getfield 9, 3) := by decide +kernel
theorem dX5_join_17 : decode cX5_join 17 = .ok (.if_icmp .ge 25, 3) := by decide +kernel
theorem dX5_join_20 : decode cX5_join 20 = .ok (.aload_n 0, 1) := by decide +kernel
theorem dX5_join_21 : decode cX5_join 21 = .ok (.getfield 41, 3) := by decide +kernel
theorem dX5_join_24 : decode cX5_join 24 = .ok (.iload_n 1, 1) := by decide +kernel
theorem dX5_join_25 : decode cX5_join 25 = .ok (.iload_n 2, 1) := by decide +kernel
theorem dX5_join_26 : decode cX5_join 26 = .ok (.invokestatic 62, 3) := by decide +kernel
theorem dX5_join_29 : decode cX5_join 29 = .ok (.aload_n 0, 1) := by decide +kernel
theorem dX5_join_30 : decode cX5_join 30 = .ok (.iload_n 1, 1) := by decide +kernel
theorem dX5_join_31 : decode cX5_join 31 = .ok (.iload_n 2, 1) := by decide +kernel
theorem dX5_join_32 : decode cX5_join 32 = .ok (.invokevirtual 83, 3) := by decide +kernel
theorem dX5_join_35 : decode cX5_join 35 = .ok (.bastore, 1) := by decide +kernel
theorem dX5_join_36 : decode cX5_join 36 = .ok (.iinc 2 1, 3) := by decide +kernel
theorem dX5_join_39 : decode cX5_join 39 = .ok (.goto (-27), 3) := by decide +kernel
theorem dX5_join_42 : decode cX5_join 42 = .ok (.iinc 1 1, 3) := by decide +kernel
theorem dX5_join_45 : decode cX5_join 45 = .ok (.goto (-43), 3) := by decide +kernel
theorem dX5_join_48 : decode cX5_join 48 = .ok (.return_, 1) := by decide +kernel
theorem dX5_eliminate__0 : decode cX5_eliminate_ 0 = .ok (.aload_n 0, 1) := by decide +kernel
theorem dX5_eliminate__1 : decode cX5_eliminate_ 1 = .ok (.getfield 17, 3) := by decide +kernel
theorem dX5_eliminate__4 : decode cX5_eliminate_ 4 = .ok (.iload_n 1, 1) := by decide +kernel
theorem dX5_eliminate__5 : decode cX5_eliminate_ 5 = .ok (.iaload, 1) := by decide +kernel
theorem dX5_eliminate__6 : decode cX5_eliminate_ 6 = .ok (.istore_n 2, 1) := by decide +kernel
theorem dX5_eliminate__7 : decode cX5_eliminate_ 7 = .ok (.iload_n 1, 1) := by decide +kernel
theorem dX5_eliminate__8 : decode cX5_eliminate_ 8 = .ok (.iconst 1, 1) := by decide +kernel
theorem dX5_eliminate__9 : decode cX5_eliminate_ 9 = .ok (.iadd, 1) := by decide +kernel
theorem dX5_eliminate__10 : decode cX5_eliminate_ 10 = .ok (.istore_n 3, 1) := by decide +kernel
theorem dX5_eliminate__11 : decode cX5_eliminate_ 11 = .ok (.iload_n 3, 1) := by decide +kernel
theorem dX5_eliminate__12 : decode cX5_eliminate_ 12 = .ok (.aload_n 0, 1) := by decide +kernel
theorem dX5_eliminate__13 : decode cX5_eliminate_ 13 = .ok (.getfield 9, 3) := by decide +kernel
theorem dX5_eliminate__16 : decode cX5_eliminate_ 16 = .ok (.if_icmp .ge 94, 3) := by decide +kernel
theorem dX5_eliminate__19 : decode cX5_eliminate_ 19 = .ok (.iload_n 1, 1) := by decide +kernel
theorem dX5_eliminate__20 : decode cX5_eliminate_ 20 = .ok (.iconst 1, 1) := by decide +kernel
theorem dX5_eliminate__21 : decode cX5_eliminate_ 21 = .ok (.iadd, 1) := by decide +kernel
theorem dX5_eliminate__22 : decode cX5_eliminate_ 22 = .ok (.istore 4, 2) := by decide +kernel
theorem dX5_eliminate__24 : decode cX5_eliminate_ 24 = .ok (.iload 4, 2) := by decide +kernel
theorem dX5_eliminate__26 : decode cX5_eliminate_ 26 = .ok (.aload_n 0, 1) := by decide +kernel
theorem dX5_eliminate__27 : decode cX5_eliminate_ 27 = .ok (.getfield 9, 3) := by decide +kernel
theorem dX5_eliminate__30 : decode cX5_eliminate_ 30 = .ok (.if_icmp .ge 74, 3) := by decide +kernel
theorem dX5_eliminate__33 : decode cX5_eliminate_ 33 = .ok (.iload_n 3, 1) := by decide +kernel
theorem dX5_eliminate__34 : decode cX5_eliminate_ 34 = .ok (.iload 4, 2) := by decide +kernel
theorem dX5_eliminate__36 : decode cX5_eliminate_ 36 = .ok (.if_icmp .eq 62, 3) := by decide +kernel
theorem dX5_eliminate__39 : decode cX5_eliminate_ 39 = .ok (.aload_n 0, 1) := by decide +kernel
theorem dX5_eliminate__40 : decode cX5_eliminate_ 40 = .ok (.getfield 41, 3) := by decide +kernel
theorem dX5_eliminate__43 : decode cX5_eliminate_ 43 = .ok (.iload_n 2, 1) := by decide +kernel
theorem dX5_eliminate__44 : decode cX5_eliminate_ 44 = .ok (.aload_n 0, 1) := by decide +kernel
theorem dX5_eliminate__45 : decode cX5_eliminate_ 45 = .ok (.getfield 17, 3) := by decide +kernel
theorem dX5_eliminate__48 : decode cX5_eliminate_ 48 = .ok (.iload_n 3, 1) := by decide +kernel
theorem dX5_eliminate__49 : decode cX5_eliminate_ 49 = .ok (.iaload, 1) := by decide +kernel
theorem dX5_eliminate__50 : decode cX5_eliminate_ 50 = .ok (.invokestatic 62, 3) := by decide +kernel
theorem dX5_eliminate__53 : decode cX5_eliminate_ 53 = .ok (.baload, 1) := by decide +kernel
theorem dX5_eliminate__54 : decode cX5_eliminate_ 54 = .ok (.ifCond .eq 44, 3) := by decide +kernel
theorem dX5_eliminate__57 : decode cX5_eliminate_ 57 = .ok (.aload_n 0, 1) := by decide +kernel
theorem dX5_eliminate__58 : decode cX5_eliminate_ 58 = .ok (.getfield 41, 3) := by decide +kernel
theorem dX5_eliminate__61 : decode cX5_eliminate_ 61 = .ok (.iload_n 2, 1) := by decide +kernel
theorem dX5_eliminate__62 : decode cX5_eliminate_ 62 = .ok (.aload_n 0, 1) := by decide +kernel
theorem dX5_eliminate__63 : decode cX5_eliminate_ 63 = .ok (.getfield 17, 3) := by decide +kernel
theorem dX5_eliminate__66 : decode cX5_eliminate_ 66 = .ok (.iload 4, 2) := by decide +kernel
theorem dX5_eliminate__68 : decode cX5_eliminate_ 68 = .ok (.iaload, 1) := by decide +kernel
theorem dX5_eliminate__69 : decode cX5_eliminate_ 69 = .ok (.invokestatic 62, 3) := by decide +kernel
theorem dX5_eliminate__72 : decode cX5_eliminate_ 72 = .ok (.baload, 1) := by decide +kernel
theorem dX5_eliminate__73 : decode cX5_eliminate_ 73 = .ok (.ifCond .eq 25, 3) := by decide +kernel
theorem dX5_eliminate__76 : decode cX5_eliminate_ 76 = .ok (.aload_n 0, 1) := by decide +kernel
theorem dX5_eliminate__77 : decode cX5_eliminate_ 77 = .ok (.getfield 41, 3) := by decide +kernel
theorem dX5_eliminate__80 : decode cX5_eliminate_ 80 = .ok (.aload_n 0, 1) := by decide +kernel
theorem dX5_eliminate__81 : decode cX5_eliminate_ 81 = .ok (.getfield 17, 3) := by decide +kernel
theorem dX5_eliminate__84 : decode cX5_eliminate_ 84 = .ok (.iload_n 3, 1) := by decide +kernel
theorem dX5_eliminate__85 : decode cX5_eliminate_ 85 = .ok (.iaload, 1) := by decide +kernel
theorem dX5_eliminate__86 : decode cX5_eliminate_ 86 = .ok (.aload_n 0, 1) := by decide +kernel
theorem dX5_eliminate__87 : decode cX5_eliminate_ 87 = .ok (.getfield 17, 3) := by decide +kernel
theorem dX5_eliminate__90 : decode cX5_eliminate_ 90 = .ok (.iload 4, 2) := by decide +kernel
theorem dX5_eliminate__92 : decode cX5_eliminate_ 92 = .ok (.iaload, 1) := by decide +kernel
theorem dX5_eliminate__93 : decode cX5_eliminate_ 93 = .ok (.invokestatic 62, 3) := by decide +kernel
theorem dX5_eliminate__96 : decode cX5_eliminate_ 96 = .ok (.iconst 1, 1) := by decide +kernel
theorem dX5_eliminate__97 : decode cX5_eliminate_ 97 = .ok (.bastore, 1) := by decide +kernel
theorem dX5_eliminate__98 : decode cX5_eliminate_ 98 = .ok (.iinc 4 1, 3) := by decide +kernel
theorem dX5_eliminate__101 : decode cX5_eliminate_ 101 = .ok (.goto (-77), 3) := by decide +kernel
theorem dX5_eliminate__104 : decode cX5_eliminate_ 104 = .ok (.iinc 3 1, 3) := by decide +kernel
theorem dX5_eliminate__107 : decode cX5_eliminate_ 107 = .ok (.goto (-96), 3) := by decide +kernel
theorem dX5_eliminate__110 : decode cX5_eliminate_ 110 = .ok (.return_, 1) := by decide +kernel
theorem dX5_fill_0 : decode cX5_fill 0 = .ok (.aload_n 0, 1) := by decide +kernel
theorem dX5_fill_1 : decode cX5_fill 1 = .ok (.invokevirtual 110, 3) := by decide +kernel
theorem dX5_fill_4 : decode cX5_fill 4 = .ok (.iconst 0, 1) := by decide +kernel
theorem dX5_fill_5 : decode cX5_fill 5 = .ok (.istore_n 1, 1) := by decide +kernel
theorem dX5_fill_6 : decode cX5_fill 6 = .ok (.iload_n 1, 1) := by decide +kernel
theorem dX5_fill_7 : decode cX5_fill 7 = .ok (.aload_n 0, 1) := by decide +kernel
theorem dX5_fill_8 : decode cX5_fill 8 = .ok (.getfield 9, 3) := by decide +kernel
theorem dX5_fill_11 : decode cX5_fill 11 = .ok (.if_icmp .ge 14, 3) := by decide +kernel
theorem dX5_fill_14 : decode cX5_fill 14 = .ok (.aload_n 0, 1) := by decide +kernel
theorem dX5_fill_15 : decode cX5_fill 15 = .ok (.iload_n 1, 1) := by decide +kernel
theorem dX5_fill_16 : decode cX5_fill 16 = .ok (.invokevirtual 113, 3) := by decide +kernel
theorem dX5_fill_19 : decode cX5_fill 19 = .ok (.iinc 1 1, 3) := by decide +kernel
theorem dX5_fill_22 : decode cX5_fill 22 = .ok (.goto (-16), 3) := by decide +kernel
theorem dX5_fill_25 : decode cX5_fill 25 = .ok (.return_, 1) := by decide +kernel
theorem dX5_fills_0 : decode cX5_fills 0 = .ok (.aload_n 0, 1) := by decide +kernel
theorem dX5_fills_1 : decode cX5_fills 1 = .ok (.invokevirtual 116, 3) := by decide +kernel
theorem dX5_fills_4 : decode cX5_fills 4 = .ok (.iconst 0, 1) := by decide +kernel
theorem dX5_fills_5 : decode cX5_fills 5 = .ok (.istore_n 1, 1) := by decide +kernel
theorem dX5_fills_6 : decode cX5_fills 6 = .ok (.iconst 0, 1) := by decide +kernel
theorem dX5_fills_7 : decode cX5_fills 7 = .ok (.istore_n 2, 1) := by decide +kernel
theorem dX5_fills_8 : decode cX5_fills 8 = .ok (.iload_n 2, 1) := by decide +kernel
theorem dX5_fills_9 : decode cX5_fills 9 = .ok (.aload_n 0, 1) := by decide +kernel
theorem dX5_fills_10 : decode cX5_fills 10 = .ok (.getfield 9, 3) := by decide +kernel
theorem dX5_fills_13 : decode cX5_fills 13 = .ok (.if_icmp .ge 52, 3) := by decide +kernel
theorem dX5_fills_16 : decode cX5_fills 16 = .ok (.iconst 0, 1) := by decide +kernel
theorem dX5_fills_17 : decode cX5_fills 17 = .ok (.istore_n 3, 1) := by decide +kernel
theorem dX5_fills_18 : decode cX5_fills 18 = .ok (.iload_n 3, 1) := by decide +kernel
theorem dX5_fills_19 : decode cX5_fills 19 = .ok (.iload_n 2, 1) := by decide +kernel
theorem dX5_fills_20 : decode cX5_fills 20 = .ok (.if_icmp .ge 39, 3) := by decide +kernel
theorem dX5_fills_23 : decode cX5_fills 23 = .ok (.iload_n 1, 1) := by decide +kernel
theorem dX5_fills_24 : decode cX5_fills 24 = .ok (.aload_n 0, 1) := by decide +kernel
theorem dX5_fills_25 : decode cX5_fills 25 = .ok (.getfield 41, 3) := by decide +kernel
theorem dX5_fills_28 : decode cX5_fills 28 = .ok (.iload_n 2, 1) := by decide +kernel
theorem dX5_fills_29 : decode cX5_fills 29 = .ok (.iload_n 3, 1) := by decide +kernel
theorem dX5_fills_30 : decode cX5_fills 30 = .ok (.invokestatic 62, 3) := by decide +kernel
theorem dX5_fills_33 : decode cX5_fills 33 = .ok (.baload, 1) := by decide +kernel
theorem dX5_fills_34 : decode cX5_fills 34 = .ok (.ifCond .eq 16, 3) := by decide +kernel
theorem dX5_fills_37 : decode cX5_fills 37 = .ok (.aload_n 0, 1) := by decide +kernel
theorem dX5_fills_38 : decode cX5_fills 38 = .ok (.iload_n 2, 1) := by decide +kernel
theorem dX5_fills_39 : decode cX5_fills 39 = .ok (.iload_n 3, 1) := by decide +kernel
theorem dX5_fills_40 : decode cX5_fills 40 = .ok (.invokevirtual 83, 3) := by decide +kernel
theorem dX5_fills_43 : decode cX5_fills 43 = .ok (.ifCond .ne 7, 3) := by decide +kernel
theorem dX5_fills_46 : decode cX5_fills 46 = .ok (.iconst 1, 1) := by decide +kernel
theorem dX5_fills_47 : decode cX5_fills 47 = .ok (.goto 4, 3) := by decide +kernel
theorem dX5_fills_50 : decode cX5_fills 50 = .ok (.iconst 0, 1) := by decide +kernel
theorem dX5_fills_51 : decode cX5_fills 51 = .ok (.iadd, 1) := by decide +kernel
theorem dX5_fills_52 : decode cX5_fills 52 = .ok (.istore_n 1, 1) := by decide +kernel
theorem dX5_fills_53 : decode cX5_fills 53 = .ok (.iinc 3 1, 3) := by decide +kernel
theorem dX5_fills_56 : decode cX5_fills 56 = .ok (.goto (-38), 3) := by decide +kernel
theorem dX5_fills_59 : decode cX5_fills 59 = .ok (.iinc 2 1, 3) := by decide +kernel
theorem dX5_fills_62 : decode cX5_fills 62 = .ok (.goto (-54), 3) := by decide +kernel
theorem dX5_fills_65 : decode cX5_fills 65 = .ok (.iload_n 1, 1) := by decide +kernel
theorem dX5_fills_66 : decode cX5_fills 66 = .ok (.ireturn, 1) := by decide +kernel
theorem dX5_minimumDegree_0 : decode cX5_minimumDegree 0 = .ok (.aload_n 0, 1) := by decide +kernel
theorem dX5_minimumDegree_1 : decode cX5_minimumDegree 1 = .ok (.iconst 0, 1) := by decide +kernel
theorem dX5_minimumDegree_2 : decode cX5_minimumDegree 2 = .ok (.putfield 51, 3) := by decide +kernel
theorem dX5_minimumDegree_5 : decode cX5_minimumDegree 5 = .ok (.aload_n 0, 1) := by decide +kernel
theorem dX5_minimumDegree_6 : decode cX5_minimumDegree 6 = .ok (.iconst 0, 1) := by decide +kernel
theorem dX5_minimumDegree_7 : decode cX5_minimumDegree 7 = .ok (.putfield 65, 3) := by decide +kernel
theorem dX5_minimumDegree_10 : decode cX5_minimumDegree 10 = .ok (.aload_n 0, 1) := by decide +kernel
theorem dX5_minimumDegree_11 : decode cX5_minimumDegree 11 = .ok (.invokevirtual 110, 3) := by decide +kernel
theorem dX5_minimumDegree_14 : decode cX5_minimumDegree 14 = .ok (.iconst 0, 1) := by decide +kernel
theorem dX5_minimumDegree_15 : decode cX5_minimumDegree 15 = .ok (.istore_n 1, 1) := by decide +kernel
theorem dX5_minimumDegree_16 : decode cX5_minimumDegree 16 = .ok (.iload_n 1, 1) := by decide +kernel
theorem dX5_minimumDegree_17 : decode cX5_minimumDegree 17 = .ok (.aload_n 0, 1) := by decide +kernel
theorem dX5_minimumDegree_18 : decode cX5_minimumDegree 18 = .ok (.getfield 9, 3) := by decide +kernel
theorem dX5_minimumDegree_21 : decode cX5_minimumDegree 21 = .ok (.if_icmp .ge 87, 3) := by decide +kernel
theorem dX5_minimumDegree_24 : decode cX5_minimumDegree 24 = .ok (.iload_n 1, 1) := by decide +kernel
theorem dX5_minimumDegree_25 : decode cX5_minimumDegree 25 = .ok (.istore_n 2, 1) := by decide +kernel
theorem dX5_minimumDegree_26 : decode cX5_minimumDegree 26 = .ok (.iload_n 1, 1) := by decide +kernel
theorem dX5_minimumDegree_27 : decode cX5_minimumDegree 27 = .ok (.iconst 1, 1) := by decide +kernel
theorem dX5_minimumDegree_28 : decode cX5_minimumDegree 28 = .ok (.iadd, 1) := by decide +kernel
theorem dX5_minimumDegree_29 : decode cX5_minimumDegree 29 = .ok (.istore_n 3, 1) := by decide +kernel
theorem dX5_minimumDegree_30 : decode cX5_minimumDegree 30 = .ok (.iload_n 3, 1) := by decide +kernel
theorem dX5_minimumDegree_31 : decode cX5_minimumDegree 31 = .ok (.aload_n 0, 1) := by decide +kernel
theorem dX5_minimumDegree_32 : decode cX5_minimumDegree 32 = .ok (.getfield 9, 3) := by decide +kernel
theorem dX5_minimumDegree_35 : decode cX5_minimumDegree 35 = .ok (.if_icmp .ge 56, 3) := by decide +kernel
theorem dX5_minimumDegree_38 : decode cX5_minimumDegree 38 = .ok (.aload_n 0, 1) := by decide +kernel
theorem dX5_minimumDegree_39 : decode cX5_minimumDegree 39 = .ok (.iload_n 3, 1) := by decide +kernel
theorem dX5_minimumDegree_40 : decode cX5_minimumDegree 40 = .ok (.iload_n 1, 1) := by decide +kernel
theorem dX5_minimumDegree_41 : decode cX5_minimumDegree 41 = .ok (.invokevirtual 119, 3) := by decide +kernel
theorem dX5_minimumDegree_44 : decode cX5_minimumDegree 44 = .ok (.aload_n 0, 1) := by decide +kernel
theorem dX5_minimumDegree_45 : decode cX5_minimumDegree 45 = .ok (.iload_n 2, 1) := by decide +kernel
theorem dX5_minimumDegree_46 : decode cX5_minimumDegree 46 = .ok (.iload_n 1, 1) := by decide +kernel
theorem dX5_minimumDegree_47 : decode cX5_minimumDegree 47 = .ok (.invokevirtual 119, 3) := by decide +kernel
theorem dX5_minimumDegree_50 : decode cX5_minimumDegree 50 = .ok (.if_icmp .lt 33, 3) := by decide +kernel
theorem dX5_minimumDegree_53 : decode cX5_minimumDegree 53 = .ok (.aload_n 0, 1) := by decide +kernel
theorem dX5_minimumDegree_54 : decode cX5_minimumDegree 54 = .ok (.iload_n 3, 1) := by decide +kernel
theorem dX5_minimumDegree_55 : decode cX5_minimumDegree 55 = .ok (.iload_n 1, 1) := by decide +kernel
theorem dX5_minimumDegree_56 : decode cX5_minimumDegree 56 = .ok (.invokevirtual 119, 3) := by decide +kernel
theorem dX5_minimumDegree_59 : decode cX5_minimumDegree 59 = .ok (.aload_n 0, 1) := by decide +kernel
theorem dX5_minimumDegree_60 : decode cX5_minimumDegree 60 = .ok (.iload_n 2, 1) := by decide +kernel
theorem dX5_minimumDegree_61 : decode cX5_minimumDegree 61 = .ok (.iload_n 1, 1) := by decide +kernel
theorem dX5_minimumDegree_62 : decode cX5_minimumDegree 62 = .ok (.invokevirtual 119, 3) := by decide +kernel
theorem dX5_minimumDegree_65 : decode cX5_minimumDegree 65 = .ok (.if_icmp .ne 20, 3) := by decide +kernel
theorem dX5_minimumDegree_68 : decode cX5_minimumDegree 68 = .ok (.aload_n 0, 1) := by decide +kernel
theorem dX5_minimumDegree_69 : decode cX5_minimumDegree 69 = .ok (.getfield 17, 3) := by decide +kernel
theorem dX5_minimumDegree_72 : decode cX5_minimumDegree 72 = .ok (.iload_n 3, 1) := by decide +kernel
theorem dX5_minimumDegree_73 : decode cX5_minimumDegree 73 = .ok (.iaload, 1) := by decide +kernel
theorem dX5_minimumDegree_74 : decode cX5_minimumDegree 74 = .ok (.aload_n 0, 1) := by decide +kernel
theorem dX5_minimumDegree_75 : decode cX5_minimumDegree 75 = .ok (.getfield 17, 3) := by decide +kernel
theorem dX5_minimumDegree_78 : decode cX5_minimumDegree 78 = .ok (.iload_n 2, 1) := by decide +kernel
theorem dX5_minimumDegree_79 : decode cX5_minimumDegree 79 = .ok (.iaload, 1) := by decide +kernel
theorem dX5_minimumDegree_80 : decode cX5_minimumDegree 80 = .ok (.if_icmp .ge 5, 3) := by decide +kernel
theorem dX5_minimumDegree_83 : decode cX5_minimumDegree 83 = .ok (.iload_n 3, 1) := by decide +kernel
theorem dX5_minimumDegree_84 : decode cX5_minimumDegree 84 = .ok (.istore_n 2, 1) := by decide +kernel
theorem dX5_minimumDegree_85 : decode cX5_minimumDegree 85 = .ok (.iinc 3 1, 3) := by decide +kernel
theorem dX5_minimumDegree_88 : decode cX5_minimumDegree 88 = .ok (.goto (-58), 3) := by decide +kernel
theorem dX5_minimumDegree_91 : decode cX5_minimumDegree 91 = .ok (.aload_n 0, 1) := by decide +kernel
theorem dX5_minimumDegree_92 : decode cX5_minimumDegree 92 = .ok (.iload_n 1, 1) := by decide +kernel
theorem dX5_minimumDegree_93 : decode cX5_minimumDegree 93 = .ok (.iload_n 2, 1) := by decide +kernel
theorem dX5_minimumDegree_94 : decode cX5_minimumDegree 94 = .ok (.invokevirtual 106, 3) := by decide +kernel
theorem dX5_minimumDegree_97 : decode cX5_minimumDegree 97 = .ok (.aload_n 0, 1) := by decide +kernel
theorem dX5_minimumDegree_98 : decode cX5_minimumDegree 98 = .ok (.iload_n 1, 1) := by decide +kernel
theorem dX5_minimumDegree_99 : decode cX5_minimumDegree 99 = .ok (.invokevirtual 113, 3) := by decide +kernel
theorem dX5_minimumDegree_102 : decode cX5_minimumDegree 102 = .ok (.iinc 1 1, 3) := by decide +kernel
theorem dX5_minimumDegree_105 : decode cX5_minimumDegree 105 = .ok (.goto (-89), 3) := by decide +kernel
theorem dX5_minimumDegree_108 : decode cX5_minimumDegree 108 = .ok (.aload_n 0, 1) := by decide +kernel
theorem dX5_minimumDegree_109 : decode cX5_minimumDegree 109 = .ok (.invokevirtual 122, 3) := by decide +kernel
theorem dX5_minimumDegree_112 : decode cX5_minimumDegree 112 = .ok (.ireturn, 1) := by decide +kernel
theorem dX5_degree_0 : decode cX5_degree 0 = .ok (.iconst 0, 1) := by decide +kernel
theorem dX5_degree_1 : decode cX5_degree 1 = .ok (.istore_n 3, 1) := by decide +kernel
theorem dX5_degree_2 : decode cX5_degree 2 = .ok (.iload_n 2, 1) := by decide +kernel
theorem dX5_degree_3 : decode cX5_degree 3 = .ok (.istore 4, 2) := by decide +kernel
theorem dX5_degree_5 : decode cX5_degree 5 = .ok (.iload 4, 2) := by decide +kernel
theorem dX5_degree_7 : decode cX5_degree 7 = .ok (.aload_n 0, 1) := by decide +kernel
theorem dX5_degree_8 : decode cX5_degree 8 = .ok (.getfield 9, 3) := by decide +kernel
theorem dX5_degree_11 : decode cX5_degree 11 = .ok (.if_icmp .ge 41, 3) := by decide +kernel
theorem dX5_degree_14 : decode cX5_degree 14 = .ok (.iload_n 3, 1) := by decide +kernel
theorem dX5_degree_15 : decode cX5_degree 15 = .ok (.aload_n 0, 1) := by decide +kernel
theorem dX5_degree_16 : decode cX5_degree 16 = .ok (.getfield 41, 3) := by decide +kernel
theorem dX5_degree_19 : decode cX5_degree 19 = .ok (.aload_n 0, 1) := by decide +kernel
theorem dX5_degree_20 : decode cX5_degree 20 = .ok (.getfield 17, 3) := by decide +kernel
theorem dX5_degree_23 : decode cX5_degree 23 = .ok (.iload_n 1, 1) := by decide +kernel
theorem dX5_degree_24 : decode cX5_degree 24 = .ok (.iaload, 1) := by decide +kernel
theorem dX5_degree_25 : decode cX5_degree 25 = .ok (.aload_n 0, 1) := by decide +kernel
theorem dX5_degree_26 : decode cX5_degree 26 = .ok (.getfield 17, 3) := by decide +kernel
theorem dX5_degree_29 : decode cX5_degree 29 = .ok (.iload 4, 2) := by decide +kernel
theorem dX5_degree_31 : decode cX5_degree 31 = .ok (.iaload, 1) := by decide +kernel
theorem dX5_degree_32 : decode cX5_degree 32 = .ok (.invokestatic 62, 3) := by decide +kernel
theorem dX5_degree_35 : decode cX5_degree 35 = .ok (.baload, 1) := by decide +kernel
theorem dX5_degree_36 : decode cX5_degree 36 = .ok (.ifCond .eq 7, 3) := by decide +kernel
theorem dX5_degree_39 : decode cX5_degree 39 = .ok (.iconst 1, 1) := by decide +kernel
theorem dX5_degree_40 : decode cX5_degree 40 = .ok (.goto 4, 3) := by decide +kernel
theorem dX5_degree_43 : decode cX5_degree 43 = .ok (.iconst 0, 1) := by decide +kernel
theorem dX5_degree_44 : decode cX5_degree 44 = .ok (.iadd, 1) := by decide +kernel
theorem dX5_degree_45 : decode cX5_degree 45 = .ok (.istore_n 3, 1) := by decide +kernel
theorem dX5_degree_46 : decode cX5_degree 46 = .ok (.iinc 4 1, 3) := by decide +kernel
theorem dX5_degree_49 : decode cX5_degree 49 = .ok (.goto (-44), 3) := by decide +kernel
theorem dX5_degree_52 : decode cX5_degree 52 = .ok (.iload_n 3, 1) := by decide +kernel
theorem dX5_degree_53 : decode cX5_degree 53 = .ok (.ireturn, 1) := by decide +kernel
theorem dX5_reverse_0 : decode cX5_reverse 0 = .ok (.aload_n 0, 1) := by decide +kernel
theorem dX5_reverse_1 : decode cX5_reverse 1 = .ok (.iconst 0, 1) := by decide +kernel
theorem dX5_reverse_2 : decode cX5_reverse 2 = .ok (.putfield 51, 3) := by decide +kernel
theorem dX5_reverse_5 : decode cX5_reverse 5 = .ok (.aload_n 0, 1) := by decide +kernel
theorem dX5_reverse_6 : decode cX5_reverse 6 = .ok (.iconst 0, 1) := by decide +kernel
theorem dX5_reverse_7 : decode cX5_reverse 7 = .ok (.putfield 65, 3) := by decide +kernel
theorem dX5_reverse_10 : decode cX5_reverse 10 = .ok (.iconst 0, 1) := by decide +kernel
theorem dX5_reverse_11 : decode cX5_reverse 11 = .ok (.istore_n 1, 1) := by decide +kernel
theorem dX5_reverse_12 : decode cX5_reverse 12 = .ok (.iload_n 1, 1) := by decide +kernel
theorem dX5_reverse_13 : decode cX5_reverse 13 = .ok (.aload_n 0, 1) := by decide +kernel
theorem dX5_reverse_14 : decode cX5_reverse 14 = .ok (.getfield 9, 3) := by decide +kernel
theorem dX5_reverse_17 : decode cX5_reverse 17 = .ok (.iconst 1, 1) := by decide +kernel
theorem dX5_reverse_18 : decode cX5_reverse 18 = .ok (.isub, 1) := by decide +kernel
theorem dX5_reverse_19 : decode cX5_reverse 19 = .ok (.iload_n 1, 1) := by decide +kernel
theorem dX5_reverse_20 : decode cX5_reverse 20 = .ok (.isub, 1) := by decide +kernel
