theorem d_Model_machine_104 : decode m_Model_machine.2.1 104 = .ok (.sipush 137, 3) := by decide +kernel
theorem d_Model_machine_107 : decode m_Model_machine.2.1 107 = .ok (.iload 5, 2) := by decide +kernel
theorem d_Model_machine_109 : decode m_Model_machine.2.1 109 = .ok (.iastore, 1) := by decide +kernel
theorem d_Model_machine_110 : decode m_Model_machine.2.1 110 = .ok (.aload_n 0, 1) := by decide +kernel
theorem d_Model_machine_111 : decode m_Model_machine.2.1 111 = .ok (.invokevirtual 254, 3) := by decide +kernel
theorem d_Model_machine_114 : decode m_Model_machine.2.1 114 = .ok (.ireturn, 1) := by decide +kernel
theorem d_Model_undo_0 : decode m_Model_undo.2.1 0 = .ok (.aload_n 0, 1) := by decide +kernel
theorem d_Model_undo_1 : decode m_Model_undo.2.1 1 = .ok (.iconst 0, 1) := by decide +kernel
theorem d_Model_undo_2 : decode m_Model_undo.2.1 2 = .ok (.putfield 75, 3) := by decide +kernel
theorem d_Model_undo_5 : decode m_Model_undo.2.1 5 = .ok (.aload_n 0, 1) := by decide +kernel
theorem d_Model_undo_6 : decode m_Model_undo.2.1 6 = .ok (.getfield 142, 3) := by decide +kernel
theorem d_Model_undo_9 : decode m_Model_undo.2.1 9 = .ok (.ifCond .ne 6, 3) := by decide +kernel
theorem d_Model_undo_12 : decode m_Model_undo.2.1 12 = .ok (.bipush (-2), 2) := by decide +kernel
theorem d_Model_undo_14 : decode m_Model_undo.2.1 14 = .ok (.ireturn, 1) := by decide +kernel
theorem d_Model_undo_15 : decode m_Model_undo.2.1 15 = .ok (.aload_n 0, 1) := by decide +kernel
theorem d_Model_undo_16 : decode m_Model_undo.2.1 16 = .ok (.dup, 1) := by decide +kernel
theorem d_Model_undo_17 : decode m_Model_undo.2.1 17 = .ok (.getfield 142, 3) := by decide +kernel
theorem d_Model_undo_20 : decode m_Model_undo.2.1 20 = .ok (.iconst 1, 1) := by decide +kernel
theorem d_Model_undo_21 : decode m_Model_undo.2.1 21 = .ok (.isub, 1) := by decide +kernel
theorem d_Model_undo_22 : decode m_Model_undo.2.1 22 = .ok (.putfield 142, 3) := by decide +kernel
theorem d_Model_undo_25 : decode m_Model_undo.2.1 25 = .ok (.iconst 0, 1) := by decide +kernel
theorem d_Model_undo_26 : decode m_Model_undo.2.1 26 = .ok (.istore_n 1, 1) := by decide +kernel
theorem d_Model_undo_27 : decode m_Model_undo.2.1 27 = .ok (.iload_n 1, 1) := by decide +kernel
theorem d_Model_undo_28 : decode m_Model_undo.2.1 28 = .ok (.sipush 138, 3) := by decide +kernel
theorem d_Model_undo_31 : decode m_Model_undo.2.1 31 = .ok (.if_icmp .ge 30, 3) := by decide +kernel
theorem d_Model_undo_34 : decode m_Model_undo.2.1 34 = .ok (.aload_n 0, 1) := by decide +kernel
theorem d_Model_undo_35 : decode m_Model_undo.2.1 35 = .ok (.getfield 16, 3) := by decide +kernel
theorem d_Model_undo_38 : decode m_Model_undo.2.1 38 = .ok (.iload_n 1, 1) := by decide +kernel
theorem d_Model_undo_39 : decode m_Model_undo.2.1 39 = .ok (.aload_n 0, 1) := by decide +kernel
theorem d_Model_undo_40 : decode m_Model_undo.2.1 40 = .ok (.getfield 22, 3) := by decide +kernel
theorem d_Model_undo_43 : decode m_Model_undo.2.1 43 = .ok (.sipush 138, 3) := by decide +kernel
theorem d_Model_undo_46 : decode m_Model_undo.2.1 46 = .ok (.aload_n 0, 1) := by decide +kernel
theorem d_Model_undo_47 : decode m_Model_undo.2.1 47 = .ok (.getfield 142, 3) := by decide +kernel
theorem d_Model_undo_50 : decode m_Model_undo.2.1 50 = .ok (.imul, 1) := by decide +kernel
theorem d_Model_undo_51 : decode m_Model_undo.2.1 51 = .ok (.iload_n 1, 1) := by decide +kernel
theorem d_Model_undo_52 : decode m_Model_undo.2.1 52 = .ok (.iadd, 1) := by decide +kernel
theorem d_Model_undo_53 : decode m_Model_undo.2.1 53 = .ok (.iaload, 1) := by decide +kernel
theorem d_Model_undo_54 : decode m_Model_undo.2.1 54 = .ok (.iastore, 1) := by decide +kernel
theorem d_Model_undo_55 : decode m_Model_undo.2.1 55 = .ok (.iinc 1 1, 3) := by decide +kernel
theorem d_Model_undo_58 : decode m_Model_undo.2.1 58 = .ok (.goto (-31), 3) := by decide +kernel
theorem d_Model_undo_61 : decode m_Model_undo.2.1 61 = .ok (.aload_n 0, 1) := by decide +kernel
theorem d_Model_undo_62 : decode m_Model_undo.2.1 62 = .ok (.getfield 142, 3) := by decide +kernel
theorem d_Model_undo_65 : decode m_Model_undo.2.1 65 = .ok (.ireturn, 1) := by decide +kernel
theorem d_Model_shared_0 : decode m_Model_shared.2.1 0 = .ok (.aload_n 0, 1) := by decide +kernel
theorem d_Model_shared_1 : decode m_Model_shared.2.1 1 = .ok (.iconst 0, 1) := by decide +kernel
theorem d_Model_shared_2 : decode m_Model_shared.2.1 2 = .ok (.putfield 75, 3) := by decide +kernel
theorem d_Model_shared_5 : decode m_Model_shared.2.1 5 = .ok (.iload_n 2, 1) := by decide +kernel
theorem d_Model_shared_6 : decode m_Model_shared.2.1 6 = .ok (.iconst 0, 1) := by decide +kernel
theorem d_Model_shared_7 : decode m_Model_shared.2.1 7 = .ok (.iconst 1, 1) := by decide +kernel
theorem d_Model_shared_8 : decode m_Model_shared.2.1 8 = .ok (.invokestatic 78, 3) := by decide +kernel
theorem d_Model_shared_11 : decode m_Model_shared.2.1 11 = .ok (.ifCond .eq 17, 3) := by decide +kernel
theorem d_Model_shared_14 : decode m_Model_shared.2.1 14 = .ok (.iload_n 1, 1) := by decide +kernel
theorem d_Model_shared_15 : decode m_Model_shared.2.1 15 = .ok (.ifCond .lt 13, 3) := by decide +kernel
theorem d_Model_shared_18 : decode m_Model_shared.2.1 18 = .ok (.aload_n 0, 1) := by decide +kernel
theorem d_Model_shared_19 : decode m_Model_shared.2.1 19 = .ok (.iload_n 1, 1) := by decide +kernel
theorem d_Model_shared_20 : decode m_Model_shared.2.1 20 = .ok (.invokevirtual 260, 3) := by decide +kernel
theorem d_Model_shared_23 : decode m_Model_shared.2.1 23 = .ok (.bipush (-9), 2) := by decide +kernel
theorem d_Model_shared_25 : decode m_Model_shared.2.1 25 = .ok (.if_icmp .ne 5, 3) := by decide +kernel
theorem d_Model_shared_28 : decode m_Model_shared.2.1 28 = .ok (.iconst (-1), 1) := by decide +kernel
theorem d_Model_shared_29 : decode m_Model_shared.2.1 29 = .ok (.ireturn, 1) := by decide +kernel
theorem d_Model_shared_30 : decode m_Model_shared.2.1 30 = .ok (.iload_n 2, 1) := by decide +kernel
theorem d_Model_shared_31 : decode m_Model_shared.2.1 31 = .ok (.ifCond .ne 11, 3) := by decide +kernel
theorem d_Model_shared_34 : decode m_Model_shared.2.1 34 = .ok (.aload_n 0, 1) := by decide +kernel
theorem d_Model_shared_35 : decode m_Model_shared.2.1 35 = .ok (.iload_n 1, 1) := by decide +kernel
theorem d_Model_shared_36 : decode m_Model_shared.2.1 36 = .ok (.invokevirtual 260, 3) := by decide +kernel
theorem d_Model_shared_39 : decode m_Model_shared.2.1 39 = .ok (.goto 12, 3) := by decide +kernel
theorem d_Model_shared_42 : decode m_Model_shared.2.1 42 = .ok (.aload_n 0, 1) := by decide +kernel
theorem d_Model_shared_43 : decode m_Model_shared.2.1 43 = .ok (.aload_n 0, 1) := by decide +kernel
theorem d_Model_shared_44 : decode m_Model_shared.2.1 44 = .ok (.iload_n 1, 1) := by decide +kernel
theorem d_Model_shared_45 : decode m_Model_shared.2.1 45 = .ok (.invokevirtual 260, 3) := by decide +kernel
theorem d_Model_shared_48 : decode m_Model_shared.2.1 48 = .ok (.invokevirtual 257, 3) := by decide +kernel
theorem d_Model_shared_51 : decode m_Model_shared.2.1 51 = .ok (.ireturn, 1) := by decide +kernel
theorem d_Model_sharedFirst_0 : decode m_Model_sharedFirst.2.1 0 = .ok (.iconst 0, 1) := by decide +kernel
theorem d_Model_sharedFirst_1 : decode m_Model_sharedFirst.2.1 1 = .ok (.istore_n 2, 1) := by decide +kernel
theorem d_Model_sharedFirst_2 : decode m_Model_sharedFirst.2.1 2 = .ok (.iconst 0, 1) := by decide +kernel
theorem d_Model_sharedFirst_3 : decode m_Model_sharedFirst.2.1 3 = .ok (.istore_n 3, 1) := by decide +kernel
theorem d_Model_sharedFirst_4 : decode m_Model_sharedFirst.2.1 4 = .ok (.iload_n 3, 1) := by decide +kernel
theorem d_Model_sharedFirst_5 : decode m_Model_sharedFirst.2.1 5 = .ok (.aload_n 0, 1) := by decide +kernel
theorem d_Model_sharedFirst_6 : decode m_Model_sharedFirst.2.1 6 = .ok (.getfield 16, 3) := by decide +kernel
theorem d_Model_sharedFirst_9 : decode m_Model_sharedFirst.2.1 9 = .ok (.iconst 0, 1) := by decide +kernel
theorem d_Model_sharedFirst_10 : decode m_Model_sharedFirst.2.1 10 = .ok (.iaload, 1) := by decide +kernel
theorem d_Model_sharedFirst_11 : decode m_Model_sharedFirst.2.1 11 = .ok (.if_icmp .ge 58, 3) := by decide +kernel
theorem d_Model_sharedFirst_14 : decode m_Model_sharedFirst.2.1 14 = .ok (.aload_n 0, 1) := by decide +kernel
theorem d_Model_sharedFirst_15 : decode m_Model_sharedFirst.2.1 15 = .ok (.iload_n 3, 1) := by decide +kernel
theorem d_Model_sharedFirst_16 : decode m_Model_sharedFirst.2.1 16 = .ok (.invokevirtual 151, 3) := by decide +kernel
theorem d_Model_sharedFirst_19 : decode m_Model_sharedFirst.2.1 19 = .ok (.ifCond .ne 44, 3) := by decide +kernel
theorem d_Model_sharedFirst_22 : decode m_Model_sharedFirst.2.1 22 = .ok (.aload_n 0, 1) := by decide +kernel
theorem d_Model_sharedFirst_23 : decode m_Model_sharedFirst.2.1 23 = .ok (.iload_n 3, 1) := by decide +kernel
theorem d_Model_sharedFirst_24 : decode m_Model_sharedFirst.2.1 24 = .ok (.invokevirtual 178, 3) := by decide +kernel
theorem d_Model_sharedFirst_27 : decode m_Model_sharedFirst.2.1 27 = .ok (.ifCond .ne 36, 3) := by decide +kernel
theorem d_Model_sharedFirst_30 : decode m_Model_sharedFirst.2.1 30 = .ok (.aload_n 0, 1) := by decide +kernel
theorem d_Model_sharedFirst_31 : decode m_Model_sharedFirst.2.1 31 = .ok (.iload_n 3, 1) := by decide +kernel
theorem d_Model_sharedFirst_32 : decode m_Model_sharedFirst.2.1 32 = .ok (.invokevirtual 181, 3) := by decide +kernel
theorem d_Model_sharedFirst_35 : decode m_Model_sharedFirst.2.1 35 = .ok (.iload_n 3, 1) := by decide +kernel
theorem d_Model_sharedFirst_36 : decode m_Model_sharedFirst.2.1 36 = .ok (.if_icmp .ne 27, 3) := by decide +kernel
theorem d_Model_sharedFirst_39 : decode m_Model_sharedFirst.2.1 39 = .ok (.aload_n 0, 1) := by decide +kernel
theorem d_Model_sharedFirst_40 : decode m_Model_sharedFirst.2.1 40 = .ok (.iload_n 3, 1) := by decide +kernel
theorem d_Model_sharedFirst_41 : decode m_Model_sharedFirst.2.1 41 = .ok (.invokevirtual 257, 3) := by decide +kernel
theorem d_Model_sharedFirst_44 : decode m_Model_sharedFirst.2.1 44 = .ok (.iconst 1, 1) := by decide +kernel
theorem d_Model_sharedFirst_45 : decode m_Model_sharedFirst.2.1 45 = .ok (.if_icmp .le 18, 3) := by decide +kernel
theorem d_Model_sharedFirst_48 : decode m_Model_sharedFirst.2.1 48 = .ok (.iload_n 2, 1) := by decide +kernel
theorem d_Model_sharedFirst_49 : decode m_Model_sharedFirst.2.1 49 = .ok (.iload_n 1, 1) := by decide +kernel
theorem d_Model_sharedFirst_50 : decode m_Model_sharedFirst.2.1 50 = .ok (.if_icmp .ne 10, 3) := by decide +kernel
theorem d_Model_sharedFirst_53 : decode m_Model_sharedFirst.2.1 53 = .ok (.iload_n 1, 1) := by decide +kernel
theorem d_Model_sharedFirst_54 : decode m_Model_sharedFirst.2.1 54 = .ok (.iconst 5, 1) := by decide +kernel
theorem d_Model_sharedFirst_55 : decode m_Model_sharedFirst.2.1 55 = .ok (.if_icmp .ge 5, 3) := by decide +kernel
theorem d_Model_sharedFirst_58 : decode m_Model_sharedFirst.2.1 58 = .ok (.iload_n 3, 1) := by decide +kernel
theorem d_Model_sharedFirst_59 : decode m_Model_sharedFirst.2.1 59 = .ok (.ireturn, 1) := by decide +kernel
theorem d_Model_sharedFirst_60 : decode m_Model_sharedFirst.2.1 60 = .ok (.iinc 2 1, 3) := by decide +kernel
theorem d_Model_sharedFirst_63 : decode m_Model_sharedFirst.2.1 63 = .ok (.iinc 3 1, 3) := by decide +kernel
theorem d_Model_sharedFirst_66 : decode m_Model_sharedFirst.2.1 66 = .ok (.goto (-62), 3) := by decide +kernel
theorem d_Model_sharedFirst_69 : decode m_Model_sharedFirst.2.1 69 = .ok (.bipush (-9), 2) := by decide +kernel
theorem d_Model_sharedFirst_71 : decode m_Model_sharedFirst.2.1 71 = .ok (.ireturn, 1) := by decide +kernel
theorem d_Model_occurs_0 : decode m_Model_occurs.2.1 0 = .ok (.iconst 0, 1) := by decide +kernel
theorem d_Model_occurs_1 : decode m_Model_occurs.2.1 1 = .ok (.istore_n 2, 1) := by decide +kernel
theorem d_Model_occurs_2 : decode m_Model_occurs.2.1 2 = .ok (.iconst 0, 1) := by decide +kernel
theorem d_Model_occurs_3 : decode m_Model_occurs.2.1 3 = .ok (.istore_n 3, 1) := by decide +kernel
theorem d_Model_occurs_4 : decode m_Model_occurs.2.1 4 = .ok (.iload_n 3, 1) := by decide +kernel
theorem d_Model_occurs_5 : decode m_Model_occurs.2.1 5 = .ok (.aload_n 0, 1) := by decide +kernel
theorem d_Model_occurs_6 : decode m_Model_occurs.2.1 6 = .ok (.getfield 16, 3) := by decide +kernel
theorem d_Model_occurs_9 : decode m_Model_occurs.2.1 9 = .ok (.iconst 0, 1) := by decide +kernel
theorem d_Model_occurs_10 : decode m_Model_occurs.2.1 10 = .ok (.iaload, 1) := by decide +kernel
theorem d_Model_occurs_11 : decode m_Model_occurs.2.1 11 = .ok (.if_icmp .ge 26, 3) := by decide +kernel
theorem d_Model_occurs_14 : decode m_Model_occurs.2.1 14 = .ok (.iload_n 2, 1) := by decide +kernel
theorem d_Model_occurs_15 : decode m_Model_occurs.2.1 15 = .ok (.aload_n 0, 1) := by decide +kernel
theorem d_Model_occurs_16 : decode m_Model_occurs.2.1 16 = .ok (.iload_n 3, 1) := by decide +kernel
theorem d_Model_occurs_17 : decode m_Model_occurs.2.1 17 = .ok (.iload_n 1, 1) := by decide +kernel
theorem d_Model_occurs_18 : decode m_Model_occurs.2.1 18 = .ok (.invokevirtual 168, 3) := by decide +kernel
theorem d_Model_occurs_21 : decode m_Model_occurs.2.1 21 = .ok (.ifCond .eq 7, 3) := by decide +kernel
theorem d_Model_occurs_24 : decode m_Model_occurs.2.1 24 = .ok (.iconst 1, 1) := by decide +kernel
theorem d_Model_occurs_25 : decode m_Model_occurs.2.1 25 = .ok (.goto 4, 3) := by decide +kernel
theorem d_Model_occurs_28 : decode m_Model_occurs.2.1 28 = .ok (.iconst 0, 1) := by decide +kernel
theorem d_Model_occurs_29 : decode m_Model_occurs.2.1 29 = .ok (.iadd, 1) := by decide +kernel
theorem d_Model_occurs_30 : decode m_Model_occurs.2.1 30 = .ok (.istore_n 2, 1) := by decide +kernel
theorem d_Model_occurs_31 : decode m_Model_occurs.2.1 31 = .ok (.iinc 3 1, 3) := by decide +kernel
theorem d_Model_occurs_34 : decode m_Model_occurs.2.1 34 = .ok (.goto (-30), 3) := by decide +kernel
theorem d_Model_occurs_37 : decode m_Model_occurs.2.1 37 = .ok (.iload_n 2, 1) := by decide +kernel
theorem d_Model_occurs_38 : decode m_Model_occurs.2.1 38 = .ok (.ireturn, 1) := by decide +kernel
theorem d_Model_cheapest_0 : decode m_Model_cheapest.2.1 0 = .ok (.aload_n 0, 1) := by decide +kernel
theorem d_Model_cheapest_1 : decode m_Model_cheapest.2.1 1 = .ok (.iconst 0, 1) := by decide +kernel
theorem d_Model_cheapest_2 : decode m_Model_cheapest.2.1 2 = .ok (.putfield 75, 3) := by decide +kernel
theorem d_Model_cheapest_5 : decode m_Model_cheapest.2.1 5 = .ok (.aload_n 0, 1) := by decide +kernel
theorem d_Model_cheapest_6 : decode m_Model_cheapest.2.1 6 = .ok (.getfield 16, 3) := by decide +kernel
theorem d_Model_cheapest_9 : decode m_Model_cheapest.2.1 9 = .ok (.iconst 0, 1) := by decide +kernel
theorem d_Model_cheapest_10 : decode m_Model_cheapest.2.1 10 = .ok (.iaload, 1) := by decide +kernel
theorem d_Model_cheapest_11 : decode m_Model_cheapest.2.1 11 = .ok (.ifCond .ne 6, 3) := by decide +kernel
theorem d_Model_cheapest_14 : decode m_Model_cheapest.2.1 14 = .ok (.bipush (-2), 2) := by decide +kernel
theorem d_Model_cheapest_16 : decode m_Model_cheapest.2.1 16 = .ok (.ireturn, 1) := by decide +kernel
theorem d_Model_cheapest_17 : decode m_Model_cheapest.2.1 17 = .ok (.iload_n 1, 1) := by decide +kernel
theorem d_Model_cheapest_18 : decode m_Model_cheapest.2.1 18 = .ok (.iconst 0, 1) := by decide +kernel
theorem d_Model_cheapest_19 : decode m_Model_cheapest.2.1 19 = .ok (.iconst 1, 1) := by decide +kernel
theorem d_Model_cheapest_20 : decode m_Model_cheapest.2.1 20 = .ok (.invokestatic 78, 3) := by decide +kernel
theorem d_Model_cheapest_23 : decode m_Model_cheapest.2.1 23 = .ok (.ifCond .ne 5, 3) := by decide +kernel
theorem d_Model_cheapest_26 : decode m_Model_cheapest.2.1 26 = .ok (.iconst (-1), 1) := by decide +kernel
theorem d_Model_cheapest_27 : decode m_Model_cheapest.2.1 27 = .ok (.ireturn, 1) := by decide +kernel
theorem d_Model_cheapest_28 : decode m_Model_cheapest.2.1 28 = .ok (.iconst 0, 1) := by decide +kernel
theorem d_Model_cheapest_29 : decode m_Model_cheapest.2.1 29 = .ok (.istore_n 2, 1) := by decide +kernel
theorem d_Model_cheapest_30 : decode m_Model_cheapest.2.1 30 = .ok (.aload_n 0, 1) := by decide +kernel
theorem d_Model_cheapest_31 : decode m_Model_cheapest.2.1 31 = .ok (.iconst 0, 1) := by decide +kernel
theorem d_Model_cheapest_32 : decode m_Model_cheapest.2.1 32 = .ok (.invokevirtual 266, 3) := by decide +kernel
theorem d_Model_cheapest_35 : decode m_Model_cheapest.2.1 35 = .ok (.istore_n 3, 1) := by decide +kernel
theorem d_Model_cheapest_36 : decode m_Model_cheapest.2.1 36 = .ok (.iconst 1, 1) := by decide +kernel
theorem d_Model_cheapest_37 : decode m_Model_cheapest.2.1 37 = .ok (.istore 4, 2) := by decide +kernel
theorem d_Model_cheapest_39 : decode m_Model_cheapest.2.1 39 = .ok (.iload 4, 2) := by decide +kernel
theorem d_Model_cheapest_41 : decode m_Model_cheapest.2.1 41 = .ok (.iconst 1, 1) := by decide +kernel
theorem d_Model_cheapest_42 : decode m_Model_cheapest.2.1 42 = .ok (.aload_n 0, 1) := by decide +kernel
theorem d_Model_cheapest_43 : decode m_Model_cheapest.2.1 43 = .ok (.invokevirtual 269, 3) := by decide +kernel
theorem d_Model_cheapest_46 : decode m_Model_cheapest.2.1 46 = .ok (.ishl, 1) := by decide +kernel
theorem d_Model_cheapest_47 : decode m_Model_cheapest.2.1 47 = .ok (.if_icmp .ge 43, 3) := by decide +kernel
theorem d_Model_cheapest_50 : decode m_Model_cheapest.2.1 50 = .ok (.aload_n 0, 1) := by decide +kernel
theorem d_Model_cheapest_51 : decode m_Model_cheapest.2.1 51 = .ok (.iload 4, 2) := by decide +kernel
theorem d_Model_cheapest_53 : decode m_Model_cheapest.2.1 53 = .ok (.invokevirtual 266, 3) := by decide +kernel
theorem d_Model_cheapest_56 : decode m_Model_cheapest.2.1 56 = .ok (.istore 5, 2) := by decide +kernel
theorem d_Model_cheapest_58 : decode m_Model_cheapest.2.1 58 = .ok (.iload 5, 2) := by decide +kernel
theorem d_Model_cheapest_60 : decode m_Model_cheapest.2.1 60 = .ok (.iload_n 3, 1) := by decide +kernel
theorem d_Model_cheapest_61 : decode m_Model_cheapest.2.1 61 = .ok (.if_icmp .ge 8, 3) := by decide +kernel
theorem d_Model_cheapest_64 : decode m_Model_cheapest.2.1 64 = .ok (.iload 4, 2) := by decide +kernel
theorem d_Model_cheapest_66 : decode m_Model_cheapest.2.1 66 = .ok (.goto 4, 3) := by decide +kernel
theorem d_Model_cheapest_69 : decode m_Model_cheapest.2.1 69 = .ok (.iload_n 2, 1) := by decide +kernel
theorem d_Model_cheapest_70 : decode m_Model_cheapest.2.1 70 = .ok (.istore_n 2, 1) := by decide +kernel
theorem d_Model_cheapest_71 : decode m_Model_cheapest.2.1 71 = .ok (.iload 5, 2) := by decide +kernel
theorem d_Model_cheapest_73 : decode m_Model_cheapest.2.1 73 = .ok (.iload_n 3, 1) := by decide +kernel
theorem d_Model_cheapest_74 : decode m_Model_cheapest.2.1 74 = .ok (.if_icmp .ge 8, 3) := by decide +kernel
theorem d_Model_cheapest_77 : decode m_Model_cheapest.2.1 77 = .ok (.iload 5, 2) := by decide +kernel
theorem d_Model_cheapest_79 : decode m_Model_cheapest.2.1 79 = .ok (.goto 4, 3) := by decide +kernel
theorem d_Model_cheapest_82 : decode m_Model_cheapest.2.1 82 = .ok (.iload_n 3, 1) := by decide +kernel
theorem d_Model_cheapest_83 : decode m_Model_cheapest.2.1 83 = .ok (.istore_n 3, 1) := by decide +kernel
theorem d_Model_cheapest_84 : decode m_Model_cheapest.2.1 84 = .ok (.iinc 4 1, 3) := by decide +kernel
theorem d_Model_cheapest_87 : decode m_Model_cheapest.2.1 87 = .ok (.goto (-48), 3) := by decide +kernel
theorem d_Model_cheapest_90 : decode m_Model_cheapest.2.1 90 = .ok (.iload_n 1, 1) := by decide +kernel
theorem d_Model_cheapest_91 : decode m_Model_cheapest.2.1 91 = .ok (.ifCond .ne 7, 3) := by decide +kernel
theorem d_Model_cheapest_94 : decode m_Model_cheapest.2.1 94 = .ok (.iload_n 3, 1) := by decide +kernel
theorem d_Model_cheapest_95 : decode m_Model_cheapest.2.1 95 = .ok (.goto 4, 3) := by decide +kernel
theorem d_Model_cheapest_98 : decode m_Model_cheapest.2.1 98 = .ok (.iload_n 2, 1) := by decide +kernel
theorem d_Model_cheapest_99 : decode m_Model_cheapest.2.1 99 = .ok (.ireturn, 1) := by decide +kernel
theorem d_Model_costBySet_0 : decode m_Model_costBySet.2.1 0 = .ok (.iconst 0, 1) := by decide +kernel
theorem d_Model_costBySet_1 : decode m_Model_costBySet.2.1 1 = .ok (.istore_n 2, 1) := by decide +kernel
theorem d_Model_costBySet_2 : decode m_Model_costBySet.2.1 2 = .ok (.iconst 0, 1) := by decide +kernel
theorem d_Model_costBySet_3 : decode m_Model_costBySet.2.1 3 = .ok (.istore_n 3, 1) := by decide +kernel
theorem d_Model_costBySet_4 : decode m_Model_costBySet.2.1 4 = .ok (.iload_n 3, 1) := by decide +kernel
theorem d_Model_costBySet_5 : decode m_Model_costBySet.2.1 5 = .ok (.aload_n 0, 1) := by decide +kernel
theorem d_Model_costBySet_6 : decode m_Model_costBySet.2.1 6 = .ok (.getfield 16, 3) := by decide +kernel
theorem d_Model_costBySet_9 : decode m_Model_costBySet.2.1 9 = .ok (.iconst 0, 1) := by decide +kernel
theorem d_Model_costBySet_10 : decode m_Model_costBySet.2.1 10 = .ok (.iaload, 1) := by decide +kernel
theorem d_Model_costBySet_11 : decode m_Model_costBySet.2.1 11 = .ok (.if_icmp .ge 20, 3) := by decide +kernel
theorem d_Model_costBySet_14 : decode m_Model_costBySet.2.1 14 = .ok (.aload_n 0, 1) := by decide +kernel
theorem d_Model_costBySet_15 : decode m_Model_costBySet.2.1 15 = .ok (.getfield 41, 3) := by decide +kernel
theorem d_Model_costBySet_18 : decode m_Model_costBySet.2.1 18 = .ok (.iload_n 3, 1) := by decide +kernel
theorem d_Model_costBySet_19 : decode m_Model_costBySet.2.1 19 = .ok (.aload_n 0, 1) := by decide +kernel
theorem d_Model_costBySet_20 : decode m_Model_costBySet.2.1 20 = .ok (.iload_n 3, 1) := by decide +kernel
theorem d_Model_costBySet_21 : decode m_Model_costBySet.2.1 21 = .ok (.invokevirtual 151, 3) := by decide +kernel
theorem d_Model_costBySet_24 : decode m_Model_costBySet.2.1 24 = .ok (.bastore, 1) := by decide +kernel
theorem d_Model_costBySet_25 : decode m_Model_costBySet.2.1 25 = .ok (.iinc 3 1, 3) := by decide +kernel
theorem d_Model_costBySet_28 : decode m_Model_costBySet.2.1 28 = .ok (.goto (-24), 3) := by decide +kernel
theorem d_Model_costBySet_31 : decode m_Model_costBySet.2.1 31 = .ok (.iconst 0, 1) := by decide +kernel
theorem d_Model_costBySet_32 : decode m_Model_costBySet.2.1 32 = .ok (.istore_n 3, 1) := by decide +kernel
theorem d_Model_costBySet_33 : decode m_Model_costBySet.2.1 33 = .ok (.iload_n 3, 1) := by decide +kernel
theorem d_Model_costBySet_34 : decode m_Model_costBySet.2.1 34 = .ok (.iconst 5, 1) := by decide +kernel
theorem d_Model_costBySet_35 : decode m_Model_costBySet.2.1 35 = .ok (.if_icmp .ge 107, 3) := by decide +kernel
theorem d_Model_costBySet_38 : decode m_Model_costBySet.2.1 38 = .ok (.iload_n 1, 1) := by decide +kernel
theorem d_Model_costBySet_39 : decode m_Model_costBySet.2.1 39 = .ok (.iload_n 3, 1) := by decide +kernel
theorem d_Model_costBySet_40 : decode m_Model_costBySet.2.1 40 = .ok (.invokestatic 263, 3) := by decide +kernel
theorem d_Model_costBySet_43 : decode m_Model_costBySet.2.1 43 = .ok (.ifCond .eq 93, 3) := by decide +kernel
theorem d_Model_costBySet_46 : decode m_Model_costBySet.2.1 46 = .ok (.aload_n 0, 1) := by decide +kernel
theorem d_Model_costBySet_47 : decode m_Model_costBySet.2.1 47 = .ok (.iload_n 3, 1) := by decide +kernel
theorem d_Model_costBySet_48 : decode m_Model_costBySet.2.1 48 = .ok (.invokevirtual 260, 3) := by decide +kernel
theorem d_Model_costBySet_51 : decode m_Model_costBySet.2.1 51 = .ok (.istore 4, 2) := by decide +kernel
theorem d_Model_costBySet_53 : decode m_Model_costBySet.2.1 53 = .ok (.aload_n 0, 1) := by decide +kernel
theorem d_Model_costBySet_54 : decode m_Model_costBySet.2.1 54 = .ok (.invokevirtual 207, 3) := by decide +kernel
theorem d_Model_costBySet_57 : decode m_Model_costBySet.2.1 57 = .ok (.iload_n 2, 1) := by decide +kernel
theorem d_Model_costBySet_58 : decode m_Model_costBySet.2.1 58 = .ok (.aload_n 0, 1) := by decide +kernel
theorem d_Model_costBySet_59 : decode m_Model_costBySet.2.1 59 = .ok (.iload 4, 2) := by decide +kernel
theorem d_Model_costBySet_61 : decode m_Model_costBySet.2.1 61 = .ok (.aload_n 0, 1) := by decide +kernel
theorem d_Model_costBySet_62 : decode m_Model_costBySet.2.1 62 = .ok (.getfield 16, 3) := by decide +kernel
theorem d_Model_costBySet_65 : decode m_Model_costBySet.2.1 65 = .ok (.sipush 133, 3) := by decide +kernel
theorem d_Model_costBySet_68 : decode m_Model_costBySet.2.1 68 = .ok (.iaload, 1) := by decide +kernel
theorem d_Model_costBySet_69 : decode m_Model_costBySet.2.1 69 = .ok (.invokevirtual 197, 3) := by decide +kernel
theorem d_Model_costBySet_72 : decode m_Model_costBySet.2.1 72 = .ok (.aload_n 0, 1) := by decide +kernel
theorem d_Model_costBySet_73 : decode m_Model_costBySet.2.1 73 = .ok (.getfield 16, 3) := by decide +kernel
theorem d_Model_costBySet_76 : decode m_Model_costBySet.2.1 76 = .ok (.sipush 135, 3) := by decide +kernel
theorem d_Model_costBySet_79 : decode m_Model_costBySet.2.1 79 = .ok (.iaload, 1) := by decide +kernel
theorem d_Model_costBySet_80 : decode m_Model_costBySet.2.1 80 = .ok (.iadd, 1) := by decide +kernel
theorem d_Model_costBySet_81 : decode m_Model_costBySet.2.1 81 = .ok (.iadd, 1) := by decide +kernel
theorem d_Model_costBySet_82 : decode m_Model_costBySet.2.1 82 = .ok (.istore_n 2, 1) := by decide +kernel
theorem d_Model_costBySet_83 : decode m_Model_costBySet.2.1 83 = .ok (.iconst 0, 1) := by decide +kernel
theorem d_Model_costBySet_84 : decode m_Model_costBySet.2.1 84 = .ok (.istore 5, 2) := by decide +kernel
theorem d_Model_costBySet_86 : decode m_Model_costBySet.2.1 86 = .ok (.iload 5, 2) := by decide +kernel
theorem d_Model_costBySet_88 : decode m_Model_costBySet.2.1 88 = .ok (.aload_n 0, 1) := by decide +kernel
theorem d_Model_costBySet_89 : decode m_Model_costBySet.2.1 89 = .ok (.getfield 16, 3) := by decide +kernel
theorem d_Model_costBySet_92 : decode m_Model_costBySet.2.1 92 = .ok (.iconst 0, 1) := by decide +kernel
theorem d_Model_costBySet_93 : decode m_Model_costBySet.2.1 93 = .ok (.iaload, 1) := by decide +kernel
theorem d_Model_costBySet_94 : decode m_Model_costBySet.2.1 94 = .ok (.if_icmp .ge 42, 3) := by decide +kernel
theorem d_Model_costBySet_97 : decode m_Model_costBySet.2.1 97 = .ok (.aload_n 0, 1) := by decide +kernel
theorem d_Model_costBySet_98 : decode m_Model_costBySet.2.1 98 = .ok (.getfield 41, 3) := by decide +kernel
theorem d_Model_costBySet_101 : decode m_Model_costBySet.2.1 101 = .ok (.iload 5, 2) := by decide +kernel
theorem d_Model_costBySet_103 : decode m_Model_costBySet.2.1 103 = .ok (.aload_n 0, 1) := by decide +kernel
theorem d_Model_costBySet_104 : decode m_Model_costBySet.2.1 104 = .ok (.getfield 41, 3) := by decide +kernel
theorem d_Model_costBySet_107 : decode m_Model_costBySet.2.1 107 = .ok (.iload 5, 2) := by decide +kernel
theorem d_Model_costBySet_109 : decode m_Model_costBySet.2.1 109 = .ok (.baload, 1) := by decide +kernel
theorem d_Model_costBySet_110 : decode m_Model_costBySet.2.1 110 = .ok (.ifCond .ne 14, 3) := by decide +kernel
theorem d_Model_costBySet_113 : decode m_Model_costBySet.2.1 113 = .ok (.aload_n 0, 1) := by decide +kernel
theorem d_Model_costBySet_114 : decode m_Model_costBySet.2.1 114 = .ok (.iload 5, 2) := by decide +kernel
theorem d_Model_costBySet_116 : decode m_Model_costBySet.2.1 116 = .ok (.iload 4, 2) := by decide +kernel
theorem d_Model_costBySet_118 : decode m_Model_costBySet.2.1 118 = .ok (.invokevirtual 168, 3) := by decide +kernel
theorem d_Model_costBySet_121 : decode m_Model_costBySet.2.1 121 = .ok (.ifCond .eq 7, 3) := by decide +kernel
theorem d_Model_costBySet_124 : decode m_Model_costBySet.2.1 124 = .ok (.iconst 1, 1) := by decide +kernel
theorem d_Model_costBySet_125 : decode m_Model_costBySet.2.1 125 = .ok (.goto 4, 3) := by decide +kernel
theorem d_Model_costBySet_128 : decode m_Model_costBySet.2.1 128 = .ok (.iconst 0, 1) := by decide +kernel
theorem d_Model_costBySet_129 : decode m_Model_costBySet.2.1 129 = .ok (.bastore, 1) := by decide +kernel
theorem d_Model_costBySet_130 : decode m_Model_costBySet.2.1 130 = .ok (.iinc 5 1, 3) := by decide +kernel
theorem d_Model_costBySet_133 : decode m_Model_costBySet.2.1 133 = .ok (.goto (-47), 3) := by decide +kernel
theorem d_Model_costBySet_136 : decode m_Model_costBySet.2.1 136 = .ok (.iinc 3 1, 3) := by decide +kernel
theorem d_Model_costBySet_139 : decode m_Model_costBySet.2.1 139 = .ok (.goto (-106), 3) := by decide +kernel
theorem d_Model_costBySet_142 : decode m_Model_costBySet.2.1 142 = .ok (.aload_n 0, 1) := by decide +kernel
theorem d_Model_costBySet_143 : decode m_Model_costBySet.2.1 143 = .ok (.invokevirtual 207, 3) := by decide +kernel
theorem d_Model_costBySet_146 : decode m_Model_costBySet.2.1 146 = .ok (.iload_n 2, 1) := by decide +kernel
theorem d_Model_costBySet_147 : decode m_Model_costBySet.2.1 147 = .ok (.aload_n 0, 1) := by decide +kernel
theorem d_Model_costBySet_148 : decode m_Model_costBySet.2.1 148 = .ok (.aload_n 0, 1) := by decide +kernel
theorem d_Model_costBySet_149 : decode m_Model_costBySet.2.1 149 = .ok (.getfield 16, 3) := by decide +kernel
theorem d_Model_costBySet_152 : decode m_Model_costBySet.2.1 152 = .ok (.iconst 0, 1) := by decide +kernel
theorem d_Model_costBySet_153 : decode m_Model_costBySet.2.1 153 = .ok (.iaload, 1) := by decide +kernel
theorem d_Model_costBySet_154 : decode m_Model_costBySet.2.1 154 = .ok (.iconst 1, 1) := by decide +kernel
theorem d_Model_costBySet_155 : decode m_Model_costBySet.2.1 155 = .ok (.isub, 1) := by decide +kernel
theorem d_Model_costBySet_156 : decode m_Model_costBySet.2.1 156 = .ok (.aload_n 0, 1) := by decide +kernel
theorem d_Model_costBySet_157 : decode m_Model_costBySet.2.1 157 = .ok (.getfield 16, 3) := by decide +kernel
theorem d_Model_costBySet_160 : decode m_Model_costBySet.2.1 160 = .ok (.sipush 133, 3) := by decide +kernel
theorem d_Model_costBySet_163 : decode m_Model_costBySet.2.1 163 = .ok (.iaload, 1) := by decide +kernel
theorem d_Model_costBySet_164 : decode m_Model_costBySet.2.1 164 = .ok (.invokevirtual 197, 3) := by decide +kernel
theorem d_Model_costBySet_167 : decode m_Model_costBySet.2.1 167 = .ok (.iadd, 1) := by decide +kernel
theorem d_Model_costBySet_168 : decode m_Model_costBySet.2.1 168 = .ok (.ireturn, 1) := by decide +kernel
theorem d_Model_has_0 : decode m_Model_has.2.1 0 = .ok (.iload_n 0, 1) := by decide +kernel
theorem d_Model_has_1 : decode m_Model_has.2.1 1 = .ok (.iload_n 1, 1) := by decide +kernel
theorem d_Model_has_2 : decode m_Model_has.2.1 2 = .ok (.ishr, 1) := by decide +kernel
theorem d_Model_has_3 : decode m_Model_has.2.1 3 = .ok (.iconst 1, 1) := by decide +kernel
theorem d_Model_has_4 : decode m_Model_has.2.1 4 = .ok (.iand, 1) := by decide +kernel
theorem d_Model_has_5 : decode m_Model_has.2.1 5 = .ok (.iconst 1, 1) := by decide +kernel
theorem d_Model_has_6 : decode m_Model_has.2.1 6 = .ok (.if_icmp .ne 7, 3) := by decide +kernel
theorem d_Model_has_9 : decode m_Model_has.2.1 9 = .ok (.iconst 1, 1) := by decide +kernel
theorem d_Model_has_10 : decode m_Model_has.2.1 10 = .ok (.goto 4, 3) := by decide +kernel
theorem d_Model_has_13 : decode m_Model_has.2.1 13 = .ok (.iconst 0, 1) := by decide +kernel
theorem d_Model_has_14 : decode m_Model_has.2.1 14 = .ok (.ireturn, 1) := by decide +kernel
theorem d_Model_sharedMany_0 : decode m_Model_sharedMany.2.1 0 = .ok (.iconst 0, 1) := by decide +kernel
theorem d_Model_sharedMany_1 : decode m_Model_sharedMany.2.1 1 = .ok (.istore_n 1, 1) := by decide +kernel
theorem d_Model_sharedMany_2 : decode m_Model_sharedMany.2.1 2 = .ok (.aload_n 0, 1) := by decide +kernel
theorem d_Model_sharedMany_3 : decode m_Model_sharedMany.2.1 3 = .ok (.iload_n 1, 1) := by decide +kernel
theorem d_Model_sharedMany_4 : decode m_Model_sharedMany.2.1 4 = .ok (.invokevirtual 260, 3) := by decide +kernel
theorem d_Model_sharedMany_7 : decode m_Model_sharedMany.2.1 7 = .ok (.bipush (-9), 2) := by decide +kernel
theorem d_Model_sharedMany_9 : decode m_Model_sharedMany.2.1 9 = .ok (.if_icmp .eq 9, 3) := by decide +kernel
theorem d_Model_sharedMany_12 : decode m_Model_sharedMany.2.1 12 = .ok (.iinc 1 1, 3) := by decide +kernel
theorem d_Model_sharedMany_15 : decode m_Model_sharedMany.2.1 15 = .ok (.goto (-13), 3) := by decide +kernel
theorem d_Model_sharedMany_18 : decode m_Model_sharedMany.2.1 18 = .ok (.iload_n 1, 1) := by decide +kernel
theorem d_Model_sharedMany_19 : decode m_Model_sharedMany.2.1 19 = .ok (.ireturn, 1) := by decide +kernel
theorem d_Model_keep_0 : decode m_Model_keep.2.1 0 = .ok (.aload_n 0, 1) := by decide +kernel
theorem d_Model_keep_1 : decode m_Model_keep.2.1 1 = .ok (.iconst 0, 1) := by decide +kernel
theorem d_Model_keep_2 : decode m_Model_keep.2.1 2 = .ok (.putfield 75, 3) := by decide +kernel
theorem d_Model_keep_5 : decode m_Model_keep.2.1 5 = .ok (.iload_n 1, 1) := by decide +kernel
theorem d_Model_keep_6 : decode m_Model_keep.2.1 6 = .ok (.iconst 0, 1) := by decide +kernel
theorem d_Model_keep_7 : decode m_Model_keep.2.1 7 = .ok (.iconst 1, 1) := by decide +kernel
theorem d_Model_keep_8 : decode m_Model_keep.2.1 8 = .ok (.invokestatic 78, 3) := by decide +kernel
theorem d_Model_keep_11 : decode m_Model_keep.2.1 11 = .ok (.ifCond .ne 5, 3) := by decide +kernel
theorem d_Model_keep_14 : decode m_Model_keep.2.1 14 = .ok (.iconst (-1), 1) := by decide +kernel
theorem d_Model_keep_15 : decode m_Model_keep.2.1 15 = .ok (.ireturn, 1) := by decide +kernel
theorem d_Model_keep_16 : decode m_Model_keep.2.1 16 = .ok (.aload_n 0, 1) := by decide +kernel
theorem d_Model_keep_17 : decode m_Model_keep.2.1 17 = .ok (.getfield 16, 3) := by decide +kernel
theorem d_Model_keep_20 : decode m_Model_keep.2.1 20 = .ok (.iconst 0, 1) := by decide +kernel
theorem d_Model_keep_21 : decode m_Model_keep.2.1 21 = .ok (.iaload, 1) := by decide +kernel
theorem d_Model_keep_22 : decode m_Model_keep.2.1 22 = .ok (.ifCond .ne 6, 3) := by decide +kernel
theorem d_Model_keep_25 : decode m_Model_keep.2.1 25 = .ok (.bipush (-2), 2) := by decide +kernel
theorem d_Model_keep_27 : decode m_Model_keep.2.1 27 = .ok (.ireturn, 1) := by decide +kernel
theorem d_Model_keep_28 : decode m_Model_keep.2.1 28 = .ok (.iconst 0, 1) := by decide +kernel
theorem d_Model_keep_29 : decode m_Model_keep.2.1 29 = .ok (.istore_n 2, 1) := by decide +kernel
theorem d_Model_keep_30 : decode m_Model_keep.2.1 30 = .ok (.iload_n 2, 1) := by decide +kernel
theorem d_Model_keep_31 : decode m_Model_keep.2.1 31 = .ok (.sipush 138, 3) := by decide +kernel
theorem d_Model_keep_34 : decode m_Model_keep.2.1 34 = .ok (.if_icmp .ge 27, 3) := by decide +kernel
theorem d_Model_keep_37 : decode m_Model_keep.2.1 37 = .ok (.aload_n 0, 1) := by decide +kernel
theorem d_Model_keep_38 : decode m_Model_keep.2.1 38 = .ok (.getfield 25, 3) := by decide +kernel
theorem d_Model_keep_41 : decode m_Model_keep.2.1 41 = .ok (.sipush 138, 3) := by decide +kernel
theorem d_Model_keep_44 : decode m_Model_keep.2.1 44 = .ok (.iload_n 1, 1) := by decide +kernel
theorem d_Model_keep_45 : decode m_Model_keep.2.1 45 = .ok (.imul, 1) := by decide +kernel
theorem d_Model_keep_46 : decode m_Model_keep.2.1 46 = .ok (.iload_n 2, 1) := by decide +kernel
theorem d_Model_keep_47 : decode m_Model_keep.2.1 47 = .ok (.iadd, 1) := by decide +kernel
theorem d_Model_keep_48 : decode m_Model_keep.2.1 48 = .ok (.aload_n 0, 1) := by decide +kernel
theorem d_Model_keep_49 : decode m_Model_keep.2.1 49 = .ok (.getfield 16, 3) := by decide +kernel
theorem d_Model_keep_52 : decode m_Model_keep.2.1 52 = .ok (.iload_n 2, 1) := by decide +kernel
theorem d_Model_keep_53 : decode m_Model_keep.2.1 53 = .ok (.iaload, 1) := by decide +kernel
theorem d_Model_keep_54 : decode m_Model_keep.2.1 54 = .ok (.iastore, 1) := by decide +kernel
theorem d_Model_keep_55 : decode m_Model_keep.2.1 55 = .ok (.iinc 2 1, 3) := by decide +kernel
theorem d_Model_keep_58 : decode m_Model_keep.2.1 58 = .ok (.goto (-28), 3) := by decide +kernel
theorem d_Model_keep_61 : decode m_Model_keep.2.1 61 = .ok (.aload_n 0, 1) := by decide +kernel
theorem d_Model_keep_62 : decode m_Model_keep.2.1 62 = .ok (.getfield 28, 3) := by decide +kernel
theorem d_Model_keep_65 : decode m_Model_keep.2.1 65 = .ok (.iload_n 1, 1) := by decide +kernel
theorem d_Model_keep_66 : decode m_Model_keep.2.1 66 = .ok (.iconst 1, 1) := by decide +kernel
theorem d_Model_keep_67 : decode m_Model_keep.2.1 67 = .ok (.bastore, 1) := by decide +kernel
theorem d_Model_keep_68 : decode m_Model_keep.2.1 68 = .ok (.aload_n 0, 1) := by decide +kernel
theorem d_Model_keep_69 : decode m_Model_keep.2.1 69 = .ok (.getfield 16, 3) := by decide +kernel
theorem d_Model_keep_72 : decode m_Model_keep.2.1 72 = .ok (.iconst 0, 1) := by decide +kernel
theorem d_Model_keep_73 : decode m_Model_keep.2.1 73 = .ok (.iaload, 1) := by decide +kernel
theorem d_Model_keep_74 : decode m_Model_keep.2.1 74 = .ok (.ireturn, 1) := by decide +kernel
theorem d_Model_back_0 : decode m_Model_back.2.1 0 = .ok (.aload_n 0, 1) := by decide +kernel
theorem d_Model_back_1 : decode m_Model_back.2.1 1 = .ok (.iconst 0, 1) := by decide +kernel
theorem d_Model_back_2 : decode m_Model_back.2.1 2 = .ok (.putfield 75, 3) := by decide +kernel
theorem d_Model_back_5 : decode m_Model_back.2.1 5 = .ok (.iload_n 1, 1) := by decide +kernel
theorem d_Model_back_6 : decode m_Model_back.2.1 6 = .ok (.iconst 0, 1) := by decide +kernel
theorem d_Model_back_7 : decode m_Model_back.2.1 7 = .ok (.iconst 1, 1) := by decide +kernel
theorem d_Model_back_8 : decode m_Model_back.2.1 8 = .ok (.invokestatic 78, 3) := by decide +kernel
theorem d_Model_back_11 : decode m_Model_back.2.1 11 = .ok (.ifCond .ne 5, 3) := by decide +kernel
theorem d_Model_back_14 : decode m_Model_back.2.1 14 = .ok (.iconst (-1), 1) := by decide +kernel
theorem d_Model_back_15 : decode m_Model_back.2.1 15 = .ok (.ireturn, 1) := by decide +kernel
theorem d_Model_back_16 : decode m_Model_back.2.1 16 = .ok (.aload_n 0, 1) := by decide +kernel
theorem d_Model_back_17 : decode m_Model_back.2.1 17 = .ok (.getfield 28, 3) := by decide +kernel
theorem d_Model_back_20 : decode m_Model_back.2.1 20 = .ok (.iload_n 1, 1) := by decide +kernel
theorem d_Model_back_21 : decode m_Model_back.2.1 21 = .ok (.baload, 1) := by decide +kernel
theorem d_Model_back_22 : decode m_Model_back.2.1 22 = .ok (.ifCond .ne 6, 3) := by decide +kernel
theorem d_Model_back_25 : decode m_Model_back.2.1 25 = .ok (.bipush (-2), 2) := by decide +kernel
theorem d_Model_back_27 : decode m_Model_back.2.1 27 = .ok (.ireturn, 1) := by decide +kernel
theorem d_Model_back_28 : decode m_Model_back.2.1 28 = .ok (.iconst 0, 1) := by decide +kernel
theorem d_Model_back_29 : decode m_Model_back.2.1 29 = .ok (.istore_n 2, 1) := by decide +kernel
theorem d_Model_back_30 : decode m_Model_back.2.1 30 = .ok (.iload_n 2, 1) := by decide +kernel
theorem d_Model_back_31 : decode m_Model_back.2.1 31 = .ok (.sipush 138, 3) := by decide +kernel
theorem d_Model_back_34 : decode m_Model_back.2.1 34 = .ok (.if_icmp .ge 27, 3) := by decide +kernel
theorem d_Model_back_37 : decode m_Model_back.2.1 37 = .ok (.aload_n 0, 1) := by decide +kernel
theorem d_Model_back_38 : decode m_Model_back.2.1 38 = .ok (.getfield 16, 3) := by decide +kernel
theorem d_Model_back_41 : decode m_Model_back.2.1 41 = .ok (.iload_n 2, 1) := by decide +kernel
theorem d_Model_back_42 : decode m_Model_back.2.1 42 = .ok (.aload_n 0, 1) := by decide +kernel
theorem d_Model_back_43 : decode m_Model_back.2.1 43 = .ok (.getfield 25, 3) := by decide +kernel
theorem d_Model_back_46 : decode m_Model_back.2.1 46 = .ok (.sipush 138, 3) := by decide +kernel
theorem d_Model_back_49 : decode m_Model_back.2.1 49 = .ok (.iload_n 1, 1) := by decide +kernel
theorem d_Model_back_50 : decode m_Model_back.2.1 50 = .ok (.imul, 1) := by decide +kernel
theorem d_Model_back_51 : decode m_Model_back.2.1 51 = .ok (.iload_n 2, 1) := by decide +kernel
theorem d_Model_back_52 : decode m_Model_back.2.1 52 = .ok (.iadd, 1) := by decide +kernel
theorem d_Model_back_53 : decode m_Model_back.2.1 53 = .ok (.iaload, 1) := by decide +kernel
theorem d_Model_back_54 : decode m_Model_back.2.1 54 = .ok (.iastore, 1) := by decide +kernel
theorem d_Model_back_55 : decode m_Model_back.2.1 55 = .ok (.iinc 2 1, 3) := by decide +kernel
theorem d_Model_back_58 : decode m_Model_back.2.1 58 = .ok (.goto (-28), 3) := by decide +kernel
theorem d_Model_back_61 : decode m_Model_back.2.1 61 = .ok (.aload_n 0, 1) := by decide +kernel
theorem d_Model_back_62 : decode m_Model_back.2.1 62 = .ok (.iconst 0, 1) := by decide +kernel
theorem d_Model_back_63 : decode m_Model_back.2.1 63 = .ok (.putfield 142, 3) := by decide +kernel
theorem d_Model_back_66 : decode m_Model_back.2.1 66 = .ok (.aload_n 0, 1) := by decide +kernel
theorem d_Model_back_67 : decode m_Model_back.2.1 67 = .ok (.getfield 16, 3) := by decide +kernel
theorem d_Model_back_70 : decode m_Model_back.2.1 70 = .ok (.iconst 0, 1) := by decide +kernel
theorem d_Model_back_71 : decode m_Model_back.2.1 71 = .ok (.iaload, 1) := by decide +kernel
theorem d_Model_back_72 : decode m_Model_back.2.1 72 = .ok (.ireturn, 1) := by decide +kernel
theorem d_Model_asked_0 : decode m_Model_asked.2.1 0 = .ok (.aload_n 0, 1) := by decide +kernel
theorem d_Model_asked_1 : decode m_Model_asked.2.1 1 = .ok (.iconst 0, 1) := by decide +kernel
theorem d_Model_asked_2 : decode m_Model_asked.2.1 2 = .ok (.putfield 75, 3) := by decide +kernel
theorem d_Model_asked_5 : decode m_Model_asked.2.1 5 = .ok (.aload_n 0, 1) := by decide +kernel
theorem d_Model_asked_6 : decode m_Model_asked.2.1 6 = .ok (.getfield 194, 3) := by decide +kernel
theorem d_Model_asked_9 : decode m_Model_asked.2.1 9 = .ok (.ireturn, 1) := by decide +kernel
theorem d_Model_trapped_0 : decode m_Model_trapped.2.1 0 = .ok (.aload_n 0, 1) := by decide +kernel
theorem d_Model_trapped_1 : decode m_Model_trapped.2.1 1 = .ok (.iconst 0, 1) := by decide +kernel
theorem d_Model_trapped_2 : decode m_Model_trapped.2.1 2 = .ok (.putfield 75, 3) := by decide +kernel
theorem d_Model_trapped_5 : decode m_Model_trapped.2.1 5 = .ok (.aload_n 0, 1) := by decide +kernel
theorem d_Model_trapped_6 : decode m_Model_trapped.2.1 6 = .ok (.getfield 71, 3) := by decide +kernel
theorem d_Model_trapped_9 : decode m_Model_trapped.2.1 9 = .ok (.ireturn, 1) := by decide +kernel
theorem d_Model_count_0 : decode m_Model_count.2.1 0 = .ok (.aload_n 0, 1) := by decide +kernel
theorem d_Model_count_1 : decode m_Model_count.2.1 1 = .ok (.iconst 0, 1) := by decide +kernel
theorem d_Model_count_2 : decode m_Model_count.2.1 2 = .ok (.putfield 75, 3) := by decide +kernel
theorem d_Model_count_5 : decode m_Model_count.2.1 5 = .ok (.iload_n 1, 1) := by decide +kernel
theorem d_Model_count_6 : decode m_Model_count.2.1 6 = .ok (.iconst 0, 1) := by decide +kernel
theorem d_Model_count_7 : decode m_Model_count.2.1 7 = .ok (.bipush 8, 2) := by decide +kernel
theorem d_Model_count_9 : decode m_Model_count.2.1 9 = .ok (.invokestatic 78, 3) := by decide +kernel
theorem d_Model_count_12 : decode m_Model_count.2.1 12 = .ok (.ifCond .ne 5, 3) := by decide +kernel
theorem d_Model_count_15 : decode m_Model_count.2.1 15 = .ok (.iconst (-1), 1) := by decide +kernel
theorem d_Model_count_16 : decode m_Model_count.2.1 16 = .ok (.ireturn, 1) := by decide +kernel
theorem d_Model_count_17 : decode m_Model_count.2.1 17 = .ok (.iload_n 1, 1) := by decide +kernel
theorem d_Model_count_18 : decode m_Model_count.2.1 18 = .ok (.bipush 6, 2) := by decide +kernel
theorem d_Model_count_20 : decode m_Model_count.2.1 20 = .ok (.if_icmp .ge 29, 3) := by decide +kernel
theorem d_Model_count_23 : decode m_Model_count.2.1 23 = .ok (.iload_n 1, 1) := by decide +kernel
theorem d_Model_count_24 : decode m_Model_count.2.1 24 = .ok (.ifCond .ne 12, 3) := by decide +kernel
theorem d_Model_count_27 : decode m_Model_count.2.1 27 = .ok (.aload_n 0, 1) := by decide +kernel
theorem d_Model_count_28 : decode m_Model_count.2.1 28 = .ok (.getfield 16, 3) := by decide +kernel
theorem d_Model_count_31 : decode m_Model_count.2.1 31 = .ok (.iconst 0, 1) := by decide +kernel
theorem d_Model_count_32 : decode m_Model_count.2.1 32 = .ok (.iaload, 1) := by decide +kernel
theorem d_Model_count_33 : decode m_Model_count.2.1 33 = .ok (.goto 15, 3) := by decide +kernel
theorem d_Model_count_36 : decode m_Model_count.2.1 36 = .ok (.aload_n 0, 1) := by decide +kernel
theorem d_Model_count_37 : decode m_Model_count.2.1 37 = .ok (.getfield 16, 3) := by decide +kernel
theorem d_Model_count_40 : decode m_Model_count.2.1 40 = .ok (.sipush 133, 3) := by decide +kernel
theorem d_Model_count_43 : decode m_Model_count.2.1 43 = .ok (.iload_n 1, 1) := by decide +kernel
theorem d_Model_count_44 : decode m_Model_count.2.1 44 = .ok (.iadd, 1) := by decide +kernel
theorem d_Model_count_45 : decode m_Model_count.2.1 45 = .ok (.iconst 1, 1) := by decide +kernel
theorem d_Model_count_46 : decode m_Model_count.2.1 46 = .ok (.isub, 1) := by decide +kernel
theorem d_Model_count_47 : decode m_Model_count.2.1 47 = .ok (.iaload, 1) := by decide +kernel
theorem d_Model_count_48 : decode m_Model_count.2.1 48 = .ok (.ireturn, 1) := by decide +kernel
theorem d_Model_count_49 : decode m_Model_count.2.1 49 = .ok (.iload_n 1, 1) := by decide +kernel
theorem d_Model_count_50 : decode m_Model_count.2.1 50 = .ok (.bipush 6, 2) := by decide +kernel
theorem d_Model_count_52 : decode m_Model_count.2.1 52 = .ok (.if_icmp .ne 10, 3) := by decide +kernel
theorem d_Model_count_55 : decode m_Model_count.2.1 55 = .ok (.aload_n 0, 1) := by decide +kernel
theorem d_Model_count_56 : decode m_Model_count.2.1 56 = .ok (.invokevirtual 269, 3) := by decide +kernel
theorem d_Model_count_59 : decode m_Model_count.2.1 59 = .ok (.goto 20, 3) := by decide +kernel
theorem d_Model_count_62 : decode m_Model_count.2.1 62 = .ok (.iload_n 1, 1) := by decide +kernel
theorem d_Model_count_63 : decode m_Model_count.2.1 63 = .ok (.bipush 7, 2) := by decide +kernel
theorem d_Model_count_65 : decode m_Model_count.2.1 65 = .ok (.if_icmp .ne 10, 3) := by decide +kernel
theorem d_Model_count_68 : decode m_Model_count.2.1 68 = .ok (.aload_n 0, 1) := by decide +kernel
theorem d_Model_count_69 : decode m_Model_count.2.1 69 = .ok (.getfield 82, 3) := by decide +kernel
theorem d_Model_count_72 : decode m_Model_count.2.1 72 = .ok (.goto 7, 3) := by decide +kernel
theorem d_Model_count_75 : decode m_Model_count.2.1 75 = .ok (.aload_n 0, 1) := by decide +kernel
theorem d_Model_count_76 : decode m_Model_count.2.1 76 = .ok (.getfield 142, 3) := by decide +kernel
theorem d_Model_count_79 : decode m_Model_count.2.1 79 = .ok (.ireturn, 1) := by decide +kernel
theorem d_law_0 : decode code 0 = .ok (.new 7, 3) := by decide +kernel
theorem d_law_3 : decode code 3 = .ok (.dup, 1) := by decide +kernel
theorem d_law_4 : decode code 4 = .ok (.invokespecial 9, 3) := by decide +kernel
theorem d_law_7 : decode code 7 = .ok (.astore_n 1, 1) := by decide +kernel
theorem d_law_8 : decode code 8 = .ok (.new 10, 3) := by decide +kernel
theorem d_law_11 : decode code 11 = .ok (.dup, 1) := by decide +kernel
theorem d_law_12 : decode code 12 = .ok (.invokespecial 12, 3) := by decide +kernel
theorem d_law_15 : decode code 15 = .ok (.astore_n 2, 1) := by decide +kernel
theorem d_law_16 : decode code 16 = .ok (.iconst 0, 1) := by decide +kernel
theorem d_law_17 : decode code 17 = .ok (.istore_n 3, 1) := by decide +kernel
theorem d_law_18 : decode code 18 = .ok (.iload_n 3, 1) := by decide +kernel
theorem d_law_19 : decode code 19 = .ok (.aload_n 0, 1) := by decide +kernel
theorem d_law_20 : decode code 20 = .ok (.arraylength, 1) := by decide +kernel
theorem d_law_21 : decode code 21 = .ok (.bipush 6, 2) := by decide +kernel
theorem d_law_23 : decode code 23 = .ok (.isub, 1) := by decide +kernel
theorem d_law_24 : decode code 24 = .ok (.if_icmp .gt 674, 3) := by decide +kernel
theorem d_law_27 : decode code 27 = .ok (.aload_n 0, 1) := by decide +kernel
theorem d_law_28 : decode code 28 = .ok (.iload_n 3, 1) := by decide +kernel
theorem d_law_29 : decode code 29 = .ok (.iaload, 1) := by decide +kernel
theorem d_law_30 : decode code 30 = .ok (.bipush 31, 2) := by decide +kernel
theorem d_law_32 : decode code 32 = .ok (.iand, 1) := by decide +kernel
theorem d_law_33 : decode code 33 = .ok (.tableswitch 659 0 21 #[103, 126, 139, 152, 185, 208, 241, 274, 307, 340, 363, 376, 399, 432, 495, 508, 541, 564, 587, 610, 623, 636], 103) := by decide +kernel
theorem d_law_136 : decode code 136 = .ok (.aload_n 1, 1) := by decide +kernel
theorem d_law_137 : decode code 137 = .ok (.aload_n 0, 1) := by decide +kernel
theorem d_law_138 : decode code 138 = .ok (.iload_n 3, 1) := by decide +kernel
theorem d_law_139 : decode code 139 = .ok (.iconst 1, 1) := by decide +kernel
theorem d_law_140 : decode code 140 = .ok (.iadd, 1) := by decide +kernel
theorem d_law_141 : decode code 141 = .ok (.iaload, 1) := by decide +kernel
theorem d_law_142 : decode code 142 = .ok (.invokevirtual 13, 3) := by decide +kernel
theorem d_law_145 : decode code 145 = .ok (.aload_n 2, 1) := by decide +kernel
theorem d_law_146 : decode code 146 = .ok (.aload_n 0, 1) := by decide +kernel
theorem d_law_147 : decode code 147 = .ok (.iload_n 3, 1) := by decide +kernel
theorem d_law_148 : decode code 148 = .ok (.iconst 1, 1) := by decide +kernel
theorem d_law_149 : decode code 149 = .ok (.iadd, 1) := by decide +kernel
theorem d_law_150 : decode code 150 = .ok (.iaload, 1) := by decide +kernel
theorem d_law_151 : decode code 151 = .ok (.invokevirtual 17, 3) := by decide +kernel
theorem d_law_154 : decode code 154 = .ok (.if_icmp .eq 538, 3) := by decide +kernel
theorem d_law_157 : decode code 157 = .ok (.iconst 0, 1) := by decide +kernel
theorem d_law_158 : decode code 158 = .ok (.ireturn, 1) := by decide +kernel
theorem d_law_159 : decode code 159 = .ok (.aload_n 1, 1) := by decide +kernel
theorem d_law_160 : decode code 160 = .ok (.invokevirtual 18, 3) := by decide +kernel
theorem d_law_163 : decode code 163 = .ok (.aload_n 2, 1) := by decide +kernel
theorem d_law_164 : decode code 164 = .ok (.invokevirtual 22, 3) := by decide +kernel
theorem d_law_167 : decode code 167 = .ok (.if_icmp .eq 525, 3) := by decide +kernel
theorem d_law_170 : decode code 170 = .ok (.iconst 0, 1) := by decide +kernel
theorem d_law_171 : decode code 171 = .ok (.ireturn, 1) := by decide +kernel
theorem d_law_172 : decode code 172 = .ok (.aload_n 1, 1) := by decide +kernel
theorem d_law_173 : decode code 173 = .ok (.invokevirtual 23, 3) := by decide +kernel
theorem d_law_176 : decode code 176 = .ok (.aload_n 2, 1) := by decide +kernel
theorem d_law_177 : decode code 177 = .ok (.invokevirtual 26, 3) := by decide +kernel
theorem d_law_180 : decode code 180 = .ok (.if_icmp .eq 512, 3) := by decide +kernel
theorem d_law_183 : decode code 183 = .ok (.iconst 0, 1) := by decide +kernel
theorem d_law_184 : decode code 184 = .ok (.ireturn, 1) := by decide +kernel
theorem d_law_185 : decode code 185 = .ok (.aload_n 1, 1) := by decide +kernel
theorem d_law_186 : decode code 186 = .ok (.aload_n 0, 1) := by decide +kernel
theorem d_law_187 : decode code 187 = .ok (.iload_n 3, 1) := by decide +kernel
theorem d_law_188 : decode code 188 = .ok (.iconst 1, 1) := by decide +kernel
theorem d_law_189 : decode code 189 = .ok (.iadd, 1) := by decide +kernel
theorem d_law_190 : decode code 190 = .ok (.iaload, 1) := by decide +kernel
theorem d_law_191 : decode code 191 = .ok (.aload_n 0, 1) := by decide +kernel
theorem d_law_192 : decode code 192 = .ok (.iload_n 3, 1) := by decide +kernel
theorem d_law_193 : decode code 193 = .ok (.iconst 2, 1) := by decide +kernel
theorem d_law_194 : decode code 194 = .ok (.iadd, 1) := by decide +kernel
theorem d_law_195 : decode code 195 = .ok (.iaload, 1) := by decide +kernel
theorem d_law_196 : decode code 196 = .ok (.invokevirtual 27, 3) := by decide +kernel
theorem d_law_199 : decode code 199 = .ok (.aload_n 2, 1) := by decide +kernel
theorem d_law_200 : decode code 200 = .ok (.aload_n 0, 1) := by decide +kernel
theorem d_law_201 : decode code 201 = .ok (.iload_n 3, 1) := by decide +kernel
theorem d_law_202 : decode code 202 = .ok (.iconst 1, 1) := by decide +kernel
theorem d_law_203 : decode code 203 = .ok (.iadd, 1) := by decide +kernel
theorem d_law_204 : decode code 204 = .ok (.iaload, 1) := by decide +kernel
theorem d_law_205 : decode code 205 = .ok (.aload_n 0, 1) := by decide +kernel
theorem d_law_206 : decode code 206 = .ok (.iload_n 3, 1) := by decide +kernel
theorem d_law_207 : decode code 207 = .ok (.iconst 2, 1) := by decide +kernel
theorem d_law_208 : decode code 208 = .ok (.iadd, 1) := by decide +kernel
theorem d_law_209 : decode code 209 = .ok (.iaload, 1) := by decide +kernel
theorem d_law_210 : decode code 210 = .ok (.invokevirtual 31, 3) := by decide +kernel
theorem d_law_213 : decode code 213 = .ok (.if_icmp .eq 479, 3) := by decide +kernel
theorem d_law_216 : decode code 216 = .ok (.iconst 0, 1) := by decide +kernel
theorem d_law_217 : decode code 217 = .ok (.ireturn, 1) := by decide +kernel
theorem d_law_218 : decode code 218 = .ok (.aload_n 1, 1) := by decide +kernel
theorem d_law_219 : decode code 219 = .ok (.aload_n 0, 1) := by decide +kernel
theorem d_law_220 : decode code 220 = .ok (.iload_n 3, 1) := by decide +kernel
theorem d_law_221 : decode code 221 = .ok (.iconst 1, 1) := by decide +kernel
theorem d_law_222 : decode code 222 = .ok (.iadd, 1) := by decide +kernel
theorem d_law_223 : decode code 223 = .ok (.iaload, 1) := by decide +kernel
theorem d_law_224 : decode code 224 = .ok (.invokevirtual 32, 3) := by decide +kernel
theorem d_law_227 : decode code 227 = .ok (.aload_n 2, 1) := by decide +kernel
theorem d_law_228 : decode code 228 = .ok (.aload_n 0, 1) := by decide +kernel
theorem d_law_229 : decode code 229 = .ok (.iload_n 3, 1) := by decide +kernel
theorem d_law_230 : decode code 230 = .ok (.iconst 1, 1) := by decide +kernel
theorem d_law_231 : decode code 231 = .ok (.iadd, 1) := by decide +kernel
theorem d_law_232 : decode code 232 = .ok (.iaload, 1) := by decide +kernel
theorem d_law_233 : decode code 233 = .ok (.invokevirtual 35, 3) := by decide +kernel
theorem d_law_236 : decode code 236 = .ok (.if_icmp .eq 456, 3) := by decide +kernel
theorem d_law_239 : decode code 239 = .ok (.iconst 0, 1) := by decide +kernel
theorem d_law_240 : decode code 240 = .ok (.ireturn, 1) := by decide +kernel
theorem d_law_241 : decode code 241 = .ok (.aload_n 1, 1) := by decide +kernel
theorem d_law_242 : decode code 242 = .ok (.aload_n 0, 1) := by decide +kernel
theorem d_law_243 : decode code 243 = .ok (.iload_n 3, 1) := by decide +kernel
theorem d_law_244 : decode code 244 = .ok (.iconst 1, 1) := by decide +kernel
theorem d_law_245 : decode code 245 = .ok (.iadd, 1) := by decide +kernel
theorem d_law_246 : decode code 246 = .ok (.iaload, 1) := by decide +kernel
theorem d_law_247 : decode code 247 = .ok (.aload_n 0, 1) := by decide +kernel
theorem d_law_248 : decode code 248 = .ok (.iload_n 3, 1) := by decide +kernel
theorem d_law_249 : decode code 249 = .ok (.iconst 2, 1) := by decide +kernel
theorem d_law_250 : decode code 250 = .ok (.iadd, 1) := by decide +kernel
theorem d_law_251 : decode code 251 = .ok (.iaload, 1) := by decide +kernel
theorem d_law_252 : decode code 252 = .ok (.invokevirtual 36, 3) := by decide +kernel
theorem d_law_255 : decode code 255 = .ok (.aload_n 2, 1) := by decide +kernel
theorem d_law_256 : decode code 256 = .ok (.aload_n 0, 1) := by decide +kernel
theorem d_law_257 : decode code 257 = .ok (.iload_n 3, 1) := by decide +kernel
theorem d_law_258 : decode code 258 = .ok (.iconst 1, 1) := by decide +kernel
theorem d_law_259 : decode code 259 = .ok (.iadd, 1) := by decide +kernel
theorem d_law_260 : decode code 260 = .ok (.iaload, 1) := by decide +kernel
theorem d_law_261 : decode code 261 = .ok (.aload_n 0, 1) := by decide +kernel
theorem d_law_262 : decode code 262 = .ok (.iload_n 3, 1) := by decide +kernel
theorem d_law_263 : decode code 263 = .ok (.iconst 2, 1) := by decide +kernel
theorem d_law_264 : decode code 264 = .ok (.iadd, 1) := by decide +kernel
theorem d_law_265 : decode code 265 = .ok (.iaload, 1) := by decide +kernel
theorem d_law_266 : decode code 266 = .ok (.invokevirtual 39, 3) := by decide +kernel
theorem d_law_269 : decode code 269 = .ok (.if_icmp .eq 423, 3) := by decide +kernel
theorem d_law_272 : decode code 272 = .ok (.iconst 0, 1) := by decide +kernel
theorem d_law_273 : decode code 273 = .ok (.ireturn, 1) := by decide +kernel
theorem d_law_274 : decode code 274 = .ok (.aload_n 1, 1) := by decide +kernel
theorem d_law_275 : decode code 275 = .ok (.aload_n 0, 1) := by decide +kernel
theorem d_law_276 : decode code 276 = .ok (.iload_n 3, 1) := by decide +kernel
theorem d_law_277 : decode code 277 = .ok (.iconst 1, 1) := by decide +kernel
theorem d_law_278 : decode code 278 = .ok (.iadd, 1) := by decide +kernel
theorem d_law_279 : decode code 279 = .ok (.iaload, 1) := by decide +kernel
theorem d_law_280 : decode code 280 = .ok (.aload_n 0, 1) := by decide +kernel
theorem d_law_281 : decode code 281 = .ok (.iload_n 3, 1) := by decide +kernel
theorem d_law_282 : decode code 282 = .ok (.iconst 2, 1) := by decide +kernel
theorem d_law_283 : decode code 283 = .ok (.iadd, 1) := by decide +kernel
theorem d_law_284 : decode code 284 = .ok (.iaload, 1) := by decide +kernel
theorem d_law_285 : decode code 285 = .ok (.invokevirtual 40, 3) := by decide +kernel
theorem d_law_288 : decode code 288 = .ok (.aload_n 2, 1) := by decide +kernel
theorem d_law_289 : decode code 289 = .ok (.aload_n 0, 1) := by decide +kernel
theorem d_law_290 : decode code 290 = .ok (.iload_n 3, 1) := by decide +kernel
theorem d_law_291 : decode code 291 = .ok (.iconst 1, 1) := by decide +kernel
theorem d_law_292 : decode code 292 = .ok (.iadd, 1) := by decide +kernel
theorem d_law_293 : decode code 293 = .ok (.iaload, 1) := by decide +kernel
theorem d_law_294 : decode code 294 = .ok (.aload_n 0, 1) := by decide +kernel
theorem d_law_295 : decode code 295 = .ok (.iload_n 3, 1) := by decide +kernel
theorem d_law_296 : decode code 296 = .ok (.iconst 2, 1) := by decide +kernel
theorem d_law_297 : decode code 297 = .ok (.iadd, 1) := by decide +kernel
theorem d_law_298 : decode code 298 = .ok (.iaload, 1) := by decide +kernel
theorem d_law_299 : decode code 299 = .ok (.invokevirtual 43, 3) := by decide +kernel
theorem d_law_302 : decode code 302 = .ok (.if_icmp .eq 390, 3) := by decide +kernel
theorem d_law_305 : decode code 305 = .ok (.iconst 0, 1) := by decide +kernel
theorem d_law_306 : decode code 306 = .ok (.ireturn, 1) := by decide +kernel
theorem d_law_307 : decode code 307 = .ok (.aload_n 1, 1) := by decide +kernel
theorem d_law_308 : decode code 308 = .ok (.aload_n 0, 1) := by decide +kernel
theorem d_law_309 : decode code 309 = .ok (.iload_n 3, 1) := by decide +kernel
theorem d_law_310 : decode code 310 = .ok (.iconst 1, 1) := by decide +kernel
theorem d_law_311 : decode code 311 = .ok (.iadd, 1) := by decide +kernel
theorem d_law_312 : decode code 312 = .ok (.iaload, 1) := by decide +kernel
theorem d_law_313 : decode code 313 = .ok (.aload_n 0, 1) := by decide +kernel
theorem d_law_314 : decode code 314 = .ok (.iload_n 3, 1) := by decide +kernel
theorem d_law_315 : decode code 315 = .ok (.iconst 2, 1) := by decide +kernel
theorem d_law_316 : decode code 316 = .ok (.iadd, 1) := by decide +kernel
theorem d_law_317 : decode code 317 = .ok (.iaload, 1) := by decide +kernel
theorem d_law_318 : decode code 318 = .ok (.invokevirtual 44, 3) := by decide +kernel
theorem d_law_321 : decode code 321 = .ok (.aload_n 2, 1) := by decide +kernel
theorem d_law_322 : decode code 322 = .ok (.aload_n 0, 1) := by decide +kernel
theorem d_law_323 : decode code 323 = .ok (.iload_n 3, 1) := by decide +kernel
theorem d_law_324 : decode code 324 = .ok (.iconst 1, 1) := by decide +kernel
theorem d_law_325 : decode code 325 = .ok (.iadd, 1) := by decide +kernel
theorem d_law_326 : decode code 326 = .ok (.iaload, 1) := by decide +kernel
theorem d_law_327 : decode code 327 = .ok (.aload_n 0, 1) := by decide +kernel
theorem d_law_328 : decode code 328 = .ok (.iload_n 3, 1) := by decide +kernel
theorem d_law_329 : decode code 329 = .ok (.iconst 2, 1) := by decide +kernel
theorem d_law_330 : decode code 330 = .ok (.iadd, 1) := by decide +kernel
theorem d_law_331 : decode code 331 = .ok (.iaload, 1) := by decide +kernel
theorem d_law_332 : decode code 332 = .ok (.invokevirtual 47, 3) := by decide +kernel
theorem d_law_335 : decode code 335 = .ok (.if_icmp .eq 357, 3) := by decide +kernel
theorem d_law_338 : decode code 338 = .ok (.iconst 0, 1) := by decide +kernel
theorem d_law_339 : decode code 339 = .ok (.ireturn, 1) := by decide +kernel
theorem d_law_340 : decode code 340 = .ok (.aload_n 1, 1) := by decide +kernel
theorem d_law_341 : decode code 341 = .ok (.aload_n 0, 1) := by decide +kernel
theorem d_law_342 : decode code 342 = .ok (.iload_n 3, 1) := by decide +kernel
theorem d_law_343 : decode code 343 = .ok (.iconst 1, 1) := by decide +kernel
theorem d_law_344 : decode code 344 = .ok (.iadd, 1) := by decide +kernel
theorem d_law_345 : decode code 345 = .ok (.iaload, 1) := by decide +kernel
theorem d_law_346 : decode code 346 = .ok (.aload_n 0, 1) := by decide +kernel
theorem d_law_347 : decode code 347 = .ok (.iload_n 3, 1) := by decide +kernel
theorem d_law_348 : decode code 348 = .ok (.iconst 2, 1) := by decide +kernel
theorem d_law_349 : decode code 349 = .ok (.iadd, 1) := by decide +kernel
theorem d_law_350 : decode code 350 = .ok (.iaload, 1) := by decide +kernel
theorem d_law_351 : decode code 351 = .ok (.invokevirtual 48, 3) := by decide +kernel
theorem d_law_354 : decode code 354 = .ok (.aload_n 2, 1) := by decide +kernel
theorem d_law_355 : decode code 355 = .ok (.aload_n 0, 1) := by decide +kernel
theorem d_law_356 : decode code 356 = .ok (.iload_n 3, 1) := by decide +kernel
theorem d_law_357 : decode code 357 = .ok (.iconst 1, 1) := by decide +kernel
theorem d_law_358 : decode code 358 = .ok (.iadd, 1) := by decide +kernel
theorem d_law_359 : decode code 359 = .ok (.iaload, 1) := by decide +kernel
theorem d_law_360 : decode code 360 = .ok (.aload_n 0, 1) := by decide +kernel
theorem d_law_361 : decode code 361 = .ok (.iload_n 3, 1) := by decide +kernel
theorem d_law_362 : decode code 362 = .ok (.iconst 2, 1) := by decide +kernel
theorem d_law_363 : decode code 363 = .ok (.iadd, 1) := by decide +kernel
theorem d_law_364 : decode code 364 = .ok (.iaload, 1) := by decide +kernel
theorem d_law_365 : decode code 365 = .ok (.invokevirtual 51, 3) := by decide +kernel
theorem d_law_368 : decode code 368 = .ok (.if_icmp .eq 324, 3) := by decide +kernel
theorem d_law_371 : decode code 371 = .ok (.iconst 0, 1) := by decide +kernel
theorem d_law_372 : decode code 372 = .ok (.ireturn, 1) := by decide +kernel
theorem d_law_373 : decode code 373 = .ok (.aload_n 1, 1) := by decide +kernel
theorem d_law_374 : decode code 374 = .ok (.aload_n 0, 1) := by decide +kernel
theorem d_law_375 : decode code 375 = .ok (.iload_n 3, 1) := by decide +kernel
theorem d_law_376 : decode code 376 = .ok (.iconst 1, 1) := by decide +kernel
theorem d_law_377 : decode code 377 = .ok (.iadd, 1) := by decide +kernel
theorem d_law_378 : decode code 378 = .ok (.iaload, 1) := by decide +kernel
theorem d_law_379 : decode code 379 = .ok (.invokevirtual 52, 3) := by decide +kernel
theorem d_law_382 : decode code 382 = .ok (.aload_n 2, 1) := by decide +kernel
theorem d_law_383 : decode code 383 = .ok (.aload_n 0, 1) := by decide +kernel
theorem d_law_384 : decode code 384 = .ok (.iload_n 3, 1) := by decide +kernel
theorem d_law_385 : decode code 385 = .ok (.iconst 1, 1) := by decide +kernel
theorem d_law_386 : decode code 386 = .ok (.iadd, 1) := by decide +kernel
theorem d_law_387 : decode code 387 = .ok (.iaload, 1) := by decide +kernel
theorem d_law_388 : decode code 388 = .ok (.invokevirtual 55, 3) := by decide +kernel
theorem d_law_391 : decode code 391 = .ok (.if_icmp .eq 301, 3) := by decide +kernel
theorem d_law_394 : decode code 394 = .ok (.iconst 0, 1) := by decide +kernel
theorem d_law_395 : decode code 395 = .ok (.ireturn, 1) := by decide +kernel
theorem d_law_396 : decode code 396 = .ok (.aload_n 1, 1) := by decide +kernel
theorem d_law_397 : decode code 397 = .ok (.invokevirtual 56, 3) := by decide +kernel
theorem d_law_400 : decode code 400 = .ok (.aload_n 2, 1) := by decide +kernel
theorem d_law_401 : decode code 401 = .ok (.invokevirtual 59, 3) := by decide +kernel
theorem d_law_404 : decode code 404 = .ok (.if_icmp .eq 288, 3) := by decide +kernel
theorem d_law_407 : decode code 407 = .ok (.iconst 0, 1) := by decide +kernel
theorem d_law_408 : decode code 408 = .ok (.ireturn, 1) := by decide +kernel
theorem d_law_409 : decode code 409 = .ok (.aload_n 1, 1) := by decide +kernel
theorem d_law_410 : decode code 410 = .ok (.aload_n 0, 1) := by decide +kernel
theorem d_law_411 : decode code 411 = .ok (.iload_n 3, 1) := by decide +kernel
theorem d_law_412 : decode code 412 = .ok (.iconst 1, 1) := by decide +kernel
theorem d_law_413 : decode code 413 = .ok (.iadd, 1) := by decide +kernel
theorem d_law_414 : decode code 414 = .ok (.iaload, 1) := by decide +kernel
theorem d_law_415 : decode code 415 = .ok (.invokevirtual 60, 3) := by decide +kernel
theorem d_law_418 : decode code 418 = .ok (.aload_n 2, 1) := by decide +kernel
theorem d_law_419 : decode code 419 = .ok (.aload_n 0, 1) := by decide +kernel
theorem d_law_420 : decode code 420 = .ok (.iload_n 3, 1) := by decide +kernel
theorem d_law_421 : decode code 421 = .ok (.iconst 1, 1) := by decide +kernel
theorem d_law_422 : decode code 422 = .ok (.iadd, 1) := by decide +kernel
theorem d_law_423 : decode code 423 = .ok (.iaload, 1) := by decide +kernel
theorem d_law_424 : decode code 424 = .ok (.invokevirtual 63, 3) := by decide +kernel
theorem d_law_427 : decode code 427 = .ok (.if_icmp .eq 265, 3) := by decide +kernel
theorem d_law_430 : decode code 430 = .ok (.iconst 0, 1) := by decide +kernel
theorem d_law_431 : decode code 431 = .ok (.ireturn, 1) := by decide +kernel
theorem d_law_432 : decode code 432 = .ok (.aload_n 1, 1) := by decide +kernel
theorem d_law_433 : decode code 433 = .ok (.aload_n 0, 1) := by decide +kernel
theorem d_law_434 : decode code 434 = .ok (.iload_n 3, 1) := by decide +kernel
theorem d_law_435 : decode code 435 = .ok (.iconst 1, 1) := by decide +kernel
theorem d_law_436 : decode code 436 = .ok (.iadd, 1) := by decide +kernel
theorem d_law_437 : decode code 437 = .ok (.iaload, 1) := by decide +kernel
theorem d_law_438 : decode code 438 = .ok (.aload_n 0, 1) := by decide +kernel
theorem d_law_439 : decode code 439 = .ok (.iload_n 3, 1) := by decide +kernel
theorem d_law_440 : decode code 440 = .ok (.iconst 2, 1) := by decide +kernel
theorem d_law_441 : decode code 441 = .ok (.iadd, 1) := by decide +kernel
theorem d_law_442 : decode code 442 = .ok (.iaload, 1) := by decide +kernel
theorem d_law_443 : decode code 443 = .ok (.invokevirtual 64, 3) := by decide +kernel
theorem d_law_446 : decode code 446 = .ok (.aload_n 2, 1) := by decide +kernel
theorem d_law_447 : decode code 447 = .ok (.aload_n 0, 1) := by decide +kernel
theorem d_law_448 : decode code 448 = .ok (.iload_n 3, 1) := by decide +kernel
theorem d_law_449 : decode code 449 = .ok (.iconst 1, 1) := by decide +kernel
theorem d_law_450 : decode code 450 = .ok (.iadd, 1) := by decide +kernel
theorem d_law_451 : decode code 451 = .ok (.iaload, 1) := by decide +kernel
theorem d_law_452 : decode code 452 = .ok (.aload_n 0, 1) := by decide +kernel
theorem d_law_453 : decode code 453 = .ok (.iload_n 3, 1) := by decide +kernel
theorem d_law_454 : decode code 454 = .ok (.iconst 2, 1) := by decide +kernel
theorem d_law_455 : decode code 455 = .ok (.iadd, 1) := by decide +kernel
theorem d_law_456 : decode code 456 = .ok (.iaload, 1) := by decide +kernel
theorem d_law_457 : decode code 457 = .ok (.invokevirtual 67, 3) := by decide +kernel
theorem d_law_460 : decode code 460 = .ok (.if_icmp .eq 232, 3) := by decide +kernel
theorem d_law_463 : decode code 463 = .ok (.iconst 0, 1) := by decide +kernel
theorem d_law_464 : decode code 464 = .ok (.ireturn, 1) := by decide +kernel
theorem d_law_465 : decode code 465 = .ok (.aload_n 1, 1) := by decide +kernel
theorem d_law_466 : decode code 466 = .ok (.aload_n 0, 1) := by decide +kernel
theorem d_law_467 : decode code 467 = .ok (.iload_n 3, 1) := by decide +kernel
theorem d_law_468 : decode code 468 = .ok (.iconst 1, 1) := by decide +kernel
theorem d_law_469 : decode code 469 = .ok (.iadd, 1) := by decide +kernel
theorem d_law_470 : decode code 470 = .ok (.iaload, 1) := by decide +kernel
theorem d_law_471 : decode code 471 = .ok (.aload_n 0, 1) := by decide +kernel
theorem d_law_472 : decode code 472 = .ok (.iload_n 3, 1) := by decide +kernel
theorem d_law_473 : decode code 473 = .ok (.iconst 2, 1) := by decide +kernel
theorem d_law_474 : decode code 474 = .ok (.iadd, 1) := by decide +kernel
theorem d_law_475 : decode code 475 = .ok (.iaload, 1) := by decide +kernel
theorem d_law_476 : decode code 476 = .ok (.aload_n 0, 1) := by decide +kernel
theorem d_law_477 : decode code 477 = .ok (.iload_n 3, 1) := by decide +kernel
theorem d_law_478 : decode code 478 = .ok (.iconst 3, 1) := by decide +kernel
theorem d_law_479 : decode code 479 = .ok (.iadd, 1) := by decide +kernel
theorem d_law_480 : decode code 480 = .ok (.iaload, 1) := by decide +kernel
theorem d_law_481 : decode code 481 = .ok (.aload_n 0, 1) := by decide +kernel
theorem d_law_482 : decode code 482 = .ok (.iload_n 3, 1) := by decide +kernel
theorem d_law_483 : decode code 483 = .ok (.iconst 4, 1) := by decide +kernel
theorem d_law_484 : decode code 484 = .ok (.iadd, 1) := by decide +kernel
theorem d_law_485 : decode code 485 = .ok (.iaload, 1) := by decide +kernel
theorem d_law_486 : decode code 486 = .ok (.aload_n 0, 1) := by decide +kernel
theorem d_law_487 : decode code 487 = .ok (.iload_n 3, 1) := by decide +kernel
theorem d_law_488 : decode code 488 = .ok (.iconst 5, 1) := by decide +kernel
theorem d_law_489 : decode code 489 = .ok (.iadd, 1) := by decide +kernel
theorem d_law_490 : decode code 490 = .ok (.iaload, 1) := by decide +kernel
theorem d_law_491 : decode code 491 = .ok (.invokevirtual 68, 3) := by decide +kernel
theorem d_law_494 : decode code 494 = .ok (.aload_n 2, 1) := by decide +kernel
theorem d_law_495 : decode code 495 = .ok (.aload_n 0, 1) := by decide +kernel
theorem d_law_496 : decode code 496 = .ok (.iload_n 3, 1) := by decide +kernel
theorem d_law_497 : decode code 497 = .ok (.iconst 1, 1) := by decide +kernel
theorem d_law_498 : decode code 498 = .ok (.iadd, 1) := by decide +kernel
theorem d_law_499 : decode code 499 = .ok (.iaload, 1) := by decide +kernel
theorem d_law_500 : decode code 500 = .ok (.aload_n 0, 1) := by decide +kernel
theorem d_law_501 : decode code 501 = .ok (.iload_n 3, 1) := by decide +kernel
theorem d_law_502 : decode code 502 = .ok (.iconst 2, 1) := by decide +kernel
theorem d_law_503 : decode code 503 = .ok (.iadd, 1) := by decide +kernel
theorem d_law_504 : decode code 504 = .ok (.iaload, 1) := by decide +kernel
theorem d_law_505 : decode code 505 = .ok (.aload_n 0, 1) := by decide +kernel
theorem d_law_506 : decode code 506 = .ok (.iload_n 3, 1) := by decide +kernel
theorem d_law_507 : decode code 507 = .ok (.iconst 3, 1) := by decide +kernel
theorem d_law_508 : decode code 508 = .ok (.iadd, 1) := by decide +kernel
theorem d_law_509 : decode code 509 = .ok (.iaload, 1) := by decide +kernel
theorem d_law_510 : decode code 510 = .ok (.aload_n 0, 1) := by decide +kernel
theorem d_law_511 : decode code 511 = .ok (.iload_n 3, 1) := by decide +kernel
theorem d_law_512 : decode code 512 = .ok (.iconst 4, 1) := by decide +kernel
theorem d_law_513 : decode code 513 = .ok (.iadd, 1) := by decide +kernel
theorem d_law_514 : decode code 514 = .ok (.iaload, 1) := by decide +kernel
theorem d_law_515 : decode code 515 = .ok (.aload_n 0, 1) := by decide +kernel
theorem d_law_516 : decode code 516 = .ok (.iload_n 3, 1) := by decide +kernel
theorem d_law_517 : decode code 517 = .ok (.iconst 5, 1) := by decide +kernel
theorem d_law_518 : decode code 518 = .ok (.iadd, 1) := by decide +kernel
theorem d_law_519 : decode code 519 = .ok (.iaload, 1) := by decide +kernel
theorem d_law_520 : decode code 520 = .ok (.invokevirtual 72, 3) := by decide +kernel
theorem d_law_523 : decode code 523 = .ok (.if_icmp .eq 169, 3) := by decide +kernel
theorem d_law_526 : decode code 526 = .ok (.iconst 0, 1) := by decide +kernel
theorem d_law_527 : decode code 527 = .ok (.ireturn, 1) := by decide +kernel
theorem d_law_528 : decode code 528 = .ok (.aload_n 1, 1) := by decide +kernel
theorem d_law_529 : decode code 529 = .ok (.invokevirtual 73, 3) := by decide +kernel
theorem d_law_532 : decode code 532 = .ok (.aload_n 2, 1) := by decide +kernel
theorem d_law_533 : decode code 533 = .ok (.invokevirtual 76, 3) := by decide +kernel
theorem d_law_536 : decode code 536 = .ok (.if_icmp .eq 156, 3) := by decide +kernel
theorem d_law_539 : decode code 539 = .ok (.iconst 0, 1) := by decide +kernel
theorem d_law_540 : decode code 540 = .ok (.ireturn, 1) := by decide +kernel
theorem d_law_541 : decode code 541 = .ok (.aload_n 1, 1) := by decide +kernel
theorem d_law_542 : decode code 542 = .ok (.aload_n 0, 1) := by decide +kernel
theorem d_law_543 : decode code 543 = .ok (.iload_n 3, 1) := by decide +kernel
theorem d_law_544 : decode code 544 = .ok (.iconst 1, 1) := by decide +kernel
theorem d_law_545 : decode code 545 = .ok (.iadd, 1) := by decide +kernel
theorem d_law_546 : decode code 546 = .ok (.iaload, 1) := by decide +kernel
theorem d_law_547 : decode code 547 = .ok (.aload_n 0, 1) := by decide +kernel
theorem d_law_548 : decode code 548 = .ok (.iload_n 3, 1) := by decide +kernel
theorem d_law_549 : decode code 549 = .ok (.iconst 2, 1) := by decide +kernel
theorem d_law_550 : decode code 550 = .ok (.iadd, 1) := by decide +kernel
theorem d_law_551 : decode code 551 = .ok (.iaload, 1) := by decide +kernel
theorem d_law_552 : decode code 552 = .ok (.invokevirtual 77, 3) := by decide +kernel
theorem d_law_555 : decode code 555 = .ok (.aload_n 2, 1) := by decide +kernel
theorem d_law_556 : decode code 556 = .ok (.aload_n 0, 1) := by decide +kernel
theorem d_law_557 : decode code 557 = .ok (.iload_n 3, 1) := by decide +kernel
theorem d_law_558 : decode code 558 = .ok (.iconst 1, 1) := by decide +kernel
theorem d_law_559 : decode code 559 = .ok (.iadd, 1) := by decide +kernel
theorem d_law_560 : decode code 560 = .ok (.iaload, 1) := by decide +kernel
theorem d_law_561 : decode code 561 = .ok (.aload_n 0, 1) := by decide +kernel
theorem d_law_562 : decode code 562 = .ok (.iload_n 3, 1) := by decide +kernel
theorem d_law_563 : decode code 563 = .ok (.iconst 2, 1) := by decide +kernel
theorem d_law_564 : decode code 564 = .ok (.iadd, 1) := by decide +kernel
theorem d_law_565 : decode code 565 = .ok (.iaload, 1) := by decide +kernel
theorem d_law_566 : decode code 566 = .ok (.invokevirtual 80, 3) := by decide +kernel
theorem d_law_569 : decode code 569 = .ok (.if_icmp .eq 123, 3) := by decide +kernel
theorem d_law_572 : decode code 572 = .ok (.iconst 0, 1) := by decide +kernel
theorem d_law_573 : decode code 573 = .ok (.ireturn, 1) := by decide +kernel
theorem d_law_574 : decode code 574 = .ok (.aload_n 1, 1) := by decide +kernel
theorem d_law_575 : decode code 575 = .ok (.aload_n 0, 1) := by decide +kernel
theorem d_law_576 : decode code 576 = .ok (.iload_n 3, 1) := by decide +kernel
theorem d_law_577 : decode code 577 = .ok (.iconst 1, 1) := by decide +kernel
theorem d_law_578 : decode code 578 = .ok (.iadd, 1) := by decide +kernel
theorem d_law_579 : decode code 579 = .ok (.iaload, 1) := by decide +kernel
theorem d_law_580 : decode code 580 = .ok (.invokevirtual 81, 3) := by decide +kernel
theorem d_law_583 : decode code 583 = .ok (.aload_n 2, 1) := by decide +kernel
theorem d_law_584 : decode code 584 = .ok (.aload_n 0, 1) := by decide +kernel
theorem d_law_585 : decode code 585 = .ok (.iload_n 3, 1) := by decide +kernel
theorem d_law_586 : decode code 586 = .ok (.iconst 1, 1) := by decide +kernel
theorem d_law_587 : decode code 587 = .ok (.iadd, 1) := by decide +kernel
theorem d_law_588 : decode code 588 = .ok (.iaload, 1) := by decide +kernel
theorem d_law_589 : decode code 589 = .ok (.invokevirtual 84, 3) := by decide +kernel
theorem d_law_592 : decode code 592 = .ok (.if_icmp .eq 100, 3) := by decide +kernel
theorem d_law_595 : decode code 595 = .ok (.iconst 0, 1) := by decide +kernel
theorem d_law_596 : decode code 596 = .ok (.ireturn, 1) := by decide +kernel
theorem d_law_597 : decode code 597 = .ok (.aload_n 1, 1) := by decide +kernel
theorem d_law_598 : decode code 598 = .ok (.aload_n 0, 1) := by decide +kernel
theorem d_law_599 : decode code 599 = .ok (.iload_n 3, 1) := by decide +kernel
theorem d_law_600 : decode code 600 = .ok (.iconst 1, 1) := by decide +kernel
theorem d_law_601 : decode code 601 = .ok (.iadd, 1) := by decide +kernel
theorem d_law_602 : decode code 602 = .ok (.iaload, 1) := by decide +kernel
theorem d_law_603 : decode code 603 = .ok (.invokevirtual 85, 3) := by decide +kernel
theorem d_law_606 : decode code 606 = .ok (.aload_n 2, 1) := by decide +kernel
theorem d_law_607 : decode code 607 = .ok (.aload_n 0, 1) := by decide +kernel
theorem d_law_608 : decode code 608 = .ok (.iload_n 3, 1) := by decide +kernel
theorem d_law_609 : decode code 609 = .ok (.iconst 1, 1) := by decide +kernel
theorem d_law_610 : decode code 610 = .ok (.iadd, 1) := by decide +kernel
theorem d_law_611 : decode code 611 = .ok (.iaload, 1) := by decide +kernel
theorem d_law_612 : decode code 612 = .ok (.invokevirtual 88, 3) := by decide +kernel
theorem d_law_615 : decode code 615 = .ok (.if_icmp .eq 77, 3) := by decide +kernel
theorem d_law_618 : decode code 618 = .ok (.iconst 0, 1) := by decide +kernel
theorem d_law_619 : decode code 619 = .ok (.ireturn, 1) := by decide +kernel
theorem d_law_620 : decode code 620 = .ok (.aload_n 1, 1) := by decide +kernel
theorem d_law_621 : decode code 621 = .ok (.aload_n 0, 1) := by decide +kernel
theorem d_law_622 : decode code 622 = .ok (.iload_n 3, 1) := by decide +kernel
theorem d_law_623 : decode code 623 = .ok (.iconst 1, 1) := by decide +kernel
theorem d_law_624 : decode code 624 = .ok (.iadd, 1) := by decide +kernel
theorem d_law_625 : decode code 625 = .ok (.iaload, 1) := by decide +kernel
theorem d_law_626 : decode code 626 = .ok (.invokevirtual 89, 3) := by decide +kernel
theorem d_law_629 : decode code 629 = .ok (.aload_n 2, 1) := by decide +kernel
theorem d_law_630 : decode code 630 = .ok (.aload_n 0, 1) := by decide +kernel
theorem d_law_631 : decode code 631 = .ok (.iload_n 3, 1) := by decide +kernel
theorem d_law_632 : decode code 632 = .ok (.iconst 1, 1) := by decide +kernel
theorem d_law_633 : decode code 633 = .ok (.iadd, 1) := by decide +kernel
theorem d_law_634 : decode code 634 = .ok (.iaload, 1) := by decide +kernel
theorem d_law_635 : decode code 635 = .ok (.invokevirtual 92, 3) := by decide +kernel
theorem d_law_638 : decode code 638 = .ok (.if_icmp .eq 54, 3) := by decide +kernel
theorem d_law_641 : decode code 641 = .ok (.iconst 0, 1) := by decide +kernel
theorem d_law_642 : decode code 642 = .ok (.ireturn, 1) := by decide +kernel
theorem d_law_643 : decode code 643 = .ok (.aload_n 1, 1) := by decide +kernel
theorem d_law_644 : decode code 644 = .ok (.invokevirtual 93, 3) := by decide +kernel
theorem d_law_647 : decode code 647 = .ok (.aload_n 2, 1) := by decide +kernel
theorem d_law_648 : decode code 648 = .ok (.invokevirtual 96, 3) := by decide +kernel
theorem d_law_651 : decode code 651 = .ok (.if_icmp .eq 41, 3) := by decide +kernel
theorem d_law_654 : decode code 654 = .ok (.iconst 0, 1) := by decide +kernel
theorem d_law_655 : decode code 655 = .ok (.ireturn, 1) := by decide +kernel
theorem d_law_656 : decode code 656 = .ok (.aload_n 1, 1) := by decide +kernel
theorem d_law_657 : decode code 657 = .ok (.invokevirtual 97, 3) := by decide +kernel
theorem d_law_660 : decode code 660 = .ok (.aload_n 2, 1) := by decide +kernel
theorem d_law_661 : decode code 661 = .ok (.invokevirtual 100, 3) := by decide +kernel
theorem d_law_664 : decode code 664 = .ok (.if_icmp .eq 28, 3) := by decide +kernel
theorem d_law_667 : decode code 667 = .ok (.iconst 0, 1) := by decide +kernel
theorem d_law_668 : decode code 668 = .ok (.ireturn, 1) := by decide +kernel
theorem d_law_669 : decode code 669 = .ok (.aload_n 1, 1) := by decide +kernel
theorem d_law_670 : decode code 670 = .ok (.aload_n 0, 1) := by decide +kernel
theorem d_law_671 : decode code 671 = .ok (.iload_n 3, 1) := by decide +kernel
theorem d_law_672 : decode code 672 = .ok (.iconst 1, 1) := by decide +kernel
theorem d_law_673 : decode code 673 = .ok (.iadd, 1) := by decide +kernel
theorem d_law_674 : decode code 674 = .ok (.iaload, 1) := by decide +kernel
theorem d_law_675 : decode code 675 = .ok (.invokevirtual 101, 3) := by decide +kernel
theorem d_law_678 : decode code 678 = .ok (.aload_n 2, 1) := by decide +kernel
theorem d_law_679 : decode code 679 = .ok (.aload_n 0, 1) := by decide +kernel
theorem d_law_680 : decode code 680 = .ok (.iload_n 3, 1) := by decide +kernel
theorem d_law_681 : decode code 681 = .ok (.iconst 1, 1) := by decide +kernel
theorem d_law_682 : decode code 682 = .ok (.iadd, 1) := by decide +kernel
theorem d_law_683 : decode code 683 = .ok (.iaload, 1) := by decide +kernel
theorem d_law_684 : decode code 684 = .ok (.invokevirtual 104, 3) := by decide +kernel
theorem d_law_687 : decode code 687 = .ok (.if_icmp .eq 5, 3) := by decide +kernel
theorem d_law_690 : decode code 690 = .ok (.iconst 0, 1) := by decide +kernel
theorem d_law_691 : decode code 691 = .ok (.ireturn, 1) := by decide +kernel
theorem d_law_692 : decode code 692 = .ok (.iinc 3 6, 3) := by decide +kernel
theorem d_law_695 : decode code 695 = .ok (.goto (-677), 3) := by decide +kernel
theorem d_law_698 : decode code 698 = .ok (.iconst 1, 1) := by decide +kernel
theorem d_law_699 : decode code 699 = .ok (.ireturn, 1) := by decide +kernel
