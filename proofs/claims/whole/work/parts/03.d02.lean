theorem d_Reader_isDigit_17 : decode m_Reader_isDigit.2.1 17 = .ok (.ireturn, 1) := by decide +kernel
theorem d_Reader_pile_0 : decode m_Reader_pile.2.1 0 = .ok (.aload_n 0, 1) := by decide +kernel
theorem d_Reader_pile_1 : decode m_Reader_pile.2.1 1 = .ok (.getfield 14, 3) := by decide +kernel
theorem d_Reader_pile_4 : decode m_Reader_pile.2.1 4 = .ok (.aload_n 0, 1) := by decide +kernel
theorem d_Reader_pile_5 : decode m_Reader_pile.2.1 5 = .ok (.getfield 26, 3) := by decide +kernel
theorem d_Reader_pile_8 : decode m_Reader_pile.2.1 8 = .ok (.iload_n 1, 1) := by decide +kernel
theorem d_Reader_pile_9 : decode m_Reader_pile.2.1 9 = .ok (.invokevirtual 92, 3) := by decide +kernel
theorem d_Reader_pile_12 : decode m_Reader_pile.2.1 12 = .ok (.aload_n 0, 1) := by decide +kernel
theorem d_Reader_pile_13 : decode m_Reader_pile.2.1 13 = .ok (.getfield 20, 3) := by decide +kernel
theorem d_Reader_pile_16 : decode m_Reader_pile.2.1 16 = .ok (.aload_n 0, 1) := by decide +kernel
theorem d_Reader_pile_17 : decode m_Reader_pile.2.1 17 = .ok (.getfield 26, 3) := by decide +kernel
theorem d_Reader_pile_20 : decode m_Reader_pile.2.1 20 = .ok (.aload_n 0, 1) := by decide +kernel
theorem d_Reader_pile_21 : decode m_Reader_pile.2.1 21 = .ok (.getfield 33, 3) := by decide +kernel
theorem d_Reader_pile_24 : decode m_Reader_pile.2.1 24 = .ok (.invokevirtual 92, 3) := by decide +kernel
theorem d_Reader_pile_27 : decode m_Reader_pile.2.1 27 = .ok (.aload_n 0, 1) := by decide +kernel
theorem d_Reader_pile_28 : decode m_Reader_pile.2.1 28 = .ok (.dup, 1) := by decide +kernel
theorem d_Reader_pile_29 : decode m_Reader_pile.2.1 29 = .ok (.getfield 26, 3) := by decide +kernel
theorem d_Reader_pile_32 : decode m_Reader_pile.2.1 32 = .ok (.iconst 1, 1) := by decide +kernel
theorem d_Reader_pile_33 : decode m_Reader_pile.2.1 33 = .ok (.iadd, 1) := by decide +kernel
theorem d_Reader_pile_34 : decode m_Reader_pile.2.1 34 = .ok (.putfield 26, 3) := by decide +kernel
theorem d_Reader_pile_37 : decode m_Reader_pile.2.1 37 = .ok (.aload_n 0, 1) := by decide +kernel
theorem d_Reader_pile_38 : decode m_Reader_pile.2.1 38 = .ok (.dup, 1) := by decide +kernel
theorem d_Reader_pile_39 : decode m_Reader_pile.2.1 39 = .ok (.getfield 33, 3) := by decide +kernel
theorem d_Reader_pile_42 : decode m_Reader_pile.2.1 42 = .ok (.iconst 1, 1) := by decide +kernel
theorem d_Reader_pile_43 : decode m_Reader_pile.2.1 43 = .ok (.iadd, 1) := by decide +kernel
theorem d_Reader_pile_44 : decode m_Reader_pile.2.1 44 = .ok (.putfield 33, 3) := by decide +kernel
theorem d_Reader_pile_47 : decode m_Reader_pile.2.1 47 = .ok (.return_, 1) := by decide +kernel
theorem d_Reader_addLeaf_0 : decode m_Reader_addLeaf.2.1 0 = .ok (.aload_n 0, 1) := by decide +kernel
theorem d_Reader_addLeaf_1 : decode m_Reader_addLeaf.2.1 1 = .ok (.aload_n 1, 1) := by decide +kernel
theorem d_Reader_addLeaf_2 : decode m_Reader_addLeaf.2.1 2 = .ok (.iload_n 2, 1) := by decide +kernel
theorem d_Reader_addLeaf_3 : decode m_Reader_addLeaf.2.1 3 = .ok (.iload_n 3, 1) := by decide +kernel
theorem d_Reader_addLeaf_4 : decode m_Reader_addLeaf.2.1 4 = .ok (.bipush (-9), 2) := by decide +kernel
theorem d_Reader_addLeaf_6 : decode m_Reader_addLeaf.2.1 6 = .ok (.bipush (-9), 2) := by decide +kernel
theorem d_Reader_addLeaf_8 : decode m_Reader_addLeaf.2.1 8 = .ok (.aload_n 0, 1) := by decide +kernel
theorem d_Reader_addLeaf_9 : decode m_Reader_addLeaf.2.1 9 = .ok (.getfield 33, 3) := by decide +kernel
theorem d_Reader_addLeaf_12 : decode m_Reader_addLeaf.2.1 12 = .ok (.invokevirtual 100, 3) := by decide +kernel
theorem d_Reader_addLeaf_15 : decode m_Reader_addLeaf.2.1 15 = .ok (.aload_n 0, 1) := by decide +kernel
theorem d_Reader_addLeaf_16 : decode m_Reader_addLeaf.2.1 16 = .ok (.iconst 0, 1) := by decide +kernel
theorem d_Reader_addLeaf_17 : decode m_Reader_addLeaf.2.1 17 = .ok (.putfield 39, 3) := by decide +kernel
theorem d_Reader_addLeaf_20 : decode m_Reader_addLeaf.2.1 20 = .ok (.aload_n 0, 1) := by decide +kernel
theorem d_Reader_addLeaf_21 : decode m_Reader_addLeaf.2.1 21 = .ok (.dup, 1) := by decide +kernel
theorem d_Reader_addLeaf_22 : decode m_Reader_addLeaf.2.1 22 = .ok (.getfield 33, 3) := by decide +kernel
theorem d_Reader_addLeaf_25 : decode m_Reader_addLeaf.2.1 25 = .ok (.iload 4, 2) := by decide +kernel
theorem d_Reader_addLeaf_27 : decode m_Reader_addLeaf.2.1 27 = .ok (.iadd, 1) := by decide +kernel
theorem d_Reader_addLeaf_28 : decode m_Reader_addLeaf.2.1 28 = .ok (.putfield 33, 3) := by decide +kernel
theorem d_Reader_addLeaf_31 : decode m_Reader_addLeaf.2.1 31 = .ok (.return_, 1) := by decide +kernel
theorem d_Reader_addNode_0 : decode m_Reader_addNode.2.1 0 = .ok (.aload_n 1, 1) := by decide +kernel
theorem d_Reader_addNode_1 : decode m_Reader_addNode.2.1 1 = .ok (.invokevirtual 104, 3) := by decide +kernel
theorem d_Reader_addNode_4 : decode m_Reader_addNode.2.1 4 = .ok (.ifCond .eq 10, 3) := by decide +kernel
theorem d_Reader_addNode_7 : decode m_Reader_addNode.2.1 7 = .ok (.aload_n 0, 1) := by decide +kernel
theorem d_Reader_addNode_8 : decode m_Reader_addNode.2.1 8 = .ok (.iload 6, 2) := by decide +kernel
theorem d_Reader_addNode_10 : decode m_Reader_addNode.2.1 10 = .ok (.putfield 36, 3) := by decide +kernel
theorem d_Reader_addNode_13 : decode m_Reader_addNode.2.1 13 = .ok (.return_, 1) := by decide +kernel
theorem d_Reader_addNode_14 : decode m_Reader_addNode.2.1 14 = .ok (.aload_n 1, 1) := by decide +kernel
theorem d_Reader_addNode_15 : decode m_Reader_addNode.2.1 15 = .ok (.iload_n 2, 1) := by decide +kernel
theorem d_Reader_addNode_16 : decode m_Reader_addNode.2.1 16 = .ok (.iload_n 3, 1) := by decide +kernel
theorem d_Reader_addNode_17 : decode m_Reader_addNode.2.1 17 = .ok (.iload 4, 2) := by decide +kernel
theorem d_Reader_addNode_19 : decode m_Reader_addNode.2.1 19 = .ok (.iload 5, 2) := by decide +kernel
theorem d_Reader_addNode_21 : decode m_Reader_addNode.2.1 21 = .ok (.invokevirtual 108, 3) := by decide +kernel
theorem d_Reader_addNode_24 : decode m_Reader_addNode.2.1 24 = .ok (.aload_n 0, 1) := by decide +kernel
theorem d_Reader_addNode_25 : decode m_Reader_addNode.2.1 25 = .ok (.getfield 23, 3) := by decide +kernel
theorem d_Reader_addNode_28 : decode m_Reader_addNode.2.1 28 = .ok (.aload_n 0, 1) := by decide +kernel
theorem d_Reader_addNode_29 : decode m_Reader_addNode.2.1 29 = .ok (.getfield 30, 3) := by decide +kernel
theorem d_Reader_addNode_32 : decode m_Reader_addNode.2.1 32 = .ok (.aload_n 1, 1) := by decide +kernel
theorem d_Reader_addNode_33 : decode m_Reader_addNode.2.1 33 = .ok (.invokevirtual 112, 3) := by decide +kernel
theorem d_Reader_addNode_36 : decode m_Reader_addNode.2.1 36 = .ok (.invokevirtual 92, 3) := by decide +kernel
theorem d_Reader_addNode_39 : decode m_Reader_addNode.2.1 39 = .ok (.aload_n 0, 1) := by decide +kernel
theorem d_Reader_addNode_40 : decode m_Reader_addNode.2.1 40 = .ok (.dup, 1) := by decide +kernel
theorem d_Reader_addNode_41 : decode m_Reader_addNode.2.1 41 = .ok (.getfield 30, 3) := by decide +kernel
theorem d_Reader_addNode_44 : decode m_Reader_addNode.2.1 44 = .ok (.iconst 1, 1) := by decide +kernel
theorem d_Reader_addNode_45 : decode m_Reader_addNode.2.1 45 = .ok (.iadd, 1) := by decide +kernel
theorem d_Reader_addNode_46 : decode m_Reader_addNode.2.1 46 = .ok (.putfield 30, 3) := by decide +kernel
theorem d_Reader_addNode_49 : decode m_Reader_addNode.2.1 49 = .ok (.return_, 1) := by decide +kernel
theorem d_Reader_takeOperator_0 : decode m_Reader_takeOperator.2.1 0 = .ok (.iload_n 1, 1) := by decide +kernel
theorem d_Reader_takeOperator_1 : decode m_Reader_takeOperator.2.1 1 = .ok (.invokestatic 78, 3) := by decide +kernel
theorem d_Reader_takeOperator_4 : decode m_Reader_takeOperator.2.1 4 = .ok (.ifCond .ne 10, 3) := by decide +kernel
theorem d_Reader_takeOperator_7 : decode m_Reader_takeOperator.2.1 7 = .ok (.iload_n 1, 1) := by decide +kernel
theorem d_Reader_takeOperator_8 : decode m_Reader_takeOperator.2.1 8 = .ok (.invokestatic 83, 3) := by decide +kernel
theorem d_Reader_takeOperator_11 : decode m_Reader_takeOperator.2.1 11 = .ok (.ifCond .eq 7, 3) := by decide +kernel
theorem d_Reader_takeOperator_14 : decode m_Reader_takeOperator.2.1 14 = .ok (.iconst 1, 1) := by decide +kernel
theorem d_Reader_takeOperator_15 : decode m_Reader_takeOperator.2.1 15 = .ok (.goto 4, 3) := by decide +kernel
theorem d_Reader_takeOperator_18 : decode m_Reader_takeOperator.2.1 18 = .ok (.iconst 0, 1) := by decide +kernel
theorem d_Reader_takeOperator_19 : decode m_Reader_takeOperator.2.1 19 = .ok (.istore_n 3, 1) := by decide +kernel
theorem d_Reader_takeOperator_20 : decode m_Reader_takeOperator.2.1 20 = .ok (.aload_n 0, 1) := by decide +kernel
theorem d_Reader_takeOperator_21 : decode m_Reader_takeOperator.2.1 21 = .ok (.iload_n 3, 1) := by decide +kernel
theorem d_Reader_takeOperator_22 : decode m_Reader_takeOperator.2.1 22 = .ok (.ifCond .eq 10, 3) := by decide +kernel
theorem d_Reader_takeOperator_25 : decode m_Reader_takeOperator.2.1 25 = .ok (.iload_n 1, 1) := by decide +kernel
theorem d_Reader_takeOperator_26 : decode m_Reader_takeOperator.2.1 26 = .ok (.invokestatic 86, 3) := by decide +kernel
theorem d_Reader_takeOperator_29 : decode m_Reader_takeOperator.2.1 29 = .ok (.goto 4, 3) := by decide +kernel
theorem d_Reader_takeOperator_32 : decode m_Reader_takeOperator.2.1 32 = .ok (.iconst 1, 1) := by decide +kernel
theorem d_Reader_takeOperator_33 : decode m_Reader_takeOperator.2.1 33 = .ok (.aload_n 2, 1) := by decide +kernel
theorem d_Reader_takeOperator_34 : decode m_Reader_takeOperator.2.1 34 = .ok (.invokevirtual 89, 3) := by decide +kernel
theorem d_Reader_takeOperator_37 : decode m_Reader_takeOperator.2.1 37 = .ok (.aload_n 0, 1) := by decide +kernel
theorem d_Reader_takeOperator_38 : decode m_Reader_takeOperator.2.1 38 = .ok (.getfield 36, 3) := by decide +kernel
theorem d_Reader_takeOperator_41 : decode m_Reader_takeOperator.2.1 41 = .ok (.bipush (-9), 2) := by decide +kernel
theorem d_Reader_takeOperator_43 : decode m_Reader_takeOperator.2.1 43 = .ok (.if_icmp .eq 4, 3) := by decide +kernel
theorem d_Reader_takeOperator_46 : decode m_Reader_takeOperator.2.1 46 = .ok (.return_, 1) := by decide +kernel
theorem d_Reader_takeOperator_47 : decode m_Reader_takeOperator.2.1 47 = .ok (.iload_n 3, 1) := by decide +kernel
theorem d_Reader_takeOperator_48 : decode m_Reader_takeOperator.2.1 48 = .ok (.ifCond .eq 16, 3) := by decide +kernel
theorem d_Reader_takeOperator_51 : decode m_Reader_takeOperator.2.1 51 = .ok (.aload_n 0, 1) := by decide +kernel
theorem d_Reader_takeOperator_52 : decode m_Reader_takeOperator.2.1 52 = .ok (.iload_n 1, 1) := by decide +kernel
theorem d_Reader_takeOperator_53 : decode m_Reader_takeOperator.2.1 53 = .ok (.invokevirtual 67, 3) := by decide +kernel
theorem d_Reader_takeOperator_56 : decode m_Reader_takeOperator.2.1 56 = .ok (.aload_n 0, 1) := by decide +kernel
theorem d_Reader_takeOperator_57 : decode m_Reader_takeOperator.2.1 57 = .ok (.iconst 1, 1) := by decide +kernel
theorem d_Reader_takeOperator_58 : decode m_Reader_takeOperator.2.1 58 = .ok (.putfield 39, 3) := by decide +kernel
theorem d_Reader_takeOperator_61 : decode m_Reader_takeOperator.2.1 61 = .ok (.goto 67, 3) := by decide +kernel
theorem d_Reader_takeOperator_64 : decode m_Reader_takeOperator.2.1 64 = .ok (.iload_n 1, 1) := by decide +kernel
theorem d_Reader_takeOperator_65 : decode m_Reader_takeOperator.2.1 65 = .ok (.bipush 41, 2) := by decide +kernel
theorem d_Reader_takeOperator_67 : decode m_Reader_takeOperator.2.1 67 = .ok (.if_icmp .ne 33, 3) := by decide +kernel
theorem d_Reader_takeOperator_70 : decode m_Reader_takeOperator.2.1 70 = .ok (.aload_n 0, 1) := by decide +kernel
theorem d_Reader_takeOperator_71 : decode m_Reader_takeOperator.2.1 71 = .ok (.getfield 26, 3) := by decide +kernel
theorem d_Reader_takeOperator_74 : decode m_Reader_takeOperator.2.1 74 = .ok (.ifCond .le 26, 3) := by decide +kernel
theorem d_Reader_takeOperator_77 : decode m_Reader_takeOperator.2.1 77 = .ok (.aload_n 0, 1) := by decide +kernel
theorem d_Reader_takeOperator_78 : decode m_Reader_takeOperator.2.1 78 = .ok (.dup, 1) := by decide +kernel
theorem d_Reader_takeOperator_79 : decode m_Reader_takeOperator.2.1 79 = .ok (.getfield 26, 3) := by decide +kernel
theorem d_Reader_takeOperator_82 : decode m_Reader_takeOperator.2.1 82 = .ok (.iconst 1, 1) := by decide +kernel
theorem d_Reader_takeOperator_83 : decode m_Reader_takeOperator.2.1 83 = .ok (.isub, 1) := by decide +kernel
theorem d_Reader_takeOperator_84 : decode m_Reader_takeOperator.2.1 84 = .ok (.putfield 26, 3) := by decide +kernel
theorem d_Reader_takeOperator_87 : decode m_Reader_takeOperator.2.1 87 = .ok (.aload_n 0, 1) := by decide +kernel
theorem d_Reader_takeOperator_88 : decode m_Reader_takeOperator.2.1 88 = .ok (.dup, 1) := by decide +kernel
theorem d_Reader_takeOperator_89 : decode m_Reader_takeOperator.2.1 89 = .ok (.getfield 33, 3) := by decide +kernel
theorem d_Reader_takeOperator_92 : decode m_Reader_takeOperator.2.1 92 = .ok (.iconst 1, 1) := by decide +kernel
theorem d_Reader_takeOperator_93 : decode m_Reader_takeOperator.2.1 93 = .ok (.iadd, 1) := by decide +kernel
theorem d_Reader_takeOperator_94 : decode m_Reader_takeOperator.2.1 94 = .ok (.putfield 33, 3) := by decide +kernel
theorem d_Reader_takeOperator_97 : decode m_Reader_takeOperator.2.1 97 = .ok (.goto 31, 3) := by decide +kernel
theorem d_Reader_takeOperator_100 : decode m_Reader_takeOperator.2.1 100 = .ok (.iload_n 1, 1) := by decide +kernel
theorem d_Reader_takeOperator_101 : decode m_Reader_takeOperator.2.1 101 = .ok (.iconst (-1), 1) := by decide +kernel
theorem d_Reader_takeOperator_102 : decode m_Reader_takeOperator.2.1 102 = .ok (.if_icmp .ne 18, 3) := by decide +kernel
theorem d_Reader_takeOperator_105 : decode m_Reader_takeOperator.2.1 105 = .ok (.aload_n 0, 1) := by decide +kernel
theorem d_Reader_takeOperator_106 : decode m_Reader_takeOperator.2.1 106 = .ok (.getfield 26, 3) := by decide +kernel
theorem d_Reader_takeOperator_109 : decode m_Reader_takeOperator.2.1 109 = .ok (.ifCond .ne 11, 3) := by decide +kernel
theorem d_Reader_takeOperator_112 : decode m_Reader_takeOperator.2.1 112 = .ok (.aload_n 0, 1) := by decide +kernel
theorem d_Reader_takeOperator_113 : decode m_Reader_takeOperator.2.1 113 = .ok (.iconst 1, 1) := by decide +kernel
theorem d_Reader_takeOperator_114 : decode m_Reader_takeOperator.2.1 114 = .ok (.putfield 43, 3) := by decide +kernel
theorem d_Reader_takeOperator_117 : decode m_Reader_takeOperator.2.1 117 = .ok (.goto 11, 3) := by decide +kernel
theorem d_Reader_takeOperator_120 : decode m_Reader_takeOperator.2.1 120 = .ok (.aload_n 0, 1) := by decide +kernel
theorem d_Reader_takeOperator_121 : decode m_Reader_takeOperator.2.1 121 = .ok (.aload_n 0, 1) := by decide +kernel
theorem d_Reader_takeOperator_122 : decode m_Reader_takeOperator.2.1 122 = .ok (.getfield 33, 3) := by decide +kernel
theorem d_Reader_takeOperator_125 : decode m_Reader_takeOperator.2.1 125 = .ok (.putfield 36, 3) := by decide +kernel
theorem d_Reader_takeOperator_128 : decode m_Reader_takeOperator.2.1 128 = .ok (.return_, 1) := by decide +kernel
theorem d_Reader_settle_0 : decode m_Reader_settle.2.1 0 = .ok (.aload_n 0, 1) := by decide +kernel
theorem d_Reader_settle_1 : decode m_Reader_settle.2.1 1 = .ok (.getfield 26, 3) := by decide +kernel
theorem d_Reader_settle_4 : decode m_Reader_settle.2.1 4 = .ok (.ifCond .le 117, 3) := by decide +kernel
theorem d_Reader_settle_7 : decode m_Reader_settle.2.1 7 = .ok (.aload_n 0, 1) := by decide +kernel
theorem d_Reader_settle_8 : decode m_Reader_settle.2.1 8 = .ok (.getfield 36, 3) := by decide +kernel
theorem d_Reader_settle_11 : decode m_Reader_settle.2.1 11 = .ok (.bipush (-9), 2) := by decide +kernel
theorem d_Reader_settle_13 : decode m_Reader_settle.2.1 13 = .ok (.if_icmp .ne 108, 3) := by decide +kernel
theorem d_Reader_settle_16 : decode m_Reader_settle.2.1 16 = .ok (.aload_n 0, 1) := by decide +kernel
theorem d_Reader_settle_17 : decode m_Reader_settle.2.1 17 = .ok (.getfield 14, 3) := by decide +kernel
theorem d_Reader_settle_20 : decode m_Reader_settle.2.1 20 = .ok (.aload_n 0, 1) := by decide +kernel
theorem d_Reader_settle_21 : decode m_Reader_settle.2.1 21 = .ok (.getfield 26, 3) := by decide +kernel
theorem d_Reader_settle_24 : decode m_Reader_settle.2.1 24 = .ok (.iconst 1, 1) := by decide +kernel
theorem d_Reader_settle_25 : decode m_Reader_settle.2.1 25 = .ok (.isub, 1) := by decide +kernel
theorem d_Reader_settle_26 : decode m_Reader_settle.2.1 26 = .ok (.invokevirtual 51, 3) := by decide +kernel
theorem d_Reader_settle_29 : decode m_Reader_settle.2.1 29 = .ok (.invokestatic 86, 3) := by decide +kernel
theorem d_Reader_settle_32 : decode m_Reader_settle.2.1 32 = .ok (.iload_n 1, 1) := by decide +kernel
theorem d_Reader_settle_33 : decode m_Reader_settle.2.1 33 = .ok (.if_icmp .lt 88, 3) := by decide +kernel
theorem d_Reader_settle_36 : decode m_Reader_settle.2.1 36 = .ok (.aload_n 0, 1) := by decide +kernel
theorem d_Reader_settle_37 : decode m_Reader_settle.2.1 37 = .ok (.dup, 1) := by decide +kernel
theorem d_Reader_settle_38 : decode m_Reader_settle.2.1 38 = .ok (.getfield 26, 3) := by decide +kernel
theorem d_Reader_settle_41 : decode m_Reader_settle.2.1 41 = .ok (.iconst 1, 1) := by decide +kernel
theorem d_Reader_settle_42 : decode m_Reader_settle.2.1 42 = .ok (.isub, 1) := by decide +kernel
theorem d_Reader_settle_43 : decode m_Reader_settle.2.1 43 = .ok (.putfield 26, 3) := by decide +kernel
theorem d_Reader_settle_46 : decode m_Reader_settle.2.1 46 = .ok (.aload_n 0, 1) := by decide +kernel
theorem d_Reader_settle_47 : decode m_Reader_settle.2.1 47 = .ok (.getfield 14, 3) := by decide +kernel
theorem d_Reader_settle_50 : decode m_Reader_settle.2.1 50 = .ok (.aload_n 0, 1) := by decide +kernel
theorem d_Reader_settle_51 : decode m_Reader_settle.2.1 51 = .ok (.getfield 26, 3) := by decide +kernel
theorem d_Reader_settle_54 : decode m_Reader_settle.2.1 54 = .ok (.invokevirtual 51, 3) := by decide +kernel
theorem d_Reader_settle_57 : decode m_Reader_settle.2.1 57 = .ok (.istore_n 3, 1) := by decide +kernel
theorem d_Reader_settle_58 : decode m_Reader_settle.2.1 58 = .ok (.aload_n 0, 1) := by decide +kernel
theorem d_Reader_settle_59 : decode m_Reader_settle.2.1 59 = .ok (.invokevirtual 96, 3) := by decide +kernel
theorem d_Reader_settle_62 : decode m_Reader_settle.2.1 62 = .ok (.istore 4, 2) := by decide +kernel
theorem d_Reader_settle_64 : decode m_Reader_settle.2.1 64 = .ok (.iload_n 3, 1) := by decide +kernel
theorem d_Reader_settle_65 : decode m_Reader_settle.2.1 65 = .ok (.bipush 126, 2) := by decide +kernel
theorem d_Reader_settle_67 : decode m_Reader_settle.2.1 67 = .ok (.if_icmp .ne 8, 3) := by decide +kernel
theorem d_Reader_settle_70 : decode m_Reader_settle.2.1 70 = .ok (.iload 4, 2) := by decide +kernel
theorem d_Reader_settle_72 : decode m_Reader_settle.2.1 72 = .ok (.goto 7, 3) := by decide +kernel
theorem d_Reader_settle_75 : decode m_Reader_settle.2.1 75 = .ok (.aload_n 0, 1) := by decide +kernel
theorem d_Reader_settle_76 : decode m_Reader_settle.2.1 76 = .ok (.invokevirtual 96, 3) := by decide +kernel
theorem d_Reader_settle_79 : decode m_Reader_settle.2.1 79 = .ok (.istore 5, 2) := by decide +kernel
theorem d_Reader_settle_81 : decode m_Reader_settle.2.1 81 = .ok (.iload_n 3, 1) := by decide +kernel
theorem d_Reader_settle_82 : decode m_Reader_settle.2.1 82 = .ok (.bipush 126, 2) := by decide +kernel
theorem d_Reader_settle_84 : decode m_Reader_settle.2.1 84 = .ok (.if_icmp .ne 8, 3) := by decide +kernel
theorem d_Reader_settle_87 : decode m_Reader_settle.2.1 87 = .ok (.bipush (-9), 2) := by decide +kernel
theorem d_Reader_settle_89 : decode m_Reader_settle.2.1 89 = .ok (.goto 5, 3) := by decide +kernel
theorem d_Reader_settle_92 : decode m_Reader_settle.2.1 92 = .ok (.iload 4, 2) := by decide +kernel
theorem d_Reader_settle_94 : decode m_Reader_settle.2.1 94 = .ok (.istore 6, 2) := by decide +kernel
theorem d_Reader_settle_96 : decode m_Reader_settle.2.1 96 = .ok (.aload_n 0, 1) := by decide +kernel
theorem d_Reader_settle_97 : decode m_Reader_settle.2.1 97 = .ok (.aload_n 2, 1) := by decide +kernel
theorem d_Reader_settle_98 : decode m_Reader_settle.2.1 98 = .ok (.iload_n 3, 1) := by decide +kernel
theorem d_Reader_settle_99 : decode m_Reader_settle.2.1 99 = .ok (.iconst 0, 1) := by decide +kernel
theorem d_Reader_settle_100 : decode m_Reader_settle.2.1 100 = .ok (.iload 5, 2) := by decide +kernel
theorem d_Reader_settle_102 : decode m_Reader_settle.2.1 102 = .ok (.iload 6, 2) := by decide +kernel
theorem d_Reader_settle_104 : decode m_Reader_settle.2.1 104 = .ok (.aload_n 0, 1) := by decide +kernel
theorem d_Reader_settle_105 : decode m_Reader_settle.2.1 105 = .ok (.getfield 20, 3) := by decide +kernel
theorem d_Reader_settle_108 : decode m_Reader_settle.2.1 108 = .ok (.aload_n 0, 1) := by decide +kernel
theorem d_Reader_settle_109 : decode m_Reader_settle.2.1 109 = .ok (.getfield 26, 3) := by decide +kernel
theorem d_Reader_settle_112 : decode m_Reader_settle.2.1 112 = .ok (.invokevirtual 51, 3) := by decide +kernel
theorem d_Reader_settle_115 : decode m_Reader_settle.2.1 115 = .ok (.invokevirtual 100, 3) := by decide +kernel
theorem d_Reader_settle_118 : decode m_Reader_settle.2.1 118 = .ok (.goto (-118), 3) := by decide +kernel
theorem d_Reader_settle_121 : decode m_Reader_settle.2.1 121 = .ok (.return_, 1) := by decide +kernel
theorem d_Reader_takeOff_0 : decode m_Reader_takeOff.2.1 0 = .ok (.aload_n 0, 1) := by decide +kernel
theorem d_Reader_takeOff_1 : decode m_Reader_takeOff.2.1 1 = .ok (.dup, 1) := by decide +kernel
theorem d_Reader_takeOff_2 : decode m_Reader_takeOff.2.1 2 = .ok (.getfield 30, 3) := by decide +kernel
theorem d_Reader_takeOff_5 : decode m_Reader_takeOff.2.1 5 = .ok (.iconst 1, 1) := by decide +kernel
theorem d_Reader_takeOff_6 : decode m_Reader_takeOff.2.1 6 = .ok (.isub, 1) := by decide +kernel
theorem d_Reader_takeOff_7 : decode m_Reader_takeOff.2.1 7 = .ok (.putfield 30, 3) := by decide +kernel
theorem d_Reader_takeOff_10 : decode m_Reader_takeOff.2.1 10 = .ok (.aload_n 0, 1) := by decide +kernel
theorem d_Reader_takeOff_11 : decode m_Reader_takeOff.2.1 11 = .ok (.getfield 23, 3) := by decide +kernel
theorem d_Reader_takeOff_14 : decode m_Reader_takeOff.2.1 14 = .ok (.aload_n 0, 1) := by decide +kernel
theorem d_Reader_takeOff_15 : decode m_Reader_takeOff.2.1 15 = .ok (.getfield 30, 3) := by decide +kernel
theorem d_Reader_takeOff_18 : decode m_Reader_takeOff.2.1 18 = .ok (.invokevirtual 51, 3) := by decide +kernel
theorem d_Reader_takeOff_21 : decode m_Reader_takeOff.2.1 21 = .ok (.ireturn, 1) := by decide +kernel
theorem d_Acts_init_0 : decode m_Acts_init.2.1 0 = .ok (.aload_n 0, 1) := by decide +kernel
theorem d_Acts_init_1 : decode m_Acts_init.2.1 1 = .ok (.invokespecial 3, 3) := by decide +kernel
theorem d_Acts_init_4 : decode m_Acts_init.2.1 4 = .ok (.aload_n 0, 1) := by decide +kernel
theorem d_Acts_init_5 : decode m_Acts_init.2.1 5 = .ok (.new 9, 3) := by decide +kernel
theorem d_Acts_init_8 : decode m_Acts_init.2.1 8 = .ok (.dup, 1) := by decide +kernel
theorem d_Acts_init_9 : decode m_Acts_init.2.1 9 = .ok (.bipush 10, 2) := by decide +kernel
theorem d_Acts_init_11 : decode m_Acts_init.2.1 11 = .ok (.invokespecial 11, 3) := by decide +kernel
theorem d_Acts_init_14 : decode m_Acts_init.2.1 14 = .ok (.putfield 14, 3) := by decide +kernel
theorem d_Acts_init_17 : decode m_Acts_init.2.1 17 = .ok (.aload_n 0, 1) := by decide +kernel
theorem d_Acts_init_18 : decode m_Acts_init.2.1 18 = .ok (.new 9, 3) := by decide +kernel
theorem d_Acts_init_21 : decode m_Acts_init.2.1 21 = .ok (.dup, 1) := by decide +kernel
theorem d_Acts_init_22 : decode m_Acts_init.2.1 22 = .ok (.bipush 10, 2) := by decide +kernel
theorem d_Acts_init_24 : decode m_Acts_init.2.1 24 = .ok (.invokespecial 11, 3) := by decide +kernel
theorem d_Acts_init_27 : decode m_Acts_init.2.1 27 = .ok (.putfield 20, 3) := by decide +kernel
theorem d_Acts_init_30 : decode m_Acts_init.2.1 30 = .ok (.aload_n 0, 1) := by decide +kernel
theorem d_Acts_init_31 : decode m_Acts_init.2.1 31 = .ok (.new 9, 3) := by decide +kernel
theorem d_Acts_init_34 : decode m_Acts_init.2.1 34 = .ok (.dup, 1) := by decide +kernel
theorem d_Acts_init_35 : decode m_Acts_init.2.1 35 = .ok (.bipush 10, 2) := by decide +kernel
theorem d_Acts_init_37 : decode m_Acts_init.2.1 37 = .ok (.invokespecial 11, 3) := by decide +kernel
theorem d_Acts_init_40 : decode m_Acts_init.2.1 40 = .ok (.putfield 23, 3) := by decide +kernel
theorem d_Acts_init_43 : decode m_Acts_init.2.1 43 = .ok (.aload_n 0, 1) := by decide +kernel
theorem d_Acts_init_44 : decode m_Acts_init.2.1 44 = .ok (.new 9, 3) := by decide +kernel
theorem d_Acts_init_47 : decode m_Acts_init.2.1 47 = .ok (.dup, 1) := by decide +kernel
theorem d_Acts_init_48 : decode m_Acts_init.2.1 48 = .ok (.bipush 50, 2) := by decide +kernel
theorem d_Acts_init_50 : decode m_Acts_init.2.1 50 = .ok (.invokespecial 11, 3) := by decide +kernel
theorem d_Acts_init_53 : decode m_Acts_init.2.1 53 = .ok (.putfield 26, 3) := by decide +kernel
theorem d_Acts_init_56 : decode m_Acts_init.2.1 56 = .ok (.return_, 1) := by decide +kernel
theorem d_Acts_forget_0 : decode m_Acts_forget.2.1 0 = .ok (.aload_n 0, 1) := by decide +kernel
theorem d_Acts_forget_1 : decode m_Acts_forget.2.1 1 = .ok (.iconst 0, 1) := by decide +kernel
theorem d_Acts_forget_2 : decode m_Acts_forget.2.1 2 = .ok (.putfield 29, 3) := by decide +kernel
theorem d_Acts_forget_5 : decode m_Acts_forget.2.1 5 = .ok (.return_, 1) := by decide +kernel
theorem d_Acts_addExchange_0 : decode m_Acts_addExchange.2.1 0 = .ok (.aload_n 0, 1) := by decide +kernel
theorem d_Acts_addExchange_1 : decode m_Acts_addExchange.2.1 1 = .ok (.iconst 0, 1) := by decide +kernel
theorem d_Acts_addExchange_2 : decode m_Acts_addExchange.2.1 2 = .ok (.iload_n 1, 1) := by decide +kernel
theorem d_Acts_addExchange_3 : decode m_Acts_addExchange.2.1 3 = .ok (.iconst 0, 1) := by decide +kernel
theorem d_Acts_addExchange_4 : decode m_Acts_addExchange.2.1 4 = .ok (.invokevirtual 33, 3) := by decide +kernel
theorem d_Acts_addExchange_7 : decode m_Acts_addExchange.2.1 7 = .ok (.return_, 1) := by decide +kernel
theorem d_Acts_add_0 : decode m_Acts_add.2.1 0 = .ok (.aload_n 0, 1) := by decide +kernel
theorem d_Acts_add_1 : decode m_Acts_add.2.1 1 = .ok (.aload_n 0, 1) := by decide +kernel
theorem d_Acts_add_2 : decode m_Acts_add.2.1 2 = .ok (.getfield 37, 3) := by decide +kernel
theorem d_Acts_add_5 : decode m_Acts_add.2.1 5 = .ok (.iconst 1, 1) := by decide +kernel
theorem d_Acts_add_6 : decode m_Acts_add.2.1 6 = .ok (.iadd, 1) := by decide +kernel
theorem d_Acts_add_7 : decode m_Acts_add.2.1 7 = .ok (.bipush 10, 2) := by decide +kernel
theorem d_Acts_add_9 : decode m_Acts_add.2.1 9 = .ok (.irem, 1) := by decide +kernel
theorem d_Acts_add_10 : decode m_Acts_add.2.1 10 = .ok (.putfield 37, 3) := by decide +kernel
theorem d_Acts_add_13 : decode m_Acts_add.2.1 13 = .ok (.aload_n 0, 1) := by decide +kernel
theorem d_Acts_add_14 : decode m_Acts_add.2.1 14 = .ok (.aload_n 0, 1) := by decide +kernel
theorem d_Acts_add_15 : decode m_Acts_add.2.1 15 = .ok (.getfield 29, 3) := by decide +kernel
theorem d_Acts_add_18 : decode m_Acts_add.2.1 18 = .ok (.iconst 1, 1) := by decide +kernel
theorem d_Acts_add_19 : decode m_Acts_add.2.1 19 = .ok (.iadd, 1) := by decide +kernel
theorem d_Acts_add_20 : decode m_Acts_add.2.1 20 = .ok (.bipush 10, 2) := by decide +kernel
theorem d_Acts_add_22 : decode m_Acts_add.2.1 22 = .ok (.invokestatic 48, 3) := by decide +kernel
theorem d_Acts_add_25 : decode m_Acts_add.2.1 25 = .ok (.putfield 29, 3) := by decide +kernel
theorem d_Acts_add_28 : decode m_Acts_add.2.1 28 = .ok (.aload_n 0, 1) := by decide +kernel
theorem d_Acts_add_29 : decode m_Acts_add.2.1 29 = .ok (.getfield 14, 3) := by decide +kernel
theorem d_Acts_add_32 : decode m_Acts_add.2.1 32 = .ok (.aload_n 0, 1) := by decide +kernel
theorem d_Acts_add_33 : decode m_Acts_add.2.1 33 = .ok (.getfield 37, 3) := by decide +kernel
theorem d_Acts_add_36 : decode m_Acts_add.2.1 36 = .ok (.iload_n 1, 1) := by decide +kernel
theorem d_Acts_add_37 : decode m_Acts_add.2.1 37 = .ok (.invokevirtual 44, 3) := by decide +kernel
theorem d_Acts_add_40 : decode m_Acts_add.2.1 40 = .ok (.aload_n 0, 1) := by decide +kernel
theorem d_Acts_add_41 : decode m_Acts_add.2.1 41 = .ok (.getfield 20, 3) := by decide +kernel
theorem d_Acts_add_44 : decode m_Acts_add.2.1 44 = .ok (.aload_n 0, 1) := by decide +kernel
theorem d_Acts_add_45 : decode m_Acts_add.2.1 45 = .ok (.getfield 37, 3) := by decide +kernel
theorem d_Acts_add_48 : decode m_Acts_add.2.1 48 = .ok (.iload_n 2, 1) := by decide +kernel
theorem d_Acts_add_49 : decode m_Acts_add.2.1 49 = .ok (.invokevirtual 44, 3) := by decide +kernel
theorem d_Acts_add_52 : decode m_Acts_add.2.1 52 = .ok (.aload_n 0, 1) := by decide +kernel
theorem d_Acts_add_53 : decode m_Acts_add.2.1 53 = .ok (.getfield 23, 3) := by decide +kernel
theorem d_Acts_add_56 : decode m_Acts_add.2.1 56 = .ok (.aload_n 0, 1) := by decide +kernel
theorem d_Acts_add_57 : decode m_Acts_add.2.1 57 = .ok (.getfield 37, 3) := by decide +kernel
theorem d_Acts_add_60 : decode m_Acts_add.2.1 60 = .ok (.iload_n 3, 1) := by decide +kernel
theorem d_Acts_add_61 : decode m_Acts_add.2.1 61 = .ok (.invokevirtual 44, 3) := by decide +kernel
theorem d_Acts_add_64 : decode m_Acts_add.2.1 64 = .ok (.return_, 1) := by decide +kernel
theorem d_Acts_addLet_0 : decode m_Acts_addLet.2.1 0 = .ok (.aload_n 0, 1) := by decide +kernel
theorem d_Acts_addLet_1 : decode m_Acts_addLet.2.1 1 = .ok (.iconst 1, 1) := by decide +kernel
theorem d_Acts_addLet_2 : decode m_Acts_addLet.2.1 2 = .ok (.iload_n 1, 1) := by decide +kernel
theorem d_Acts_addLet_3 : decode m_Acts_addLet.2.1 3 = .ok (.iload_n 2, 1) := by decide +kernel
theorem d_Acts_addLet_4 : decode m_Acts_addLet.2.1 4 = .ok (.invokevirtual 33, 3) := by decide +kernel
theorem d_Acts_addLet_7 : decode m_Acts_addLet.2.1 7 = .ok (.return_, 1) := by decide +kernel
theorem d_Acts_addMachine_0 : decode m_Acts_addMachine.2.1 0 = .ok (.aload_n 0, 1) := by decide +kernel
theorem d_Acts_addMachine_1 : decode m_Acts_addMachine.2.1 1 = .ok (.iconst 2, 1) := by decide +kernel
theorem d_Acts_addMachine_2 : decode m_Acts_addMachine.2.1 2 = .ok (.iconst 0, 1) := by decide +kernel
theorem d_Acts_addMachine_3 : decode m_Acts_addMachine.2.1 3 = .ok (.iconst 0, 1) := by decide +kernel
theorem d_Acts_addMachine_4 : decode m_Acts_addMachine.2.1 4 = .ok (.invokevirtual 33, 3) := by decide +kernel
theorem d_Acts_addMachine_7 : decode m_Acts_addMachine.2.1 7 = .ok (.iconst 0, 1) := by decide +kernel
theorem d_Acts_addMachine_8 : decode m_Acts_addMachine.2.1 8 = .ok (.istore_n 2, 1) := by decide +kernel
theorem d_Acts_addMachine_9 : decode m_Acts_addMachine.2.1 9 = .ok (.iload_n 2, 1) := by decide +kernel
theorem d_Acts_addMachine_10 : decode m_Acts_addMachine.2.1 10 = .ok (.iconst 5, 1) := by decide +kernel
theorem d_Acts_addMachine_11 : decode m_Acts_addMachine.2.1 11 = .ok (.if_icmp .ge 29, 3) := by decide +kernel
theorem d_Acts_addMachine_14 : decode m_Acts_addMachine.2.1 14 = .ok (.aload_n 0, 1) := by decide +kernel
theorem d_Acts_addMachine_15 : decode m_Acts_addMachine.2.1 15 = .ok (.getfield 26, 3) := by decide +kernel
theorem d_Acts_addMachine_18 : decode m_Acts_addMachine.2.1 18 = .ok (.aload_n 0, 1) := by decide +kernel
theorem d_Acts_addMachine_19 : decode m_Acts_addMachine.2.1 19 = .ok (.getfield 37, 3) := by decide +kernel
theorem d_Acts_addMachine_22 : decode m_Acts_addMachine.2.1 22 = .ok (.iconst 5, 1) := by decide +kernel
theorem d_Acts_addMachine_23 : decode m_Acts_addMachine.2.1 23 = .ok (.imul, 1) := by decide +kernel
theorem d_Acts_addMachine_24 : decode m_Acts_addMachine.2.1 24 = .ok (.iload_n 2, 1) := by decide +kernel
theorem d_Acts_addMachine_25 : decode m_Acts_addMachine.2.1 25 = .ok (.iadd, 1) := by decide +kernel
theorem d_Acts_addMachine_26 : decode m_Acts_addMachine.2.1 26 = .ok (.aload_n 1, 1) := by decide +kernel
theorem d_Acts_addMachine_27 : decode m_Acts_addMachine.2.1 27 = .ok (.iload_n 2, 1) := by decide +kernel
theorem d_Acts_addMachine_28 : decode m_Acts_addMachine.2.1 28 = .ok (.invokevirtual 40, 3) := by decide +kernel
theorem d_Acts_addMachine_31 : decode m_Acts_addMachine.2.1 31 = .ok (.invokevirtual 44, 3) := by decide +kernel
theorem d_Acts_addMachine_34 : decode m_Acts_addMachine.2.1 34 = .ok (.iinc 2 1, 3) := by decide +kernel
theorem d_Acts_addMachine_37 : decode m_Acts_addMachine.2.1 37 = .ok (.goto (-28), 3) := by decide +kernel
theorem d_Acts_addMachine_40 : decode m_Acts_addMachine.2.1 40 = .ok (.return_, 1) := by decide +kernel
theorem d_Acts_latestKind_0 : decode m_Acts_latestKind.2.1 0 = .ok (.aload_n 0, 1) := by decide +kernel
theorem d_Acts_latestKind_1 : decode m_Acts_latestKind.2.1 1 = .ok (.getfield 14, 3) := by decide +kernel
theorem d_Acts_latestKind_4 : decode m_Acts_latestKind.2.1 4 = .ok (.aload_n 0, 1) := by decide +kernel
theorem d_Acts_latestKind_5 : decode m_Acts_latestKind.2.1 5 = .ok (.getfield 37, 3) := by decide +kernel
theorem d_Acts_latestKind_8 : decode m_Acts_latestKind.2.1 8 = .ok (.invokevirtual 40, 3) := by decide +kernel
theorem d_Acts_latestKind_11 : decode m_Acts_latestKind.2.1 11 = .ok (.ireturn, 1) := by decide +kernel
theorem d_Acts_latestPlace_0 : decode m_Acts_latestPlace.2.1 0 = .ok (.aload_n 0, 1) := by decide +kernel
theorem d_Acts_latestPlace_1 : decode m_Acts_latestPlace.2.1 1 = .ok (.getfield 20, 3) := by decide +kernel
theorem d_Acts_latestPlace_4 : decode m_Acts_latestPlace.2.1 4 = .ok (.aload_n 0, 1) := by decide +kernel
theorem d_Acts_latestPlace_5 : decode m_Acts_latestPlace.2.1 5 = .ok (.getfield 37, 3) := by decide +kernel
theorem d_Acts_latestPlace_8 : decode m_Acts_latestPlace.2.1 8 = .ok (.invokevirtual 40, 3) := by decide +kernel
theorem d_Acts_latestPlace_11 : decode m_Acts_latestPlace.2.1 11 = .ok (.ireturn, 1) := by decide +kernel
theorem d_Acts_latestNumber_0 : decode m_Acts_latestNumber.2.1 0 = .ok (.aload_n 0, 1) := by decide +kernel
theorem d_Acts_latestNumber_1 : decode m_Acts_latestNumber.2.1 1 = .ok (.getfield 23, 3) := by decide +kernel
theorem d_Acts_latestNumber_4 : decode m_Acts_latestNumber.2.1 4 = .ok (.aload_n 0, 1) := by decide +kernel
theorem d_Acts_latestNumber_5 : decode m_Acts_latestNumber.2.1 5 = .ok (.getfield 37, 3) := by decide +kernel
theorem d_Acts_latestNumber_8 : decode m_Acts_latestNumber.2.1 8 = .ok (.invokevirtual 40, 3) := by decide +kernel
theorem d_Acts_latestNumber_11 : decode m_Acts_latestNumber.2.1 11 = .ok (.ireturn, 1) := by decide +kernel
theorem d_Acts_tellMachine_0 : decode m_Acts_tellMachine.2.1 0 = .ok (.iconst 0, 1) := by decide +kernel
theorem d_Acts_tellMachine_1 : decode m_Acts_tellMachine.2.1 1 = .ok (.istore_n 2, 1) := by decide +kernel
theorem d_Acts_tellMachine_2 : decode m_Acts_tellMachine.2.1 2 = .ok (.iload_n 2, 1) := by decide +kernel
theorem d_Acts_tellMachine_3 : decode m_Acts_tellMachine.2.1 3 = .ok (.iconst 5, 1) := by decide +kernel
theorem d_Acts_tellMachine_4 : decode m_Acts_tellMachine.2.1 4 = .ok (.if_icmp .ge 29, 3) := by decide +kernel
theorem d_Acts_tellMachine_7 : decode m_Acts_tellMachine.2.1 7 = .ok (.aload_n 1, 1) := by decide +kernel
theorem d_Acts_tellMachine_8 : decode m_Acts_tellMachine.2.1 8 = .ok (.iload_n 2, 1) := by decide +kernel
theorem d_Acts_tellMachine_9 : decode m_Acts_tellMachine.2.1 9 = .ok (.aload_n 0, 1) := by decide +kernel
theorem d_Acts_tellMachine_10 : decode m_Acts_tellMachine.2.1 10 = .ok (.getfield 26, 3) := by decide +kernel
theorem d_Acts_tellMachine_13 : decode m_Acts_tellMachine.2.1 13 = .ok (.aload_n 0, 1) := by decide +kernel
theorem d_Acts_tellMachine_14 : decode m_Acts_tellMachine.2.1 14 = .ok (.getfield 37, 3) := by decide +kernel
theorem d_Acts_tellMachine_17 : decode m_Acts_tellMachine.2.1 17 = .ok (.iconst 5, 1) := by decide +kernel
theorem d_Acts_tellMachine_18 : decode m_Acts_tellMachine.2.1 18 = .ok (.imul, 1) := by decide +kernel
theorem d_Acts_tellMachine_19 : decode m_Acts_tellMachine.2.1 19 = .ok (.iload_n 2, 1) := by decide +kernel
theorem d_Acts_tellMachine_20 : decode m_Acts_tellMachine.2.1 20 = .ok (.iadd, 1) := by decide +kernel
theorem d_Acts_tellMachine_21 : decode m_Acts_tellMachine.2.1 21 = .ok (.invokevirtual 40, 3) := by decide +kernel
theorem d_Acts_tellMachine_24 : decode m_Acts_tellMachine.2.1 24 = .ok (.invokevirtual 44, 3) := by decide +kernel
theorem d_Acts_tellMachine_27 : decode m_Acts_tellMachine.2.1 27 = .ok (.iinc 2 1, 3) := by decide +kernel
theorem d_Acts_tellMachine_30 : decode m_Acts_tellMachine.2.1 30 = .ok (.goto (-28), 3) := by decide +kernel
theorem d_Acts_tellMachine_33 : decode m_Acts_tellMachine.2.1 33 = .ok (.return_, 1) := by decide +kernel
theorem d_Acts_drop_0 : decode m_Acts_drop.2.1 0 = .ok (.aload_n 0, 1) := by decide +kernel
theorem d_Acts_drop_1 : decode m_Acts_drop.2.1 1 = .ok (.aload_n 0, 1) := by decide +kernel
theorem d_Acts_drop_2 : decode m_Acts_drop.2.1 2 = .ok (.getfield 37, 3) := by decide +kernel
theorem d_Acts_drop_5 : decode m_Acts_drop.2.1 5 = .ok (.bipush 10, 2) := by decide +kernel
theorem d_Acts_drop_7 : decode m_Acts_drop.2.1 7 = .ok (.iadd, 1) := by decide +kernel
theorem d_Acts_drop_8 : decode m_Acts_drop.2.1 8 = .ok (.iconst 1, 1) := by decide +kernel
theorem d_Acts_drop_9 : decode m_Acts_drop.2.1 9 = .ok (.isub, 1) := by decide +kernel
theorem d_Acts_drop_10 : decode m_Acts_drop.2.1 10 = .ok (.bipush 10, 2) := by decide +kernel
theorem d_Acts_drop_12 : decode m_Acts_drop.2.1 12 = .ok (.irem, 1) := by decide +kernel
theorem d_Acts_drop_13 : decode m_Acts_drop.2.1 13 = .ok (.putfield 37, 3) := by decide +kernel
theorem d_Acts_drop_16 : decode m_Acts_drop.2.1 16 = .ok (.aload_n 0, 1) := by decide +kernel
theorem d_Acts_drop_17 : decode m_Acts_drop.2.1 17 = .ok (.dup, 1) := by decide +kernel
theorem d_Acts_drop_18 : decode m_Acts_drop.2.1 18 = .ok (.getfield 29, 3) := by decide +kernel
theorem d_Acts_drop_21 : decode m_Acts_drop.2.1 21 = .ok (.iconst 1, 1) := by decide +kernel
theorem d_Acts_drop_22 : decode m_Acts_drop.2.1 22 = .ok (.isub, 1) := by decide +kernel
theorem d_Acts_drop_23 : decode m_Acts_drop.2.1 23 = .ok (.putfield 29, 3) := by decide +kernel
theorem d_Acts_drop_26 : decode m_Acts_drop.2.1 26 = .ok (.return_, 1) := by decide +kernel
theorem d_Costs_init_0 : decode m_Costs_init.2.1 0 = .ok (.aload_n 0, 1) := by decide +kernel
theorem d_Costs_init_1 : decode m_Costs_init.2.1 1 = .ok (.invokespecial 3, 3) := by decide +kernel
theorem d_Costs_init_4 : decode m_Costs_init.2.1 4 = .ok (.aload_n 0, 1) := by decide +kernel
theorem d_Costs_init_5 : decode m_Costs_init.2.1 5 = .ok (.new 9, 3) := by decide +kernel
theorem d_Costs_init_8 : decode m_Costs_init.2.1 8 = .ok (.dup, 1) := by decide +kernel
theorem d_Costs_init_9 : decode m_Costs_init.2.1 9 = .ok (.sipush 217, 3) := by decide +kernel
theorem d_Costs_init_12 : decode m_Costs_init.2.1 12 = .ok (.invokespecial 13, 3) := by decide +kernel
theorem d_Costs_init_15 : decode m_Costs_init.2.1 15 = .ok (.putfield 16, 3) := by decide +kernel
theorem d_Costs_init_18 : decode m_Costs_init.2.1 18 = .ok (.aload_n 0, 1) := by decide +kernel
theorem d_Costs_init_19 : decode m_Costs_init.2.1 19 = .ok (.new 9, 3) := by decide +kernel
theorem d_Costs_init_22 : decode m_Costs_init.2.1 22 = .ok (.dup, 1) := by decide +kernel
theorem d_Costs_init_23 : decode m_Costs_init.2.1 23 = .ok (.sipush 217, 3) := by decide +kernel
theorem d_Costs_init_26 : decode m_Costs_init.2.1 26 = .ok (.invokespecial 13, 3) := by decide +kernel
theorem d_Costs_init_29 : decode m_Costs_init.2.1 29 = .ok (.putfield 20, 3) := by decide +kernel
theorem d_Costs_init_32 : decode m_Costs_init.2.1 32 = .ok (.aload_n 0, 1) := by decide +kernel
theorem d_Costs_init_33 : decode m_Costs_init.2.1 33 = .ok (.new 9, 3) := by decide +kernel
theorem d_Costs_init_36 : decode m_Costs_init.2.1 36 = .ok (.dup, 1) := by decide +kernel
theorem d_Costs_init_37 : decode m_Costs_init.2.1 37 = .ok (.bipush 31, 2) := by decide +kernel
theorem d_Costs_init_39 : decode m_Costs_init.2.1 39 = .ok (.invokespecial 13, 3) := by decide +kernel
theorem d_Costs_init_42 : decode m_Costs_init.2.1 42 = .ok (.putfield 23, 3) := by decide +kernel
theorem d_Costs_init_45 : decode m_Costs_init.2.1 45 = .ok (.return_, 1) := by decide +kernel
theorem d_Costs_fill_0 : decode m_Costs_fill.2.1 0 = .ok (.iconst 0, 1) := by decide +kernel
theorem d_Costs_fill_1 : decode m_Costs_fill.2.1 1 = .ok (.istore_n 3, 1) := by decide +kernel
theorem d_Costs_fill_2 : decode m_Costs_fill.2.1 2 = .ok (.iload_n 3, 1) := by decide +kernel
theorem d_Costs_fill_3 : decode m_Costs_fill.2.1 3 = .ok (.aload_n 1, 1) := by decide +kernel
theorem d_Costs_fill_4 : decode m_Costs_fill.2.1 4 = .ok (.getfield 30, 3) := by decide +kernel
theorem d_Costs_fill_7 : decode m_Costs_fill.2.1 7 = .ok (.if_icmp .ge 16, 3) := by decide +kernel
theorem d_Costs_fill_10 : decode m_Costs_fill.2.1 10 = .ok (.aload_n 0, 1) := by decide +kernel
theorem d_Costs_fill_11 : decode m_Costs_fill.2.1 11 = .ok (.aload_n 1, 1) := by decide +kernel
theorem d_Costs_fill_12 : decode m_Costs_fill.2.1 12 = .ok (.aload_n 2, 1) := by decide +kernel
theorem d_Costs_fill_13 : decode m_Costs_fill.2.1 13 = .ok (.iload_n 3, 1) := by decide +kernel
theorem d_Costs_fill_14 : decode m_Costs_fill.2.1 14 = .ok (.invokevirtual 36, 3) := by decide +kernel
theorem d_Costs_fill_17 : decode m_Costs_fill.2.1 17 = .ok (.iinc 3 1, 3) := by decide +kernel
theorem d_Costs_fill_20 : decode m_Costs_fill.2.1 20 = .ok (.goto (-18), 3) := by decide +kernel
theorem d_Costs_fill_23 : decode m_Costs_fill.2.1 23 = .ok (.return_, 1) := by decide +kernel
theorem d_Costs_fillNode_0 : decode m_Costs_fillNode.2.1 0 = .ok (.aload_n 1, 1) := by decide +kernel
theorem d_Costs_fillNode_1 : decode m_Costs_fillNode.2.1 1 = .ok (.iload_n 3, 1) := by decide +kernel
theorem d_Costs_fillNode_2 : decode m_Costs_fillNode.2.1 2 = .ok (.invokevirtual 40, 3) := by decide +kernel
theorem d_Costs_fillNode_5 : decode m_Costs_fillNode.2.1 5 = .ok (.ifCond .eq 10, 3) := by decide +kernel
theorem d_Costs_fillNode_8 : decode m_Costs_fillNode.2.1 8 = .ok (.aload_n 0, 1) := by decide +kernel
theorem d_Costs_fillNode_9 : decode m_Costs_fillNode.2.1 9 = .ok (.aload_n 2, 1) := by decide +kernel
theorem d_Costs_fillNode_10 : decode m_Costs_fillNode.2.1 10 = .ok (.iload_n 3, 1) := by decide +kernel
theorem d_Costs_fillNode_11 : decode m_Costs_fillNode.2.1 11 = .ok (.invokevirtual 44, 3) := by decide +kernel
theorem d_Costs_fillNode_14 : decode m_Costs_fillNode.2.1 14 = .ok (.return_, 1) := by decide +kernel
theorem d_Costs_fillNode_15 : decode m_Costs_fillNode.2.1 15 = .ok (.aload_n 0, 1) := by decide +kernel
theorem d_Costs_fillNode_16 : decode m_Costs_fillNode.2.1 16 = .ok (.getfield 23, 3) := by decide +kernel
theorem d_Costs_fillNode_19 : decode m_Costs_fillNode.2.1 19 = .ok (.iload_n 3, 1) := by decide +kernel
theorem d_Costs_fillNode_20 : decode m_Costs_fillNode.2.1 20 = .ok (.iconst 0, 1) := by decide +kernel
theorem d_Costs_fillNode_21 : decode m_Costs_fillNode.2.1 21 = .ok (.invokevirtual 48, 3) := by decide +kernel
theorem d_Costs_fillNode_24 : decode m_Costs_fillNode.2.1 24 = .ok (.iconst 1, 1) := by decide +kernel
theorem d_Costs_fillNode_25 : decode m_Costs_fillNode.2.1 25 = .ok (.istore 4, 2) := by decide +kernel
theorem d_Costs_fillNode_27 : decode m_Costs_fillNode.2.1 27 = .ok (.iload 4, 2) := by decide +kernel
theorem d_Costs_fillNode_29 : decode m_Costs_fillNode.2.1 29 = .ok (.aload_n 2, 1) := by decide +kernel
theorem d_Costs_fillNode_30 : decode m_Costs_fillNode.2.1 30 = .ok (.iconst 0, 1) := by decide +kernel
theorem d_Costs_fillNode_31 : decode m_Costs_fillNode.2.1 31 = .ok (.invokevirtual 26, 3) := by decide +kernel
theorem d_Costs_fillNode_34 : decode m_Costs_fillNode.2.1 34 = .ok (.if_icmp .gt 57, 3) := by decide +kernel
theorem d_Costs_fillNode_37 : decode m_Costs_fillNode.2.1 37 = .ok (.aload_n 1, 1) := by decide +kernel
theorem d_Costs_fillNode_38 : decode m_Costs_fillNode.2.1 38 = .ok (.iload_n 3, 1) := by decide +kernel
theorem d_Costs_fillNode_39 : decode m_Costs_fillNode.2.1 39 = .ok (.invokevirtual 52, 3) := by decide +kernel
theorem d_Costs_fillNode_42 : decode m_Costs_fillNode.2.1 42 = .ok (.ifCond .eq 15, 3) := by decide +kernel
theorem d_Costs_fillNode_45 : decode m_Costs_fillNode.2.1 45 = .ok (.aload_n 0, 1) := by decide +kernel
theorem d_Costs_fillNode_46 : decode m_Costs_fillNode.2.1 46 = .ok (.aload_n 1, 1) := by decide +kernel
theorem d_Costs_fillNode_47 : decode m_Costs_fillNode.2.1 47 = .ok (.aload_n 2, 1) := by decide +kernel
theorem d_Costs_fillNode_48 : decode m_Costs_fillNode.2.1 48 = .ok (.iload_n 3, 1) := by decide +kernel
theorem d_Costs_fillNode_49 : decode m_Costs_fillNode.2.1 49 = .ok (.iload 4, 2) := by decide +kernel
theorem d_Costs_fillNode_51 : decode m_Costs_fillNode.2.1 51 = .ok (.invokevirtual 55, 3) := by decide +kernel
theorem d_Costs_fillNode_54 : decode m_Costs_fillNode.2.1 54 = .ok (.goto 31, 3) := by decide +kernel
theorem d_Costs_fillNode_57 : decode m_Costs_fillNode.2.1 57 = .ok (.aload_n 0, 1) := by decide +kernel
theorem d_Costs_fillNode_58 : decode m_Costs_fillNode.2.1 58 = .ok (.iload_n 3, 1) := by decide +kernel
theorem d_Costs_fillNode_59 : decode m_Costs_fillNode.2.1 59 = .ok (.iload 4, 2) := by decide +kernel
theorem d_Costs_fillNode_61 : decode m_Costs_fillNode.2.1 61 = .ok (.aload_n 0, 1) := by decide +kernel
theorem d_Costs_fillNode_62 : decode m_Costs_fillNode.2.1 62 = .ok (.aload_n 1, 1) := by decide +kernel
theorem d_Costs_fillNode_63 : decode m_Costs_fillNode.2.1 63 = .ok (.getfield 59, 3) := by decide +kernel
theorem d_Costs_fillNode_66 : decode m_Costs_fillNode.2.1 66 = .ok (.iload_n 3, 1) := by decide +kernel
theorem d_Costs_fillNode_67 : decode m_Costs_fillNode.2.1 67 = .ok (.invokevirtual 26, 3) := by decide +kernel
theorem d_Costs_fillNode_70 : decode m_Costs_fillNode.2.1 70 = .ok (.iload 4, 2) := by decide +kernel
theorem d_Costs_fillNode_72 : decode m_Costs_fillNode.2.1 72 = .ok (.invokevirtual 62, 3) := by decide +kernel
theorem d_Costs_fillNode_75 : decode m_Costs_fillNode.2.1 75 = .ok (.aload_n 2, 1) := by decide +kernel
theorem d_Costs_fillNode_76 : decode m_Costs_fillNode.2.1 76 = .ok (.iconst 3, 1) := by decide +kernel
theorem d_Costs_fillNode_77 : decode m_Costs_fillNode.2.1 77 = .ok (.invokevirtual 26, 3) := by decide +kernel
theorem d_Costs_fillNode_80 : decode m_Costs_fillNode.2.1 80 = .ok (.iadd, 1) := by decide +kernel
theorem d_Costs_fillNode_81 : decode m_Costs_fillNode.2.1 81 = .ok (.iconst 0, 1) := by decide +kernel
theorem d_Costs_fillNode_82 : decode m_Costs_fillNode.2.1 82 = .ok (.invokevirtual 66, 3) := by decide +kernel
theorem d_Costs_fillNode_85 : decode m_Costs_fillNode.2.1 85 = .ok (.iinc 4 1, 3) := by decide +kernel
theorem d_Costs_fillNode_88 : decode m_Costs_fillNode.2.1 88 = .ok (.goto (-61), 3) := by decide +kernel
theorem d_Costs_fillNode_91 : decode m_Costs_fillNode.2.1 91 = .ok (.return_, 1) := by decide +kernel
theorem d_Costs_countAsLeaf_0 : decode m_Costs_countAsLeaf.2.1 0 = .ok (.aload_n 0, 1) := by decide +kernel
theorem d_Costs_countAsLeaf_1 : decode m_Costs_countAsLeaf.2.1 1 = .ok (.getfield 23, 3) := by decide +kernel
theorem d_Costs_countAsLeaf_4 : decode m_Costs_countAsLeaf.2.1 4 = .ok (.iload_n 2, 1) := by decide +kernel
theorem d_Costs_countAsLeaf_5 : decode m_Costs_countAsLeaf.2.1 5 = .ok (.iconst 1, 1) := by decide +kernel
theorem d_Costs_countAsLeaf_6 : decode m_Costs_countAsLeaf.2.1 6 = .ok (.invokevirtual 48, 3) := by decide +kernel
theorem d_Costs_countAsLeaf_9 : decode m_Costs_countAsLeaf.2.1 9 = .ok (.iconst 1, 1) := by decide +kernel
theorem d_Costs_countAsLeaf_10 : decode m_Costs_countAsLeaf.2.1 10 = .ok (.istore_n 3, 1) := by decide +kernel
theorem d_Costs_countAsLeaf_11 : decode m_Costs_countAsLeaf.2.1 11 = .ok (.iload_n 3, 1) := by decide +kernel
theorem d_Costs_countAsLeaf_12 : decode m_Costs_countAsLeaf.2.1 12 = .ok (.aload_n 1, 1) := by decide +kernel
theorem d_Costs_countAsLeaf_13 : decode m_Costs_countAsLeaf.2.1 13 = .ok (.iconst 0, 1) := by decide +kernel
theorem d_Costs_countAsLeaf_14 : decode m_Costs_countAsLeaf.2.1 14 = .ok (.invokevirtual 26, 3) := by decide +kernel
theorem d_Costs_countAsLeaf_17 : decode m_Costs_countAsLeaf.2.1 17 = .ok (.if_icmp .gt 21, 3) := by decide +kernel
theorem d_Costs_countAsLeaf_20 : decode m_Costs_countAsLeaf.2.1 20 = .ok (.aload_n 0, 1) := by decide +kernel
theorem d_Costs_countAsLeaf_21 : decode m_Costs_countAsLeaf.2.1 21 = .ok (.iload_n 2, 1) := by decide +kernel
theorem d_Costs_countAsLeaf_22 : decode m_Costs_countAsLeaf.2.1 22 = .ok (.iload_n 3, 1) := by decide +kernel
theorem d_Costs_countAsLeaf_23 : decode m_Costs_countAsLeaf.2.1 23 = .ok (.aload_n 1, 1) := by decide +kernel
theorem d_Costs_countAsLeaf_24 : decode m_Costs_countAsLeaf.2.1 24 = .ok (.iconst 1, 1) := by decide +kernel
theorem d_Costs_countAsLeaf_25 : decode m_Costs_countAsLeaf.2.1 25 = .ok (.invokevirtual 26, 3) := by decide +kernel
theorem d_Costs_countAsLeaf_28 : decode m_Costs_countAsLeaf.2.1 28 = .ok (.iconst 0, 1) := by decide +kernel
theorem d_Costs_countAsLeaf_29 : decode m_Costs_countAsLeaf.2.1 29 = .ok (.invokevirtual 66, 3) := by decide +kernel
theorem d_Costs_countAsLeaf_32 : decode m_Costs_countAsLeaf.2.1 32 = .ok (.iinc 3 1, 3) := by decide +kernel
theorem d_Costs_countAsLeaf_35 : decode m_Costs_countAsLeaf.2.1 35 = .ok (.goto (-24), 3) := by decide +kernel
theorem d_Costs_countAsLeaf_38 : decode m_Costs_countAsLeaf.2.1 38 = .ok (.return_, 1) := by decide +kernel
theorem d_Costs_put_0 : decode m_Costs_put.2.1 0 = .ok (.aload_n 0, 1) := by decide +kernel
theorem d_Costs_put_1 : decode m_Costs_put.2.1 1 = .ok (.getfield 16, 3) := by decide +kernel
theorem d_Costs_put_4 : decode m_Costs_put.2.1 4 = .ok (.iload_n 1, 1) := by decide +kernel
theorem d_Costs_put_5 : decode m_Costs_put.2.1 5 = .ok (.bipush 7, 2) := by decide +kernel
theorem d_Costs_put_7 : decode m_Costs_put.2.1 7 = .ok (.imul, 1) := by decide +kernel
theorem d_Costs_put_8 : decode m_Costs_put.2.1 8 = .ok (.iload_n 2, 1) := by decide +kernel
theorem d_Costs_put_9 : decode m_Costs_put.2.1 9 = .ok (.iadd, 1) := by decide +kernel
theorem d_Costs_put_10 : decode m_Costs_put.2.1 10 = .ok (.iload_n 3, 1) := by decide +kernel
theorem d_Costs_put_11 : decode m_Costs_put.2.1 11 = .ok (.invokevirtual 48, 3) := by decide +kernel
theorem d_Costs_put_14 : decode m_Costs_put.2.1 14 = .ok (.aload_n 0, 1) := by decide +kernel
theorem d_Costs_put_15 : decode m_Costs_put.2.1 15 = .ok (.getfield 20, 3) := by decide +kernel
theorem d_Costs_put_18 : decode m_Costs_put.2.1 18 = .ok (.iload_n 1, 1) := by decide +kernel
theorem d_Costs_put_19 : decode m_Costs_put.2.1 19 = .ok (.bipush 7, 2) := by decide +kernel
theorem d_Costs_put_21 : decode m_Costs_put.2.1 21 = .ok (.imul, 1) := by decide +kernel
theorem d_Costs_put_22 : decode m_Costs_put.2.1 22 = .ok (.iload_n 2, 1) := by decide +kernel
theorem d_Costs_put_23 : decode m_Costs_put.2.1 23 = .ok (.iadd, 1) := by decide +kernel
theorem d_Costs_put_24 : decode m_Costs_put.2.1 24 = .ok (.iload 4, 2) := by decide +kernel
theorem d_Costs_put_26 : decode m_Costs_put.2.1 26 = .ok (.invokevirtual 48, 3) := by decide +kernel
theorem d_Costs_put_29 : decode m_Costs_put.2.1 29 = .ok (.return_, 1) := by decide +kernel
theorem d_Costs_choose_0 : decode m_Costs_choose.2.1 0 = .ok (.aload_n 1, 1) := by decide +kernel
theorem d_Costs_choose_1 : decode m_Costs_choose.2.1 1 = .ok (.getfield 59, 3) := by decide +kernel
theorem d_Costs_choose_4 : decode m_Costs_choose.2.1 4 = .ok (.iload_n 3, 1) := by decide +kernel
theorem d_Costs_choose_5 : decode m_Costs_choose.2.1 5 = .ok (.invokevirtual 26, 3) := by decide +kernel
theorem d_Costs_choose_8 : decode m_Costs_choose.2.1 8 = .ok (.istore 5, 2) := by decide +kernel
theorem d_Costs_choose_10 : decode m_Costs_choose.2.1 10 = .ok (.aload_n 1, 1) := by decide +kernel
theorem d_Costs_choose_11 : decode m_Costs_choose.2.1 11 = .ok (.getfield 69, 3) := by decide +kernel
theorem d_Costs_choose_14 : decode m_Costs_choose.2.1 14 = .ok (.iload_n 3, 1) := by decide +kernel
theorem d_Costs_choose_15 : decode m_Costs_choose.2.1 15 = .ok (.invokevirtual 26, 3) := by decide +kernel
theorem d_Costs_choose_18 : decode m_Costs_choose.2.1 18 = .ok (.istore 6, 2) := by decide +kernel
theorem d_Costs_choose_20 : decode m_Costs_choose.2.1 20 = .ok (.aload_n 2, 1) := by decide +kernel
theorem d_Costs_choose_21 : decode m_Costs_choose.2.1 21 = .ok (.iconst 1, 1) := by decide +kernel
theorem d_Costs_choose_22 : decode m_Costs_choose.2.1 22 = .ok (.invokevirtual 26, 3) := by decide +kernel
theorem d_Costs_choose_25 : decode m_Costs_choose.2.1 25 = .ok (.istore 7, 2) := by decide +kernel
theorem d_Costs_choose_27 : decode m_Costs_choose.2.1 27 = .ok (.aload_n 2, 1) := by decide +kernel
theorem d_Costs_choose_28 : decode m_Costs_choose.2.1 28 = .ok (.iconst 3, 1) := by decide +kernel
theorem d_Costs_choose_29 : decode m_Costs_choose.2.1 29 = .ok (.invokevirtual 26, 3) := by decide +kernel
theorem d_Costs_choose_32 : decode m_Costs_choose.2.1 32 = .ok (.istore 8, 2) := by decide +kernel
theorem d_Costs_choose_34 : decode m_Costs_choose.2.1 34 = .ok (.aload_n 2, 1) := by decide +kernel
theorem d_Costs_choose_35 : decode m_Costs_choose.2.1 35 = .ok (.iconst 4, 1) := by decide +kernel
theorem d_Costs_choose_36 : decode m_Costs_choose.2.1 36 = .ok (.invokevirtual 26, 3) := by decide +kernel
theorem d_Costs_choose_39 : decode m_Costs_choose.2.1 39 = .ok (.istore 9, 2) := by decide +kernel
theorem d_Costs_choose_41 : decode m_Costs_choose.2.1 41 = .ok (.aload_n 0, 1) := by decide +kernel
theorem d_Costs_choose_42 : decode m_Costs_choose.2.1 42 = .ok (.iload 5, 2) := by decide +kernel
theorem d_Costs_choose_44 : decode m_Costs_choose.2.1 44 = .ok (.iload 4, 2) := by decide +kernel
theorem d_Costs_choose_46 : decode m_Costs_choose.2.1 46 = .ok (.invokevirtual 62, 3) := by decide +kernel
theorem d_Costs_choose_49 : decode m_Costs_choose.2.1 49 = .ok (.istore 10, 2) := by decide +kernel
theorem d_Costs_choose_51 : decode m_Costs_choose.2.1 51 = .ok (.aload_n 0, 1) := by decide +kernel
theorem d_Costs_choose_52 : decode m_Costs_choose.2.1 52 = .ok (.iload 6, 2) := by decide +kernel
theorem d_Costs_choose_54 : decode m_Costs_choose.2.1 54 = .ok (.iload 4, 2) := by decide +kernel
theorem d_Costs_choose_56 : decode m_Costs_choose.2.1 56 = .ok (.invokevirtual 62, 3) := by decide +kernel
theorem d_Costs_choose_59 : decode m_Costs_choose.2.1 59 = .ok (.istore 11, 2) := by decide +kernel
theorem d_Costs_choose_61 : decode m_Costs_choose.2.1 61 = .ok (.aload_n 0, 1) := by decide +kernel
theorem d_Costs_choose_62 : decode m_Costs_choose.2.1 62 = .ok (.aload_n 2, 1) := by decide +kernel
theorem d_Costs_choose_63 : decode m_Costs_choose.2.1 63 = .ok (.iload 5, 2) := by decide +kernel
theorem d_Costs_choose_65 : decode m_Costs_choose.2.1 65 = .ok (.iload 4, 2) := by decide +kernel
theorem d_Costs_choose_67 : decode m_Costs_choose.2.1 67 = .ok (.invokevirtual 72, 3) := by decide +kernel
theorem d_Costs_choose_70 : decode m_Costs_choose.2.1 70 = .ok (.istore 12, 2) := by decide +kernel
theorem d_Costs_choose_72 : decode m_Costs_choose.2.1 72 = .ok (.aload_n 0, 1) := by decide +kernel
theorem d_Costs_choose_73 : decode m_Costs_choose.2.1 73 = .ok (.aload_n 2, 1) := by decide +kernel
theorem d_Costs_choose_74 : decode m_Costs_choose.2.1 74 = .ok (.iload 6, 2) := by decide +kernel
theorem d_Costs_choose_76 : decode m_Costs_choose.2.1 76 = .ok (.iload 4, 2) := by decide +kernel
theorem d_Costs_choose_78 : decode m_Costs_choose.2.1 78 = .ok (.invokevirtual 72, 3) := by decide +kernel
theorem d_Costs_choose_81 : decode m_Costs_choose.2.1 81 = .ok (.istore 13, 2) := by decide +kernel
theorem d_Costs_choose_83 : decode m_Costs_choose.2.1 83 = .ok (.iload 4, 2) := by decide +kernel
theorem d_Costs_choose_85 : decode m_Costs_choose.2.1 85 = .ok (.iconst 2, 1) := by decide +kernel
theorem d_Costs_choose_86 : decode m_Costs_choose.2.1 86 = .ok (.if_icmp .lt 7, 3) := by decide +kernel
theorem d_Costs_choose_89 : decode m_Costs_choose.2.1 89 = .ok (.iconst 1, 1) := by decide +kernel
theorem d_Costs_choose_90 : decode m_Costs_choose.2.1 90 = .ok (.goto 4, 3) := by decide +kernel
theorem d_Costs_choose_93 : decode m_Costs_choose.2.1 93 = .ok (.iconst 0, 1) := by decide +kernel
theorem d_Costs_choose_94 : decode m_Costs_choose.2.1 94 = .ok (.istore 14, 2) := by decide +kernel
theorem d_Costs_choose_96 : decode m_Costs_choose.2.1 96 = .ok (.aload_n 1, 1) := by decide +kernel
theorem d_Costs_choose_97 : decode m_Costs_choose.2.1 97 = .ok (.iload_n 3, 1) := by decide +kernel
theorem d_Costs_choose_98 : decode m_Costs_choose.2.1 98 = .ok (.invokevirtual 76, 3) := by decide +kernel
theorem d_Costs_choose_101 : decode m_Costs_choose.2.1 101 = .ok (.ifCond .ne 7, 3) := by decide +kernel
theorem d_Costs_choose_104 : decode m_Costs_choose.2.1 104 = .ok (.iconst 1, 1) := by decide +kernel
theorem d_Costs_choose_105 : decode m_Costs_choose.2.1 105 = .ok (.goto 4, 3) := by decide +kernel
theorem d_Costs_choose_108 : decode m_Costs_choose.2.1 108 = .ok (.iconst 0, 1) := by decide +kernel
theorem d_Costs_choose_109 : decode m_Costs_choose.2.1 109 = .ok (.istore 15, 2) := by decide +kernel
theorem d_Costs_choose_111 : decode m_Costs_choose.2.1 111 = .ok (.aload_n 0, 1) := by decide +kernel
theorem d_Costs_choose_112 : decode m_Costs_choose.2.1 112 = .ok (.iconst 0, 1) := by decide +kernel
theorem d_Costs_choose_113 : decode m_Costs_choose.2.1 113 = .ok (.putfield 79, 3) := by decide +kernel
theorem d_Costs_choose_116 : decode m_Costs_choose.2.1 116 = .ok (.aload_n 0, 1) := by decide +kernel
theorem d_Costs_choose_117 : decode m_Costs_choose.2.1 117 = .ok (.iconst 1, 1) := by decide +kernel
theorem d_Costs_choose_118 : decode m_Costs_choose.2.1 118 = .ok (.iload 14, 2) := by decide +kernel
theorem d_Costs_choose_120 : decode m_Costs_choose.2.1 120 = .ok (.iload 10, 2) := by decide +kernel
theorem d_Costs_choose_122 : decode m_Costs_choose.2.1 122 = .ok (.aload_n 0, 1) := by decide +kernel
theorem d_Costs_choose_123 : decode m_Costs_choose.2.1 123 = .ok (.iload 6, 2) := by decide +kernel
theorem d_Costs_choose_125 : decode m_Costs_choose.2.1 125 = .ok (.iload 4, 2) := by decide +kernel
theorem d_Costs_choose_127 : decode m_Costs_choose.2.1 127 = .ok (.iconst 1, 1) := by decide +kernel
theorem d_Costs_choose_128 : decode m_Costs_choose.2.1 128 = .ok (.isub, 1) := by decide +kernel
theorem d_Costs_choose_129 : decode m_Costs_choose.2.1 129 = .ok (.invokevirtual 62, 3) := by decide +kernel
theorem d_Costs_choose_132 : decode m_Costs_choose.2.1 132 = .ok (.iadd, 1) := by decide +kernel
theorem d_Costs_choose_133 : decode m_Costs_choose.2.1 133 = .ok (.iload 8, 2) := by decide +kernel
theorem d_Costs_choose_135 : decode m_Costs_choose.2.1 135 = .ok (.iadd, 1) := by decide +kernel
theorem d_Costs_choose_136 : decode m_Costs_choose.2.1 136 = .ok (.invokevirtual 82, 3) := by decide +kernel
theorem d_Costs_choose_139 : decode m_Costs_choose.2.1 139 = .ok (.aload_n 0, 1) := by decide +kernel
theorem d_Costs_choose_140 : decode m_Costs_choose.2.1 140 = .ok (.iconst 2, 1) := by decide +kernel
theorem d_Costs_choose_141 : decode m_Costs_choose.2.1 141 = .ok (.iload 14, 2) := by decide +kernel
theorem d_Costs_choose_143 : decode m_Costs_choose.2.1 143 = .ok (.ifCond .eq 12, 3) := by decide +kernel
theorem d_Costs_choose_146 : decode m_Costs_choose.2.1 146 = .ok (.iload 15, 2) := by decide +kernel
theorem d_Costs_choose_148 : decode m_Costs_choose.2.1 148 = .ok (.ifCond .eq 7, 3) := by decide +kernel
theorem d_Costs_choose_151 : decode m_Costs_choose.2.1 151 = .ok (.iconst 1, 1) := by decide +kernel
theorem d_Costs_choose_152 : decode m_Costs_choose.2.1 152 = .ok (.goto 4, 3) := by decide +kernel
theorem d_Costs_choose_155 : decode m_Costs_choose.2.1 155 = .ok (.iconst 0, 1) := by decide +kernel
theorem d_Costs_choose_156 : decode m_Costs_choose.2.1 156 = .ok (.iload 11, 2) := by decide +kernel
theorem d_Costs_choose_158 : decode m_Costs_choose.2.1 158 = .ok (.aload_n 0, 1) := by decide +kernel
theorem d_Costs_choose_159 : decode m_Costs_choose.2.1 159 = .ok (.iload 5, 2) := by decide +kernel
theorem d_Costs_choose_161 : decode m_Costs_choose.2.1 161 = .ok (.iload 4, 2) := by decide +kernel
theorem d_Costs_choose_163 : decode m_Costs_choose.2.1 163 = .ok (.iconst 1, 1) := by decide +kernel
theorem d_Costs_choose_164 : decode m_Costs_choose.2.1 164 = .ok (.isub, 1) := by decide +kernel
theorem d_Costs_choose_165 : decode m_Costs_choose.2.1 165 = .ok (.invokevirtual 62, 3) := by decide +kernel
theorem d_Costs_choose_168 : decode m_Costs_choose.2.1 168 = .ok (.iadd, 1) := by decide +kernel
theorem d_Costs_choose_169 : decode m_Costs_choose.2.1 169 = .ok (.iload 8, 2) := by decide +kernel
theorem d_Costs_choose_171 : decode m_Costs_choose.2.1 171 = .ok (.iadd, 1) := by decide +kernel
theorem d_Costs_choose_172 : decode m_Costs_choose.2.1 172 = .ok (.invokevirtual 82, 3) := by decide +kernel
theorem d_Costs_choose_175 : decode m_Costs_choose.2.1 175 = .ok (.aload_n 0, 1) := by decide +kernel
theorem d_Costs_choose_176 : decode m_Costs_choose.2.1 176 = .ok (.iconst 3, 1) := by decide +kernel
theorem d_Costs_choose_177 : decode m_Costs_choose.2.1 177 = .ok (.iload 15, 2) := by decide +kernel
theorem d_Costs_choose_179 : decode m_Costs_choose.2.1 179 = .ok (.iload 13, 2) := by decide +kernel
theorem d_Costs_choose_181 : decode m_Costs_choose.2.1 181 = .ok (.iload 10, 2) := by decide +kernel
theorem d_Costs_choose_183 : decode m_Costs_choose.2.1 183 = .ok (.iadd, 1) := by decide +kernel
theorem d_Costs_choose_184 : decode m_Costs_choose.2.1 184 = .ok (.iload 9, 2) := by decide +kernel
theorem d_Costs_choose_186 : decode m_Costs_choose.2.1 186 = .ok (.iadd, 1) := by decide +kernel
theorem d_Costs_choose_187 : decode m_Costs_choose.2.1 187 = .ok (.invokevirtual 82, 3) := by decide +kernel
theorem d_Costs_choose_190 : decode m_Costs_choose.2.1 190 = .ok (.aload_n 0, 1) := by decide +kernel
theorem d_Costs_choose_191 : decode m_Costs_choose.2.1 191 = .ok (.iconst 4, 1) := by decide +kernel
theorem d_Costs_choose_192 : decode m_Costs_choose.2.1 192 = .ok (.aload_n 1, 1) := by decide +kernel
theorem d_Costs_choose_193 : decode m_Costs_choose.2.1 193 = .ok (.iload_n 3, 1) := by decide +kernel
theorem d_Costs_choose_194 : decode m_Costs_choose.2.1 194 = .ok (.invokevirtual 86, 3) := by decide +kernel
theorem d_Costs_choose_197 : decode m_Costs_choose.2.1 197 = .ok (.iload 12, 2) := by decide +kernel
theorem d_Costs_choose_199 : decode m_Costs_choose.2.1 199 = .ok (.iload 11, 2) := by decide +kernel
theorem d_Costs_choose_201 : decode m_Costs_choose.2.1 201 = .ok (.iadd, 1) := by decide +kernel
theorem d_Costs_choose_202 : decode m_Costs_choose.2.1 202 = .ok (.iload 9, 2) := by decide +kernel
theorem d_Costs_choose_204 : decode m_Costs_choose.2.1 204 = .ok (.iadd, 1) := by decide +kernel
theorem d_Costs_choose_205 : decode m_Costs_choose.2.1 205 = .ok (.invokevirtual 82, 3) := by decide +kernel
theorem d_Costs_choose_208 : decode m_Costs_choose.2.1 208 = .ok (.aload_n 0, 1) := by decide +kernel
theorem d_Costs_choose_209 : decode m_Costs_choose.2.1 209 = .ok (.iconst 5, 1) := by decide +kernel
theorem d_Costs_choose_210 : decode m_Costs_choose.2.1 210 = .ok (.iload 14, 2) := by decide +kernel
theorem d_Costs_choose_212 : decode m_Costs_choose.2.1 212 = .ok (.iload 12, 2) := by decide +kernel
theorem d_Costs_choose_214 : decode m_Costs_choose.2.1 214 = .ok (.iload 11, 2) := by decide +kernel
theorem d_Costs_choose_216 : decode m_Costs_choose.2.1 216 = .ok (.iadd, 1) := by decide +kernel
theorem d_Costs_choose_217 : decode m_Costs_choose.2.1 217 = .ok (.iload 7, 2) := by decide +kernel
theorem d_Costs_choose_219 : decode m_Costs_choose.2.1 219 = .ok (.iadd, 1) := by decide +kernel
theorem d_Costs_choose_220 : decode m_Costs_choose.2.1 220 = .ok (.iload 8, 2) := by decide +kernel
theorem d_Costs_choose_222 : decode m_Costs_choose.2.1 222 = .ok (.iadd, 1) := by decide +kernel
theorem d_Costs_choose_223 : decode m_Costs_choose.2.1 223 = .ok (.invokevirtual 82, 3) := by decide +kernel
theorem d_Costs_choose_226 : decode m_Costs_choose.2.1 226 = .ok (.aload_n 0, 1) := by decide +kernel
theorem d_Costs_choose_227 : decode m_Costs_choose.2.1 227 = .ok (.bipush 6, 2) := by decide +kernel
theorem d_Costs_choose_229 : decode m_Costs_choose.2.1 229 = .ok (.iconst 1, 1) := by decide +kernel
theorem d_Costs_choose_230 : decode m_Costs_choose.2.1 230 = .ok (.iload 12, 2) := by decide +kernel
theorem d_Costs_choose_232 : decode m_Costs_choose.2.1 232 = .ok (.iload 13, 2) := by decide +kernel
theorem d_Costs_choose_234 : decode m_Costs_choose.2.1 234 = .ok (.iadd, 1) := by decide +kernel
theorem d_Costs_choose_235 : decode m_Costs_choose.2.1 235 = .ok (.iload 7, 2) := by decide +kernel
theorem d_Costs_choose_237 : decode m_Costs_choose.2.1 237 = .ok (.iadd, 1) := by decide +kernel
theorem d_Costs_choose_238 : decode m_Costs_choose.2.1 238 = .ok (.iload 9, 2) := by decide +kernel
theorem d_Costs_choose_240 : decode m_Costs_choose.2.1 240 = .ok (.iadd, 1) := by decide +kernel
theorem d_Costs_choose_241 : decode m_Costs_choose.2.1 241 = .ok (.invokevirtual 82, 3) := by decide +kernel
theorem d_Costs_choose_244 : decode m_Costs_choose.2.1 244 = .ok (.aload_n 0, 1) := by decide +kernel
theorem d_Costs_choose_245 : decode m_Costs_choose.2.1 245 = .ok (.iload_n 3, 1) := by decide +kernel
theorem d_Costs_choose_246 : decode m_Costs_choose.2.1 246 = .ok (.iload 4, 2) := by decide +kernel
theorem d_Costs_choose_248 : decode m_Costs_choose.2.1 248 = .ok (.aload_n 0, 1) := by decide +kernel
theorem d_Costs_choose_249 : decode m_Costs_choose.2.1 249 = .ok (.getfield 89, 3) := by decide +kernel
theorem d_Costs_choose_252 : decode m_Costs_choose.2.1 252 = .ok (.aload_n 0, 1) := by decide +kernel
theorem d_Costs_choose_253 : decode m_Costs_choose.2.1 253 = .ok (.getfield 79, 3) := by decide +kernel
theorem d_Costs_choose_256 : decode m_Costs_choose.2.1 256 = .ok (.invokevirtual 66, 3) := by decide +kernel
theorem d_Costs_choose_259 : decode m_Costs_choose.2.1 259 = .ok (.return_, 1) := by decide +kernel
theorem d_Costs_costOf_0 : decode m_Costs_costOf.2.1 0 = .ok (.aload_n 0, 1) := by decide +kernel
theorem d_Costs_costOf_1 : decode m_Costs_costOf.2.1 1 = .ok (.getfield 16, 3) := by decide +kernel
theorem d_Costs_costOf_4 : decode m_Costs_costOf.2.1 4 = .ok (.iload_n 1, 1) := by decide +kernel
theorem d_Costs_costOf_5 : decode m_Costs_costOf.2.1 5 = .ok (.bipush 7, 2) := by decide +kernel
theorem d_Costs_costOf_7 : decode m_Costs_costOf.2.1 7 = .ok (.imul, 1) := by decide +kernel
theorem d_Costs_costOf_8 : decode m_Costs_costOf.2.1 8 = .ok (.iload_n 2, 1) := by decide +kernel
theorem d_Costs_costOf_9 : decode m_Costs_costOf.2.1 9 = .ok (.iadd, 1) := by decide +kernel
theorem d_Costs_costOf_10 : decode m_Costs_costOf.2.1 10 = .ok (.invokevirtual 26, 3) := by decide +kernel
theorem d_Costs_costOf_13 : decode m_Costs_costOf.2.1 13 = .ok (.ireturn, 1) := by decide +kernel
theorem d_Costs_keptOf_0 : decode m_Costs_keptOf.2.1 0 = .ok (.aload_n 0, 1) := by decide +kernel
theorem d_Costs_keptOf_1 : decode m_Costs_keptOf.2.1 1 = .ok (.getfield 23, 3) := by decide +kernel
theorem d_Costs_keptOf_4 : decode m_Costs_keptOf.2.1 4 = .ok (.iload_n 2, 1) := by decide +kernel
theorem d_Costs_keptOf_5 : decode m_Costs_keptOf.2.1 5 = .ok (.invokevirtual 26, 3) := by decide +kernel
theorem d_Costs_keptOf_8 : decode m_Costs_keptOf.2.1 8 = .ok (.iconst 1, 1) := by decide +kernel
theorem d_Costs_keptOf_9 : decode m_Costs_keptOf.2.1 9 = .ok (.if_icmp .ne 7, 3) := by decide +kernel
theorem d_Costs_keptOf_12 : decode m_Costs_keptOf.2.1 12 = .ok (.iconst 0, 1) := by decide +kernel
theorem d_Costs_keptOf_13 : decode m_Costs_keptOf.2.1 13 = .ok (.goto 22, 3) := by decide +kernel
theorem d_Costs_keptOf_16 : decode m_Costs_keptOf.2.1 16 = .ok (.aload_n 0, 1) := by decide +kernel
theorem d_Costs_keptOf_17 : decode m_Costs_keptOf.2.1 17 = .ok (.getfield 16, 3) := by decide +kernel
theorem d_Costs_keptOf_20 : decode m_Costs_keptOf.2.1 20 = .ok (.iload_n 2, 1) := by decide +kernel
theorem d_Costs_keptOf_21 : decode m_Costs_keptOf.2.1 21 = .ok (.bipush 7, 2) := by decide +kernel
theorem d_Costs_keptOf_23 : decode m_Costs_keptOf.2.1 23 = .ok (.imul, 1) := by decide +kernel
theorem d_Costs_keptOf_24 : decode m_Costs_keptOf.2.1 24 = .ok (.iload_n 3, 1) := by decide +kernel
theorem d_Costs_keptOf_25 : decode m_Costs_keptOf.2.1 25 = .ok (.iadd, 1) := by decide +kernel
theorem d_Costs_keptOf_26 : decode m_Costs_keptOf.2.1 26 = .ok (.invokevirtual 26, 3) := by decide +kernel
theorem d_Costs_keptOf_29 : decode m_Costs_keptOf.2.1 29 = .ok (.aload_n 1, 1) := by decide +kernel
theorem d_Costs_keptOf_30 : decode m_Costs_keptOf.2.1 30 = .ok (.iconst 2, 1) := by decide +kernel
theorem d_Costs_keptOf_31 : decode m_Costs_keptOf.2.1 31 = .ok (.invokevirtual 26, 3) := by decide +kernel
theorem d_Costs_keptOf_34 : decode m_Costs_keptOf.2.1 34 = .ok (.iadd, 1) := by decide +kernel
theorem d_Costs_keptOf_35 : decode m_Costs_keptOf.2.1 35 = .ok (.ireturn, 1) := by decide +kernel
theorem d_Costs_offer_0 : decode m_Costs_offer.2.1 0 = .ok (.iload_n 2, 1) := by decide +kernel
theorem d_Costs_offer_1 : decode m_Costs_offer.2.1 1 = .ok (.ifCond .eq 28, 3) := by decide +kernel
theorem d_Costs_offer_4 : decode m_Costs_offer.2.1 4 = .ok (.aload_n 0, 1) := by decide +kernel
theorem d_Costs_offer_5 : decode m_Costs_offer.2.1 5 = .ok (.getfield 79, 3) := by decide +kernel
theorem d_Costs_offer_8 : decode m_Costs_offer.2.1 8 = .ok (.ifCond .eq 11, 3) := by decide +kernel
theorem d_Costs_offer_11 : decode m_Costs_offer.2.1 11 = .ok (.iload_n 3, 1) := by decide +kernel
theorem d_Costs_offer_12 : decode m_Costs_offer.2.1 12 = .ok (.aload_n 0, 1) := by decide +kernel
theorem d_Costs_offer_13 : decode m_Costs_offer.2.1 13 = .ok (.getfield 89, 3) := by decide +kernel
theorem d_Costs_offer_16 : decode m_Costs_offer.2.1 16 = .ok (.if_icmp .ge 13, 3) := by decide +kernel
theorem d_Costs_offer_19 : decode m_Costs_offer.2.1 19 = .ok (.aload_n 0, 1) := by decide +kernel
theorem d_Costs_offer_20 : decode m_Costs_offer.2.1 20 = .ok (.iload_n 1, 1) := by decide +kernel
theorem d_Costs_offer_21 : decode m_Costs_offer.2.1 21 = .ok (.putfield 79, 3) := by decide +kernel
theorem d_Costs_offer_24 : decode m_Costs_offer.2.1 24 = .ok (.aload_n 0, 1) := by decide +kernel
theorem d_Costs_offer_25 : decode m_Costs_offer.2.1 25 = .ok (.iload_n 3, 1) := by decide +kernel
theorem d_Costs_offer_26 : decode m_Costs_offer.2.1 26 = .ok (.putfield 89, 3) := by decide +kernel
theorem d_Costs_offer_29 : decode m_Costs_offer.2.1 29 = .ok (.return_, 1) := by decide +kernel
theorem d_Costs_wayOf_0 : decode m_Costs_wayOf.2.1 0 = .ok (.aload_n 0, 1) := by decide +kernel
theorem d_Costs_wayOf_1 : decode m_Costs_wayOf.2.1 1 = .ok (.getfield 20, 3) := by decide +kernel
theorem d_Costs_wayOf_4 : decode m_Costs_wayOf.2.1 4 = .ok (.iload_n 1, 1) := by decide +kernel
theorem d_Costs_wayOf_5 : decode m_Costs_wayOf.2.1 5 = .ok (.bipush 7, 2) := by decide +kernel
theorem d_Costs_wayOf_7 : decode m_Costs_wayOf.2.1 7 = .ok (.imul, 1) := by decide +kernel
theorem d_Costs_wayOf_8 : decode m_Costs_wayOf.2.1 8 = .ok (.iload_n 2, 1) := by decide +kernel
theorem d_Costs_wayOf_9 : decode m_Costs_wayOf.2.1 9 = .ok (.iadd, 1) := by decide +kernel
theorem d_Costs_wayOf_10 : decode m_Costs_wayOf.2.1 10 = .ok (.invokevirtual 26, 3) := by decide +kernel
theorem d_Costs_wayOf_13 : decode m_Costs_wayOf.2.1 13 = .ok (.ireturn, 1) := by decide +kernel
theorem d_Program_init_0 : decode m_Program_init.2.1 0 = .ok (.aload_n 0, 1) := by decide +kernel
theorem d_Program_init_1 : decode m_Program_init.2.1 1 = .ok (.invokespecial 3, 3) := by decide +kernel
theorem d_Program_init_4 : decode m_Program_init.2.1 4 = .ok (.aload_n 0, 1) := by decide +kernel
theorem d_Program_init_5 : decode m_Program_init.2.1 5 = .ok (.new 9, 3) := by decide +kernel
theorem d_Program_init_8 : decode m_Program_init.2.1 8 = .ok (.dup, 1) := by decide +kernel
theorem d_Program_init_9 : decode m_Program_init.2.1 9 = .ok (.sipush 465, 3) := by decide +kernel
theorem d_Program_init_12 : decode m_Program_init.2.1 12 = .ok (.invokespecial 11, 3) := by decide +kernel
theorem d_Program_init_15 : decode m_Program_init.2.1 15 = .ok (.putfield 14, 3) := by decide +kernel
theorem d_Program_init_18 : decode m_Program_init.2.1 18 = .ok (.aload_n 0, 1) := by decide +kernel
theorem d_Program_init_19 : decode m_Program_init.2.1 19 = .ok (.new 9, 3) := by decide +kernel
theorem d_Program_init_22 : decode m_Program_init.2.1 22 = .ok (.dup, 1) := by decide +kernel
theorem d_Program_init_23 : decode m_Program_init.2.1 23 = .ok (.bipush 31, 2) := by decide +kernel
theorem d_Program_init_25 : decode m_Program_init.2.1 25 = .ok (.invokespecial 11, 3) := by decide +kernel
theorem d_Program_init_28 : decode m_Program_init.2.1 28 = .ok (.putfield 20, 3) := by decide +kernel
theorem d_Program_init_31 : decode m_Program_init.2.1 31 = .ok (.return_, 1) := by decide +kernel
theorem d_Program_forget_0 : decode m_Program_forget.2.1 0 = .ok (.aload_n 0, 1) := by decide +kernel
theorem d_Program_forget_1 : decode m_Program_forget.2.1 1 = .ok (.iconst 0, 1) := by decide +kernel
theorem d_Program_forget_2 : decode m_Program_forget.2.1 2 = .ok (.putfield 27, 3) := by decide +kernel
theorem d_Program_forget_5 : decode m_Program_forget.2.1 5 = .ok (.return_, 1) := by decide +kernel
theorem d_Program_makeBy_0 : decode m_Program_makeBy.2.1 0 = .ok (.aload_n 0, 1) := by decide +kernel
theorem d_Program_makeBy_1 : decode m_Program_makeBy.2.1 1 = .ok (.getfield 27, 3) := by decide +kernel
theorem d_Program_makeBy_4 : decode m_Program_makeBy.2.1 4 = .ok (.iload_n 1, 1) := by decide +kernel
theorem d_Program_makeBy_5 : decode m_Program_makeBy.2.1 5 = .ok (.if_icmp .ne 4, 3) := by decide +kernel
theorem d_Program_makeBy_8 : decode m_Program_makeBy.2.1 8 = .ok (.return_, 1) := by decide +kernel
theorem d_Program_makeBy_9 : decode m_Program_makeBy.2.1 9 = .ok (.aload_n 0, 1) := by decide +kernel
theorem d_Program_makeBy_10 : decode m_Program_makeBy.2.1 10 = .ok (.iload_n 1, 1) := by decide +kernel
theorem d_Program_makeBy_11 : decode m_Program_makeBy.2.1 11 = .ok (.putfield 27, 3) := by decide +kernel
theorem d_Program_makeBy_14 : decode m_Program_makeBy.2.1 14 = .ok (.aload_n 0, 1) := by decide +kernel
theorem d_Program_makeBy_15 : decode m_Program_makeBy.2.1 15 = .ok (.iconst 0, 1) := by decide +kernel
theorem d_Program_makeBy_16 : decode m_Program_makeBy.2.1 16 = .ok (.putfield 31, 3) := by decide +kernel
theorem d_Program_makeBy_19 : decode m_Program_makeBy.2.1 19 = .ok (.aload_n 0, 1) := by decide +kernel
theorem d_Program_makeBy_20 : decode m_Program_makeBy.2.1 20 = .ok (.iconst 0, 1) := by decide +kernel
theorem d_Program_makeBy_21 : decode m_Program_makeBy.2.1 21 = .ok (.putfield 34, 3) := by decide +kernel
theorem d_Program_makeBy_24 : decode m_Program_makeBy.2.1 24 = .ok (.aload_n 0, 1) := by decide +kernel
theorem d_Program_makeBy_25 : decode m_Program_makeBy.2.1 25 = .ok (.aload_n 2, 1) := by decide +kernel
theorem d_Program_makeBy_26 : decode m_Program_makeBy.2.1 26 = .ok (.aload_n 3, 1) := by decide +kernel
theorem d_Program_makeBy_27 : decode m_Program_makeBy.2.1 27 = .ok (.aload_n 2, 1) := by decide +kernel
theorem d_Program_makeBy_28 : decode m_Program_makeBy.2.1 28 = .ok (.invokevirtual 37, 3) := by decide +kernel
theorem d_Program_makeBy_31 : decode m_Program_makeBy.2.1 31 = .ok (.iconst 0, 1) := by decide +kernel
theorem d_Program_makeBy_32 : decode m_Program_makeBy.2.1 32 = .ok (.iload_n 1, 1) := by decide +kernel
theorem d_Program_makeBy_33 : decode m_Program_makeBy.2.1 33 = .ok (.iconst 0, 1) := by decide +kernel
theorem d_Program_makeBy_34 : decode m_Program_makeBy.2.1 34 = .ok (.invokevirtual 43, 3) := by decide +kernel
theorem d_Program_makeBy_37 : decode m_Program_makeBy.2.1 37 = .ok (.return_, 1) := by decide +kernel
theorem d_Program_have_0 : decode m_Program_have.2.1 0 = .ok (.iload 6, 2) := by decide +kernel
theorem d_Program_have_2 : decode m_Program_have.2.1 2 = .ok (.bipush 31, 2) := by decide +kernel
theorem d_Program_have_4 : decode m_Program_have.2.1 4 = .ok (.if_icmp .lt 4, 3) := by decide +kernel
theorem d_Program_have_7 : decode m_Program_have.2.1 7 = .ok (.return_, 1) := by decide +kernel
theorem d_Program_have_8 : decode m_Program_have.2.1 8 = .ok (.aload_n 1, 1) := by decide +kernel
theorem d_Program_have_9 : decode m_Program_have.2.1 9 = .ok (.iload_n 3, 1) := by decide +kernel
theorem d_Program_have_10 : decode m_Program_have.2.1 10 = .ok (.invokevirtual 47, 3) := by decide +kernel
theorem d_Program_have_13 : decode m_Program_have.2.1 13 = .ok (.ifCond .eq 25, 3) := by decide +kernel
theorem d_Program_have_16 : decode m_Program_have.2.1 16 = .ok (.aload_n 0, 1) := by decide +kernel
theorem d_Program_have_17 : decode m_Program_have.2.1 17 = .ok (.iconst 0, 1) := by decide +kernel
theorem d_Program_have_18 : decode m_Program_have.2.1 18 = .ok (.iload 4, 2) := by decide +kernel
theorem d_Program_have_20 : decode m_Program_have.2.1 20 = .ok (.iload_n 3, 1) := by decide +kernel
theorem d_Program_have_21 : decode m_Program_have.2.1 21 = .ok (.aload_n 1, 1) := by decide +kernel
theorem d_Program_have_22 : decode m_Program_have.2.1 22 = .ok (.iload_n 3, 1) := by decide +kernel
theorem d_Program_have_23 : decode m_Program_have.2.1 23 = .ok (.invokestatic 51, 3) := by decide +kernel
theorem d_Program_have_26 : decode m_Program_have.2.1 26 = .ok (.aload_n 0, 1) := by decide +kernel
theorem d_Program_have_27 : decode m_Program_have.2.1 27 = .ok (.aload_n 1, 1) := by decide +kernel
theorem d_Program_have_28 : decode m_Program_have.2.1 28 = .ok (.iload_n 3, 1) := by decide +kernel
theorem d_Program_have_29 : decode m_Program_have.2.1 29 = .ok (.invokevirtual 55, 3) := by decide +kernel
theorem d_Program_have_32 : decode m_Program_have.2.1 32 = .ok (.invokevirtual 58, 3) := by decide +kernel
theorem d_Program_have_35 : decode m_Program_have.2.1 35 = .ok (.goto 61, 3) := by decide +kernel
theorem d_Program_have_38 : decode m_Program_have.2.1 38 = .ok (.aload_n 1, 1) := by decide +kernel
theorem d_Program_have_39 : decode m_Program_have.2.1 39 = .ok (.iload_n 3, 1) := by decide +kernel
theorem d_Program_have_40 : decode m_Program_have.2.1 40 = .ok (.invokevirtual 62, 3) := by decide +kernel
theorem d_Program_have_43 : decode m_Program_have.2.1 43 = .ok (.ifCond .ne 40, 3) := by decide +kernel
theorem d_Program_have_46 : decode m_Program_have.2.1 46 = .ok (.aload_n 0, 1) := by decide +kernel
theorem d_Program_have_47 : decode m_Program_have.2.1 47 = .ok (.aload_n 1, 1) := by decide +kernel
theorem d_Program_have_48 : decode m_Program_have.2.1 48 = .ok (.aload_n 2, 1) := by decide +kernel
theorem d_Program_have_49 : decode m_Program_have.2.1 49 = .ok (.aload_n 1, 1) := by decide +kernel
theorem d_Program_have_50 : decode m_Program_have.2.1 50 = .ok (.getfield 65, 3) := by decide +kernel
theorem d_Program_have_53 : decode m_Program_have.2.1 53 = .ok (.iload_n 3, 1) := by decide +kernel
theorem d_Program_have_54 : decode m_Program_have.2.1 54 = .ok (.invokevirtual 23, 3) := by decide +kernel
theorem d_Program_have_57 : decode m_Program_have.2.1 57 = .ok (.iload 4, 2) := by decide +kernel
theorem d_Program_have_59 : decode m_Program_have.2.1 59 = .ok (.iload 5, 2) := by decide +kernel
theorem d_Program_have_61 : decode m_Program_have.2.1 61 = .ok (.iload 6, 2) := by decide +kernel
theorem d_Program_have_63 : decode m_Program_have.2.1 63 = .ok (.iconst 1, 1) := by decide +kernel
theorem d_Program_have_64 : decode m_Program_have.2.1 64 = .ok (.iadd, 1) := by decide +kernel
theorem d_Program_have_65 : decode m_Program_have.2.1 65 = .ok (.invokevirtual 43, 3) := by decide +kernel
theorem d_Program_have_68 : decode m_Program_have.2.1 68 = .ok (.aload_n 0, 1) := by decide +kernel
theorem d_Program_have_69 : decode m_Program_have.2.1 69 = .ok (.iconst 1, 1) := by decide +kernel
theorem d_Program_have_70 : decode m_Program_have.2.1 70 = .ok (.iload 4, 2) := by decide +kernel
theorem d_Program_have_72 : decode m_Program_have.2.1 72 = .ok (.iload_n 3, 1) := by decide +kernel
theorem d_Program_have_73 : decode m_Program_have.2.1 73 = .ok (.iload 4, 2) := by decide +kernel
theorem d_Program_have_75 : decode m_Program_have.2.1 75 = .ok (.iload 4, 2) := by decide +kernel
theorem d_Program_have_77 : decode m_Program_have.2.1 77 = .ok (.invokevirtual 58, 3) := by decide +kernel
theorem d_Program_have_80 : decode m_Program_have.2.1 80 = .ok (.goto 16, 3) := by decide +kernel
theorem d_Program_have_83 : decode m_Program_have.2.1 83 = .ok (.aload_n 0, 1) := by decide +kernel
theorem d_Program_have_84 : decode m_Program_have.2.1 84 = .ok (.aload_n 1, 1) := by decide +kernel
theorem d_Program_have_85 : decode m_Program_have.2.1 85 = .ok (.aload_n 2, 1) := by decide +kernel
theorem d_Program_have_86 : decode m_Program_have.2.1 86 = .ok (.iload_n 3, 1) := by decide +kernel
theorem d_Program_have_87 : decode m_Program_have.2.1 87 = .ok (.iload 4, 2) := by decide +kernel
theorem d_Program_have_89 : decode m_Program_have.2.1 89 = .ok (.iload 5, 2) := by decide +kernel
theorem d_Program_have_91 : decode m_Program_have.2.1 91 = .ok (.iload 6, 2) := by decide +kernel
theorem d_Program_have_93 : decode m_Program_have.2.1 93 = .ok (.invokevirtual 68, 3) := by decide +kernel
theorem d_Program_have_96 : decode m_Program_have.2.1 96 = .ok (.return_, 1) := by decide +kernel
theorem d_Program_sourceKind_0 : decode m_Program_sourceKind.2.1 0 = .ok (.aload_n 0, 1) := by decide +kernel
theorem d_Program_sourceKind_1 : decode m_Program_sourceKind.2.1 1 = .ok (.iload_n 1, 1) := by decide +kernel
theorem d_Program_sourceKind_2 : decode m_Program_sourceKind.2.1 2 = .ok (.invokevirtual 47, 3) := by decide +kernel
theorem d_Program_sourceKind_5 : decode m_Program_sourceKind.2.1 5 = .ok (.ifCond .ne 5, 3) := by decide +kernel
theorem d_Program_sourceKind_8 : decode m_Program_sourceKind.2.1 8 = .ok (.iconst 2, 1) := by decide +kernel
theorem d_Program_sourceKind_9 : decode m_Program_sourceKind.2.1 9 = .ok (.ireturn, 1) := by decide +kernel
theorem d_Program_sourceKind_10 : decode m_Program_sourceKind.2.1 10 = .ok (.aload_n 0, 1) := by decide +kernel
theorem d_Program_sourceKind_11 : decode m_Program_sourceKind.2.1 11 = .ok (.getfield 87, 3) := by decide +kernel
theorem d_Program_sourceKind_14 : decode m_Program_sourceKind.2.1 14 = .ok (.iload_n 1, 1) := by decide +kernel
theorem d_Program_sourceKind_15 : decode m_Program_sourceKind.2.1 15 = .ok (.invokevirtual 23, 3) := by decide +kernel
theorem d_Program_sourceKind_18 : decode m_Program_sourceKind.2.1 18 = .ok (.bipush 48, 2) := by decide +kernel
theorem d_Program_sourceKind_20 : decode m_Program_sourceKind.2.1 20 = .ok (.if_icmp .ne 7, 3) := by decide +kernel
theorem d_Program_sourceKind_23 : decode m_Program_sourceKind.2.1 23 = .ok (.iconst 0, 1) := by decide +kernel
theorem d_Program_sourceKind_24 : decode m_Program_sourceKind.2.1 24 = .ok (.goto 4, 3) := by decide +kernel
theorem d_Program_sourceKind_27 : decode m_Program_sourceKind.2.1 27 = .ok (.iconst 1, 1) := by decide +kernel
theorem d_Program_sourceKind_28 : decode m_Program_sourceKind.2.1 28 = .ok (.ireturn, 1) := by decide +kernel
theorem d_Program_sourceNumber_0 : decode m_Program_sourceNumber.2.1 0 = .ok (.aload_n 1, 1) := by decide +kernel
theorem d_Program_sourceNumber_1 : decode m_Program_sourceNumber.2.1 1 = .ok (.iload_n 2, 1) := by decide +kernel
theorem d_Program_sourceNumber_2 : decode m_Program_sourceNumber.2.1 2 = .ok (.invokevirtual 47, 3) := by decide +kernel
theorem d_Program_sourceNumber_5 : decode m_Program_sourceNumber.2.1 5 = .ok (.ifCond .eq 14, 3) := by decide +kernel
theorem d_Program_sourceNumber_8 : decode m_Program_sourceNumber.2.1 8 = .ok (.aload_n 1, 1) := by decide +kernel
theorem d_Program_sourceNumber_9 : decode m_Program_sourceNumber.2.1 9 = .ok (.getfield 90, 3) := by decide +kernel
theorem d_Program_sourceNumber_12 : decode m_Program_sourceNumber.2.1 12 = .ok (.iload_n 2, 1) := by decide +kernel
theorem d_Program_sourceNumber_13 : decode m_Program_sourceNumber.2.1 13 = .ok (.invokevirtual 23, 3) := by decide +kernel
theorem d_Program_sourceNumber_16 : decode m_Program_sourceNumber.2.1 16 = .ok (.goto 11, 3) := by decide +kernel
theorem d_Program_sourceNumber_19 : decode m_Program_sourceNumber.2.1 19 = .ok (.aload_n 0, 1) := by decide +kernel
theorem d_Program_sourceNumber_20 : decode m_Program_sourceNumber.2.1 20 = .ok (.getfield 20, 3) := by decide +kernel
theorem d_Program_sourceNumber_23 : decode m_Program_sourceNumber.2.1 23 = .ok (.iload_n 2, 1) := by decide +kernel
theorem d_Program_sourceNumber_24 : decode m_Program_sourceNumber.2.1 24 = .ok (.invokevirtual 23, 3) := by decide +kernel
theorem d_Program_sourceNumber_27 : decode m_Program_sourceNumber.2.1 27 = .ok (.ireturn, 1) := by decide +kernel
theorem d_Program_add_0 : decode m_Program_add.2.1 0 = .ok (.aload_n 0, 1) := by decide +kernel
theorem d_Program_add_1 : decode m_Program_add.2.1 1 = .ok (.getfield 31, 3) := by decide +kernel
theorem d_Program_add_4 : decode m_Program_add.2.1 4 = .ok (.iconst 5, 1) := by decide +kernel
theorem d_Program_add_5 : decode m_Program_add.2.1 5 = .ok (.imul, 1) := by decide +kernel
theorem d_Program_add_6 : decode m_Program_add.2.1 6 = .ok (.istore 6, 2) := by decide +kernel
theorem d_Program_add_8 : decode m_Program_add.2.1 8 = .ok (.aload_n 0, 1) := by decide +kernel
theorem d_Program_add_9 : decode m_Program_add.2.1 9 = .ok (.getfield 14, 3) := by decide +kernel
theorem d_Program_add_12 : decode m_Program_add.2.1 12 = .ok (.iload 6, 2) := by decide +kernel
theorem d_Program_add_14 : decode m_Program_add.2.1 14 = .ok (.iload_n 1, 1) := by decide +kernel
theorem d_Program_add_15 : decode m_Program_add.2.1 15 = .ok (.invokevirtual 83, 3) := by decide +kernel
theorem d_Program_add_18 : decode m_Program_add.2.1 18 = .ok (.aload_n 0, 1) := by decide +kernel
theorem d_Program_add_19 : decode m_Program_add.2.1 19 = .ok (.getfield 14, 3) := by decide +kernel
theorem d_Program_add_22 : decode m_Program_add.2.1 22 = .ok (.iload 6, 2) := by decide +kernel
theorem d_Program_add_24 : decode m_Program_add.2.1 24 = .ok (.iconst 1, 1) := by decide +kernel
theorem d_Program_add_25 : decode m_Program_add.2.1 25 = .ok (.iadd, 1) := by decide +kernel
theorem d_Program_add_26 : decode m_Program_add.2.1 26 = .ok (.iload_n 2, 1) := by decide +kernel
theorem d_Program_add_27 : decode m_Program_add.2.1 27 = .ok (.invokevirtual 83, 3) := by decide +kernel
theorem d_Program_add_30 : decode m_Program_add.2.1 30 = .ok (.aload_n 0, 1) := by decide +kernel
theorem d_Program_add_31 : decode m_Program_add.2.1 31 = .ok (.getfield 14, 3) := by decide +kernel
theorem d_Program_add_34 : decode m_Program_add.2.1 34 = .ok (.iload 6, 2) := by decide +kernel
theorem d_Program_add_36 : decode m_Program_add.2.1 36 = .ok (.iconst 2, 1) := by decide +kernel
theorem d_Program_add_37 : decode m_Program_add.2.1 37 = .ok (.iadd, 1) := by decide +kernel
theorem d_Program_add_38 : decode m_Program_add.2.1 38 = .ok (.iload_n 3, 1) := by decide +kernel
theorem d_Program_add_39 : decode m_Program_add.2.1 39 = .ok (.invokevirtual 83, 3) := by decide +kernel
theorem d_Program_add_42 : decode m_Program_add.2.1 42 = .ok (.aload_n 0, 1) := by decide +kernel
theorem d_Program_add_43 : decode m_Program_add.2.1 43 = .ok (.getfield 14, 3) := by decide +kernel
theorem d_Program_add_46 : decode m_Program_add.2.1 46 = .ok (.iload 6, 2) := by decide +kernel
theorem d_Program_add_48 : decode m_Program_add.2.1 48 = .ok (.iconst 3, 1) := by decide +kernel
theorem d_Program_add_49 : decode m_Program_add.2.1 49 = .ok (.iadd, 1) := by decide +kernel
theorem d_Program_add_50 : decode m_Program_add.2.1 50 = .ok (.iload 4, 2) := by decide +kernel
theorem d_Program_add_52 : decode m_Program_add.2.1 52 = .ok (.invokevirtual 83, 3) := by decide +kernel
theorem d_Program_add_55 : decode m_Program_add.2.1 55 = .ok (.aload_n 0, 1) := by decide +kernel
theorem d_Program_add_56 : decode m_Program_add.2.1 56 = .ok (.getfield 14, 3) := by decide +kernel
theorem d_Program_add_59 : decode m_Program_add.2.1 59 = .ok (.iload 6, 2) := by decide +kernel
theorem d_Program_add_61 : decode m_Program_add.2.1 61 = .ok (.iconst 4, 1) := by decide +kernel
theorem d_Program_add_62 : decode m_Program_add.2.1 62 = .ok (.iadd, 1) := by decide +kernel
theorem d_Program_add_63 : decode m_Program_add.2.1 63 = .ok (.iload 5, 2) := by decide +kernel
theorem d_Program_add_65 : decode m_Program_add.2.1 65 = .ok (.invokevirtual 83, 3) := by decide +kernel
theorem d_Program_add_68 : decode m_Program_add.2.1 68 = .ok (.aload_n 0, 1) := by decide +kernel
theorem d_Program_add_69 : decode m_Program_add.2.1 69 = .ok (.dup, 1) := by decide +kernel
theorem d_Program_add_70 : decode m_Program_add.2.1 70 = .ok (.getfield 31, 3) := by decide +kernel
theorem d_Program_add_73 : decode m_Program_add.2.1 73 = .ok (.iconst 1, 1) := by decide +kernel
theorem d_Program_add_74 : decode m_Program_add.2.1 74 = .ok (.iadd, 1) := by decide +kernel
theorem d_Program_add_75 : decode m_Program_add.2.1 75 = .ok (.putfield 31, 3) := by decide +kernel
theorem d_Program_add_78 : decode m_Program_add.2.1 78 = .ok (.return_, 1) := by decide +kernel
theorem d_Program_haveByWay_0 : decode m_Program_haveByWay.2.1 0 = .ok (.aload_n 1, 1) := by decide +kernel
theorem d_Program_haveByWay_1 : decode m_Program_haveByWay.2.1 1 = .ok (.getfield 65, 3) := by decide +kernel
theorem d_Program_haveByWay_4 : decode m_Program_haveByWay.2.1 4 = .ok (.iload_n 3, 1) := by decide +kernel
theorem d_Program_haveByWay_5 : decode m_Program_haveByWay.2.1 5 = .ok (.invokevirtual 23, 3) := by decide +kernel
theorem d_Program_haveByWay_8 : decode m_Program_haveByWay.2.1 8 = .ok (.istore 7, 2) := by decide +kernel
theorem d_Program_haveByWay_10 : decode m_Program_haveByWay.2.1 10 = .ok (.aload_n 1, 1) := by decide +kernel
theorem d_Program_haveByWay_11 : decode m_Program_haveByWay.2.1 11 = .ok (.getfield 71, 3) := by decide +kernel
theorem d_Program_haveByWay_14 : decode m_Program_haveByWay.2.1 14 = .ok (.iload_n 3, 1) := by decide +kernel
theorem d_Program_haveByWay_15 : decode m_Program_haveByWay.2.1 15 = .ok (.invokevirtual 23, 3) := by decide +kernel
theorem d_Program_haveByWay_18 : decode m_Program_haveByWay.2.1 18 = .ok (.istore 8, 2) := by decide +kernel
theorem d_Program_haveByWay_20 : decode m_Program_haveByWay.2.1 20 = .ok (.aload_n 2, 1) := by decide +kernel
theorem d_Program_haveByWay_21 : decode m_Program_haveByWay.2.1 21 = .ok (.iload_n 3, 1) := by decide +kernel
theorem d_Program_haveByWay_22 : decode m_Program_haveByWay.2.1 22 = .ok (.iload 5, 2) := by decide +kernel
theorem d_Program_haveByWay_24 : decode m_Program_haveByWay.2.1 24 = .ok (.invokevirtual 74, 3) := by decide +kernel
theorem d_Program_haveByWay_27 : decode m_Program_haveByWay.2.1 27 = .ok (.tableswitch 324 1 5 #[33, 86, 139, 195, 251], 33) := by decide +kernel
theorem d_Program_haveByWay_60 : decode m_Program_haveByWay.2.1 60 = .ok (.aload_n 0, 1) := by decide +kernel
theorem d_Program_haveByWay_61 : decode m_Program_haveByWay.2.1 61 = .ok (.aload_n 1, 1) := by decide +kernel
theorem d_Program_haveByWay_62 : decode m_Program_haveByWay.2.1 62 = .ok (.aload_n 2, 1) := by decide +kernel
theorem d_Program_haveByWay_63 : decode m_Program_haveByWay.2.1 63 = .ok (.iload 7, 2) := by decide +kernel
theorem d_Program_haveByWay_65 : decode m_Program_haveByWay.2.1 65 = .ok (.iload 4, 2) := by decide +kernel
theorem d_Program_haveByWay_67 : decode m_Program_haveByWay.2.1 67 = .ok (.iload 5, 2) := by decide +kernel
theorem d_Program_haveByWay_69 : decode m_Program_haveByWay.2.1 69 = .ok (.iload 6, 2) := by decide +kernel
theorem d_Program_haveByWay_71 : decode m_Program_haveByWay.2.1 71 = .ok (.iconst 1, 1) := by decide +kernel
theorem d_Program_haveByWay_72 : decode m_Program_haveByWay.2.1 72 = .ok (.iadd, 1) := by decide +kernel
theorem d_Program_haveByWay_73 : decode m_Program_haveByWay.2.1 73 = .ok (.invokevirtual 43, 3) := by decide +kernel
theorem d_Program_haveByWay_76 : decode m_Program_haveByWay.2.1 76 = .ok (.aload_n 0, 1) := by decide +kernel
theorem d_Program_haveByWay_77 : decode m_Program_haveByWay.2.1 77 = .ok (.aload_n 1, 1) := by decide +kernel
theorem d_Program_haveByWay_78 : decode m_Program_haveByWay.2.1 78 = .ok (.aload_n 2, 1) := by decide +kernel
theorem d_Program_haveByWay_79 : decode m_Program_haveByWay.2.1 79 = .ok (.iload 8, 2) := by decide +kernel
theorem d_Program_haveByWay_81 : decode m_Program_haveByWay.2.1 81 = .ok (.iload 4, 2) := by decide +kernel
theorem d_Program_haveByWay_83 : decode m_Program_haveByWay.2.1 83 = .ok (.iconst 1, 1) := by decide +kernel
theorem d_Program_haveByWay_84 : decode m_Program_haveByWay.2.1 84 = .ok (.iadd, 1) := by decide +kernel
theorem d_Program_haveByWay_85 : decode m_Program_haveByWay.2.1 85 = .ok (.iload 5, 2) := by decide +kernel
theorem d_Program_haveByWay_87 : decode m_Program_haveByWay.2.1 87 = .ok (.iconst 1, 1) := by decide +kernel
theorem d_Program_haveByWay_88 : decode m_Program_haveByWay.2.1 88 = .ok (.isub, 1) := by decide +kernel
theorem d_Program_haveByWay_89 : decode m_Program_haveByWay.2.1 89 = .ok (.iload 6, 2) := by decide +kernel
theorem d_Program_haveByWay_91 : decode m_Program_haveByWay.2.1 91 = .ok (.iconst 1, 1) := by decide +kernel
theorem d_Program_haveByWay_92 : decode m_Program_haveByWay.2.1 92 = .ok (.iadd, 1) := by decide +kernel
theorem d_Program_haveByWay_93 : decode m_Program_haveByWay.2.1 93 = .ok (.invokevirtual 43, 3) := by decide +kernel
theorem d_Program_haveByWay_96 : decode m_Program_haveByWay.2.1 96 = .ok (.aload_n 0, 1) := by decide +kernel
theorem d_Program_haveByWay_97 : decode m_Program_haveByWay.2.1 97 = .ok (.iconst 1, 1) := by decide +kernel
theorem d_Program_haveByWay_98 : decode m_Program_haveByWay.2.1 98 = .ok (.iload 4, 2) := by decide +kernel
theorem d_Program_haveByWay_100 : decode m_Program_haveByWay.2.1 100 = .ok (.iload_n 3, 1) := by decide +kernel
theorem d_Program_haveByWay_101 : decode m_Program_haveByWay.2.1 101 = .ok (.iload 4, 2) := by decide +kernel
theorem d_Program_haveByWay_103 : decode m_Program_haveByWay.2.1 103 = .ok (.iload 4, 2) := by decide +kernel
theorem d_Program_haveByWay_105 : decode m_Program_haveByWay.2.1 105 = .ok (.iconst 1, 1) := by decide +kernel
theorem d_Program_haveByWay_106 : decode m_Program_haveByWay.2.1 106 = .ok (.iadd, 1) := by decide +kernel
theorem d_Program_haveByWay_107 : decode m_Program_haveByWay.2.1 107 = .ok (.invokevirtual 58, 3) := by decide +kernel
theorem d_Program_haveByWay_110 : decode m_Program_haveByWay.2.1 110 = .ok (.goto 316, 3) := by decide +kernel
theorem d_Program_haveByWay_113 : decode m_Program_haveByWay.2.1 113 = .ok (.aload_n 0, 1) := by decide +kernel
theorem d_Program_haveByWay_114 : decode m_Program_haveByWay.2.1 114 = .ok (.aload_n 1, 1) := by decide +kernel
theorem d_Program_haveByWay_115 : decode m_Program_haveByWay.2.1 115 = .ok (.aload_n 2, 1) := by decide +kernel
theorem d_Program_haveByWay_116 : decode m_Program_haveByWay.2.1 116 = .ok (.iload 8, 2) := by decide +kernel
theorem d_Program_haveByWay_118 : decode m_Program_haveByWay.2.1 118 = .ok (.iload 4, 2) := by decide +kernel
theorem d_Program_haveByWay_120 : decode m_Program_haveByWay.2.1 120 = .ok (.iload 5, 2) := by decide +kernel
theorem d_Program_haveByWay_122 : decode m_Program_haveByWay.2.1 122 = .ok (.iload 6, 2) := by decide +kernel
theorem d_Program_haveByWay_124 : decode m_Program_haveByWay.2.1 124 = .ok (.iconst 1, 1) := by decide +kernel
theorem d_Program_haveByWay_125 : decode m_Program_haveByWay.2.1 125 = .ok (.iadd, 1) := by decide +kernel
theorem d_Program_haveByWay_126 : decode m_Program_haveByWay.2.1 126 = .ok (.invokevirtual 43, 3) := by decide +kernel
theorem d_Program_haveByWay_129 : decode m_Program_haveByWay.2.1 129 = .ok (.aload_n 0, 1) := by decide +kernel
theorem d_Program_haveByWay_130 : decode m_Program_haveByWay.2.1 130 = .ok (.aload_n 1, 1) := by decide +kernel
theorem d_Program_haveByWay_131 : decode m_Program_haveByWay.2.1 131 = .ok (.aload_n 2, 1) := by decide +kernel
theorem d_Program_haveByWay_132 : decode m_Program_haveByWay.2.1 132 = .ok (.iload 7, 2) := by decide +kernel
theorem d_Program_haveByWay_134 : decode m_Program_haveByWay.2.1 134 = .ok (.iload 4, 2) := by decide +kernel
theorem d_Program_haveByWay_136 : decode m_Program_haveByWay.2.1 136 = .ok (.iconst 1, 1) := by decide +kernel
theorem d_Program_haveByWay_137 : decode m_Program_haveByWay.2.1 137 = .ok (.iadd, 1) := by decide +kernel
theorem d_Program_haveByWay_138 : decode m_Program_haveByWay.2.1 138 = .ok (.iload 5, 2) := by decide +kernel
theorem d_Program_haveByWay_140 : decode m_Program_haveByWay.2.1 140 = .ok (.iconst 1, 1) := by decide +kernel
theorem d_Program_haveByWay_141 : decode m_Program_haveByWay.2.1 141 = .ok (.isub, 1) := by decide +kernel
theorem d_Program_haveByWay_142 : decode m_Program_haveByWay.2.1 142 = .ok (.iload 6, 2) := by decide +kernel
theorem d_Program_haveByWay_144 : decode m_Program_haveByWay.2.1 144 = .ok (.iconst 1, 1) := by decide +kernel
theorem d_Program_haveByWay_145 : decode m_Program_haveByWay.2.1 145 = .ok (.iadd, 1) := by decide +kernel
theorem d_Program_haveByWay_146 : decode m_Program_haveByWay.2.1 146 = .ok (.invokevirtual 43, 3) := by decide +kernel
theorem d_Program_haveByWay_149 : decode m_Program_haveByWay.2.1 149 = .ok (.aload_n 0, 1) := by decide +kernel
theorem d_Program_haveByWay_150 : decode m_Program_haveByWay.2.1 150 = .ok (.iconst 1, 1) := by decide +kernel
theorem d_Program_haveByWay_151 : decode m_Program_haveByWay.2.1 151 = .ok (.iload 4, 2) := by decide +kernel
theorem d_Program_haveByWay_153 : decode m_Program_haveByWay.2.1 153 = .ok (.iload_n 3, 1) := by decide +kernel
theorem d_Program_haveByWay_154 : decode m_Program_haveByWay.2.1 154 = .ok (.iload 4, 2) := by decide +kernel
theorem d_Program_haveByWay_156 : decode m_Program_haveByWay.2.1 156 = .ok (.iconst 1, 1) := by decide +kernel
theorem d_Program_haveByWay_157 : decode m_Program_haveByWay.2.1 157 = .ok (.iadd, 1) := by decide +kernel
theorem d_Program_haveByWay_158 : decode m_Program_haveByWay.2.1 158 = .ok (.iload 4, 2) := by decide +kernel
theorem d_Program_haveByWay_160 : decode m_Program_haveByWay.2.1 160 = .ok (.invokevirtual 58, 3) := by decide +kernel
theorem d_Program_haveByWay_163 : decode m_Program_haveByWay.2.1 163 = .ok (.goto 263, 3) := by decide +kernel
theorem d_Program_haveByWay_166 : decode m_Program_haveByWay.2.1 166 = .ok (.aload_n 0, 1) := by decide +kernel
theorem d_Program_haveByWay_167 : decode m_Program_haveByWay.2.1 167 = .ok (.aload_n 1, 1) := by decide +kernel
theorem d_Program_haveByWay_168 : decode m_Program_haveByWay.2.1 168 = .ok (.aload_n 2, 1) := by decide +kernel
theorem d_Program_haveByWay_169 : decode m_Program_haveByWay.2.1 169 = .ok (.iload 8, 2) := by decide +kernel
theorem d_Program_haveByWay_171 : decode m_Program_haveByWay.2.1 171 = .ok (.iload 4, 2) := by decide +kernel
theorem d_Program_haveByWay_173 : decode m_Program_haveByWay.2.1 173 = .ok (.iload 5, 2) := by decide +kernel
theorem d_Program_haveByWay_175 : decode m_Program_haveByWay.2.1 175 = .ok (.iload 6, 2) := by decide +kernel
theorem d_Program_haveByWay_177 : decode m_Program_haveByWay.2.1 177 = .ok (.iconst 1, 1) := by decide +kernel
theorem d_Program_haveByWay_178 : decode m_Program_haveByWay.2.1 178 = .ok (.iadd, 1) := by decide +kernel
theorem d_Program_haveByWay_179 : decode m_Program_haveByWay.2.1 179 = .ok (.invokevirtual 80, 3) := by decide +kernel
theorem d_Program_haveByWay_182 : decode m_Program_haveByWay.2.1 182 = .ok (.aload_n 0, 1) := by decide +kernel
theorem d_Program_haveByWay_183 : decode m_Program_haveByWay.2.1 183 = .ok (.aload_n 1, 1) := by decide +kernel
theorem d_Program_haveByWay_184 : decode m_Program_haveByWay.2.1 184 = .ok (.aload_n 2, 1) := by decide +kernel
theorem d_Program_haveByWay_185 : decode m_Program_haveByWay.2.1 185 = .ok (.iload 7, 2) := by decide +kernel
theorem d_Program_haveByWay_187 : decode m_Program_haveByWay.2.1 187 = .ok (.iload 4, 2) := by decide +kernel
theorem d_Program_haveByWay_189 : decode m_Program_haveByWay.2.1 189 = .ok (.iload 5, 2) := by decide +kernel
theorem d_Program_haveByWay_191 : decode m_Program_haveByWay.2.1 191 = .ok (.iload 6, 2) := by decide +kernel
theorem d_Program_haveByWay_193 : decode m_Program_haveByWay.2.1 193 = .ok (.iconst 1, 1) := by decide +kernel
theorem d_Program_haveByWay_194 : decode m_Program_haveByWay.2.1 194 = .ok (.iadd, 1) := by decide +kernel
theorem d_Program_haveByWay_195 : decode m_Program_haveByWay.2.1 195 = .ok (.invokevirtual 43, 3) := by decide +kernel
theorem d_Program_haveByWay_198 : decode m_Program_haveByWay.2.1 198 = .ok (.aload_n 0, 1) := by decide +kernel
theorem d_Program_haveByWay_199 : decode m_Program_haveByWay.2.1 199 = .ok (.iconst 2, 1) := by decide +kernel
theorem d_Program_haveByWay_200 : decode m_Program_haveByWay.2.1 200 = .ok (.iload 4, 2) := by decide +kernel
theorem d_Program_haveByWay_202 : decode m_Program_haveByWay.2.1 202 = .ok (.iload_n 3, 1) := by decide +kernel
theorem d_Program_haveByWay_203 : decode m_Program_haveByWay.2.1 203 = .ok (.aload_n 1, 1) := by decide +kernel
theorem d_Program_haveByWay_204 : decode m_Program_haveByWay.2.1 204 = .ok (.iload 8, 2) := by decide +kernel
theorem d_Program_haveByWay_206 : decode m_Program_haveByWay.2.1 206 = .ok (.invokestatic 51, 3) := by decide +kernel
theorem d_Program_haveByWay_209 : decode m_Program_haveByWay.2.1 209 = .ok (.aload_n 0, 1) := by decide +kernel
theorem d_Program_haveByWay_210 : decode m_Program_haveByWay.2.1 210 = .ok (.aload_n 1, 1) := by decide +kernel
theorem d_Program_haveByWay_211 : decode m_Program_haveByWay.2.1 211 = .ok (.iload 8, 2) := by decide +kernel
theorem d_Program_haveByWay_213 : decode m_Program_haveByWay.2.1 213 = .ok (.invokevirtual 55, 3) := by decide +kernel
theorem d_Program_haveByWay_216 : decode m_Program_haveByWay.2.1 216 = .ok (.invokevirtual 58, 3) := by decide +kernel
theorem d_Program_haveByWay_219 : decode m_Program_haveByWay.2.1 219 = .ok (.goto 207, 3) := by decide +kernel
theorem d_Program_haveByWay_222 : decode m_Program_haveByWay.2.1 222 = .ok (.aload_n 0, 1) := by decide +kernel
theorem d_Program_haveByWay_223 : decode m_Program_haveByWay.2.1 223 = .ok (.aload_n 1, 1) := by decide +kernel
theorem d_Program_haveByWay_224 : decode m_Program_haveByWay.2.1 224 = .ok (.aload_n 2, 1) := by decide +kernel
theorem d_Program_haveByWay_225 : decode m_Program_haveByWay.2.1 225 = .ok (.iload 7, 2) := by decide +kernel
theorem d_Program_haveByWay_227 : decode m_Program_haveByWay.2.1 227 = .ok (.iload 4, 2) := by decide +kernel
theorem d_Program_haveByWay_229 : decode m_Program_haveByWay.2.1 229 = .ok (.iload 5, 2) := by decide +kernel
theorem d_Program_haveByWay_231 : decode m_Program_haveByWay.2.1 231 = .ok (.iload 6, 2) := by decide +kernel
theorem d_Program_haveByWay_233 : decode m_Program_haveByWay.2.1 233 = .ok (.iconst 1, 1) := by decide +kernel
theorem d_Program_haveByWay_234 : decode m_Program_haveByWay.2.1 234 = .ok (.iadd, 1) := by decide +kernel
theorem d_Program_haveByWay_235 : decode m_Program_haveByWay.2.1 235 = .ok (.invokevirtual 80, 3) := by decide +kernel
theorem d_Program_haveByWay_238 : decode m_Program_haveByWay.2.1 238 = .ok (.aload_n 0, 1) := by decide +kernel
theorem d_Program_haveByWay_239 : decode m_Program_haveByWay.2.1 239 = .ok (.aload_n 1, 1) := by decide +kernel
theorem d_Program_haveByWay_240 : decode m_Program_haveByWay.2.1 240 = .ok (.aload_n 2, 1) := by decide +kernel
theorem d_Program_haveByWay_241 : decode m_Program_haveByWay.2.1 241 = .ok (.iload 8, 2) := by decide +kernel
theorem d_Program_haveByWay_243 : decode m_Program_haveByWay.2.1 243 = .ok (.iload 4, 2) := by decide +kernel
theorem d_Program_haveByWay_245 : decode m_Program_haveByWay.2.1 245 = .ok (.iload 5, 2) := by decide +kernel
theorem d_Program_haveByWay_247 : decode m_Program_haveByWay.2.1 247 = .ok (.iload 6, 2) := by decide +kernel
theorem d_Program_haveByWay_249 : decode m_Program_haveByWay.2.1 249 = .ok (.iconst 1, 1) := by decide +kernel
theorem d_Program_haveByWay_250 : decode m_Program_haveByWay.2.1 250 = .ok (.iadd, 1) := by decide +kernel
theorem d_Program_haveByWay_251 : decode m_Program_haveByWay.2.1 251 = .ok (.invokevirtual 43, 3) := by decide +kernel
theorem d_Program_haveByWay_254 : decode m_Program_haveByWay.2.1 254 = .ok (.aload_n 0, 1) := by decide +kernel
theorem d_Program_haveByWay_255 : decode m_Program_haveByWay.2.1 255 = .ok (.iconst 2, 1) := by decide +kernel
theorem d_Program_haveByWay_256 : decode m_Program_haveByWay.2.1 256 = .ok (.iload 4, 2) := by decide +kernel
theorem d_Program_haveByWay_258 : decode m_Program_haveByWay.2.1 258 = .ok (.iload_n 3, 1) := by decide +kernel
theorem d_Program_haveByWay_259 : decode m_Program_haveByWay.2.1 259 = .ok (.aload_n 1, 1) := by decide +kernel
theorem d_Program_haveByWay_260 : decode m_Program_haveByWay.2.1 260 = .ok (.iload 7, 2) := by decide +kernel
theorem d_Program_haveByWay_262 : decode m_Program_haveByWay.2.1 262 = .ok (.invokestatic 51, 3) := by decide +kernel
theorem d_Program_haveByWay_265 : decode m_Program_haveByWay.2.1 265 = .ok (.aload_n 0, 1) := by decide +kernel
theorem d_Program_haveByWay_266 : decode m_Program_haveByWay.2.1 266 = .ok (.aload_n 1, 1) := by decide +kernel
theorem d_Program_haveByWay_267 : decode m_Program_haveByWay.2.1 267 = .ok (.iload 7, 2) := by decide +kernel
theorem d_Program_haveByWay_269 : decode m_Program_haveByWay.2.1 269 = .ok (.invokevirtual 55, 3) := by decide +kernel
theorem d_Program_haveByWay_272 : decode m_Program_haveByWay.2.1 272 = .ok (.invokevirtual 58, 3) := by decide +kernel
theorem d_Program_haveByWay_275 : decode m_Program_haveByWay.2.1 275 = .ok (.goto 151, 3) := by decide +kernel
theorem d_Program_haveByWay_278 : decode m_Program_haveByWay.2.1 278 = .ok (.aload_n 0, 1) := by decide +kernel
theorem d_Program_haveByWay_279 : decode m_Program_haveByWay.2.1 279 = .ok (.aload_n 1, 1) := by decide +kernel
theorem d_Program_haveByWay_280 : decode m_Program_haveByWay.2.1 280 = .ok (.aload_n 2, 1) := by decide +kernel
theorem d_Program_haveByWay_281 : decode m_Program_haveByWay.2.1 281 = .ok (.iload 7, 2) := by decide +kernel
theorem d_Program_haveByWay_283 : decode m_Program_haveByWay.2.1 283 = .ok (.iload 4, 2) := by decide +kernel
theorem d_Program_haveByWay_285 : decode m_Program_haveByWay.2.1 285 = .ok (.iload 5, 2) := by decide +kernel
theorem d_Program_haveByWay_287 : decode m_Program_haveByWay.2.1 287 = .ok (.iload 6, 2) := by decide +kernel
theorem d_Program_haveByWay_289 : decode m_Program_haveByWay.2.1 289 = .ok (.iconst 1, 1) := by decide +kernel
theorem d_Program_haveByWay_290 : decode m_Program_haveByWay.2.1 290 = .ok (.iadd, 1) := by decide +kernel
theorem d_Program_haveByWay_291 : decode m_Program_haveByWay.2.1 291 = .ok (.invokevirtual 80, 3) := by decide +kernel
theorem d_Program_haveByWay_294 : decode m_Program_haveByWay.2.1 294 = .ok (.aload_n 0, 1) := by decide +kernel
theorem d_Program_haveByWay_295 : decode m_Program_haveByWay.2.1 295 = .ok (.aload_n 1, 1) := by decide +kernel
theorem d_Program_haveByWay_296 : decode m_Program_haveByWay.2.1 296 = .ok (.aload_n 2, 1) := by decide +kernel
theorem d_Program_haveByWay_297 : decode m_Program_haveByWay.2.1 297 = .ok (.iload 8, 2) := by decide +kernel
theorem d_Program_haveByWay_299 : decode m_Program_haveByWay.2.1 299 = .ok (.iload 4, 2) := by decide +kernel
theorem d_Program_haveByWay_301 : decode m_Program_haveByWay.2.1 301 = .ok (.iload 5, 2) := by decide +kernel
theorem d_Program_haveByWay_303 : decode m_Program_haveByWay.2.1 303 = .ok (.iload 6, 2) := by decide +kernel
theorem d_Program_haveByWay_305 : decode m_Program_haveByWay.2.1 305 = .ok (.iconst 1, 1) := by decide +kernel
theorem d_Program_haveByWay_306 : decode m_Program_haveByWay.2.1 306 = .ok (.iadd, 1) := by decide +kernel
theorem d_Program_haveByWay_307 : decode m_Program_haveByWay.2.1 307 = .ok (.invokevirtual 43, 3) := by decide +kernel
theorem d_Program_haveByWay_310 : decode m_Program_haveByWay.2.1 310 = .ok (.aload_n 0, 1) := by decide +kernel
theorem d_Program_haveByWay_311 : decode m_Program_haveByWay.2.1 311 = .ok (.iconst 0, 1) := by decide +kernel
theorem d_Program_haveByWay_312 : decode m_Program_haveByWay.2.1 312 = .ok (.iload 4, 2) := by decide +kernel
theorem d_Program_haveByWay_314 : decode m_Program_haveByWay.2.1 314 = .ok (.iconst 1, 1) := by decide +kernel
theorem d_Program_haveByWay_315 : decode m_Program_haveByWay.2.1 315 = .ok (.iadd, 1) := by decide +kernel
theorem d_Program_haveByWay_316 : decode m_Program_haveByWay.2.1 316 = .ok (.iload 7, 2) := by decide +kernel
theorem d_Program_haveByWay_318 : decode m_Program_haveByWay.2.1 318 = .ok (.aload_n 1, 1) := by decide +kernel
theorem d_Program_haveByWay_319 : decode m_Program_haveByWay.2.1 319 = .ok (.iload 7, 2) := by decide +kernel
theorem d_Program_haveByWay_321 : decode m_Program_haveByWay.2.1 321 = .ok (.invokestatic 51, 3) := by decide +kernel
theorem d_Program_haveByWay_324 : decode m_Program_haveByWay.2.1 324 = .ok (.aload_n 0, 1) := by decide +kernel
theorem d_Program_haveByWay_325 : decode m_Program_haveByWay.2.1 325 = .ok (.aload_n 1, 1) := by decide +kernel
theorem d_Program_haveByWay_326 : decode m_Program_haveByWay.2.1 326 = .ok (.iload 7, 2) := by decide +kernel
theorem d_Program_haveByWay_328 : decode m_Program_haveByWay.2.1 328 = .ok (.invokevirtual 55, 3) := by decide +kernel
theorem d_Program_haveByWay_331 : decode m_Program_haveByWay.2.1 331 = .ok (.invokevirtual 58, 3) := by decide +kernel
theorem d_Program_haveByWay_334 : decode m_Program_haveByWay.2.1 334 = .ok (.aload_n 0, 1) := by decide +kernel
theorem d_Program_haveByWay_335 : decode m_Program_haveByWay.2.1 335 = .ok (.iconst 1, 1) := by decide +kernel
theorem d_Program_haveByWay_336 : decode m_Program_haveByWay.2.1 336 = .ok (.iload 4, 2) := by decide +kernel
theorem d_Program_haveByWay_338 : decode m_Program_haveByWay.2.1 338 = .ok (.iload_n 3, 1) := by decide +kernel
theorem d_Program_haveByWay_339 : decode m_Program_haveByWay.2.1 339 = .ok (.iload 4, 2) := by decide +kernel
theorem d_Program_haveByWay_341 : decode m_Program_haveByWay.2.1 341 = .ok (.iconst 1, 1) := by decide +kernel
theorem d_Program_haveByWay_342 : decode m_Program_haveByWay.2.1 342 = .ok (.iadd, 1) := by decide +kernel
theorem d_Program_haveByWay_343 : decode m_Program_haveByWay.2.1 343 = .ok (.iload 4, 2) := by decide +kernel
theorem d_Program_haveByWay_345 : decode m_Program_haveByWay.2.1 345 = .ok (.invokevirtual 58, 3) := by decide +kernel
theorem d_Program_haveByWay_348 : decode m_Program_haveByWay.2.1 348 = .ok (.goto 78, 3) := by decide +kernel
theorem d_Program_haveByWay_351 : decode m_Program_haveByWay.2.1 351 = .ok (.aload_n 0, 1) := by decide +kernel
theorem d_Program_haveByWay_352 : decode m_Program_haveByWay.2.1 352 = .ok (.aload_n 1, 1) := by decide +kernel
theorem d_Program_haveByWay_353 : decode m_Program_haveByWay.2.1 353 = .ok (.aload_n 2, 1) := by decide +kernel
theorem d_Program_haveByWay_354 : decode m_Program_haveByWay.2.1 354 = .ok (.iload 7, 2) := by decide +kernel
theorem d_Program_haveByWay_356 : decode m_Program_haveByWay.2.1 356 = .ok (.iload 4, 2) := by decide +kernel
theorem d_Program_haveByWay_358 : decode m_Program_haveByWay.2.1 358 = .ok (.iload 5, 2) := by decide +kernel
theorem d_Program_haveByWay_360 : decode m_Program_haveByWay.2.1 360 = .ok (.iload 6, 2) := by decide +kernel
theorem d_Program_haveByWay_362 : decode m_Program_haveByWay.2.1 362 = .ok (.iconst 1, 1) := by decide +kernel
theorem d_Program_haveByWay_363 : decode m_Program_haveByWay.2.1 363 = .ok (.iadd, 1) := by decide +kernel
theorem d_Program_haveByWay_364 : decode m_Program_haveByWay.2.1 364 = .ok (.invokevirtual 80, 3) := by decide +kernel
theorem d_Program_haveByWay_367 : decode m_Program_haveByWay.2.1 367 = .ok (.aload_n 0, 1) := by decide +kernel
theorem d_Program_haveByWay_368 : decode m_Program_haveByWay.2.1 368 = .ok (.aload_n 1, 1) := by decide +kernel
theorem d_Program_haveByWay_369 : decode m_Program_haveByWay.2.1 369 = .ok (.aload_n 2, 1) := by decide +kernel
theorem d_Program_haveByWay_370 : decode m_Program_haveByWay.2.1 370 = .ok (.iload 8, 2) := by decide +kernel
theorem d_Program_haveByWay_372 : decode m_Program_haveByWay.2.1 372 = .ok (.iload 4, 2) := by decide +kernel
theorem d_Program_haveByWay_374 : decode m_Program_haveByWay.2.1 374 = .ok (.iload 5, 2) := by decide +kernel
theorem d_Program_haveByWay_376 : decode m_Program_haveByWay.2.1 376 = .ok (.iload 6, 2) := by decide +kernel
theorem d_Program_haveByWay_378 : decode m_Program_haveByWay.2.1 378 = .ok (.iconst 1, 1) := by decide +kernel
theorem d_Program_haveByWay_379 : decode m_Program_haveByWay.2.1 379 = .ok (.iadd, 1) := by decide +kernel
theorem d_Program_haveByWay_380 : decode m_Program_haveByWay.2.1 380 = .ok (.invokevirtual 80, 3) := by decide +kernel
theorem d_Program_haveByWay_383 : decode m_Program_haveByWay.2.1 383 = .ok (.aload_n 0, 1) := by decide +kernel
theorem d_Program_haveByWay_384 : decode m_Program_haveByWay.2.1 384 = .ok (.iconst 0, 1) := by decide +kernel
theorem d_Program_haveByWay_385 : decode m_Program_haveByWay.2.1 385 = .ok (.iload 4, 2) := by decide +kernel
theorem d_Program_haveByWay_387 : decode m_Program_haveByWay.2.1 387 = .ok (.iload 7, 2) := by decide +kernel
theorem d_Program_haveByWay_389 : decode m_Program_haveByWay.2.1 389 = .ok (.aload_n 1, 1) := by decide +kernel
theorem d_Program_haveByWay_390 : decode m_Program_haveByWay.2.1 390 = .ok (.iload 7, 2) := by decide +kernel
theorem d_Program_haveByWay_392 : decode m_Program_haveByWay.2.1 392 = .ok (.invokestatic 51, 3) := by decide +kernel
theorem d_Program_haveByWay_395 : decode m_Program_haveByWay.2.1 395 = .ok (.aload_n 0, 1) := by decide +kernel
theorem d_Program_haveByWay_396 : decode m_Program_haveByWay.2.1 396 = .ok (.aload_n 1, 1) := by decide +kernel
theorem d_Program_haveByWay_397 : decode m_Program_haveByWay.2.1 397 = .ok (.iload 7, 2) := by decide +kernel
theorem d_Program_haveByWay_399 : decode m_Program_haveByWay.2.1 399 = .ok (.invokevirtual 55, 3) := by decide +kernel
theorem d_Program_haveByWay_402 : decode m_Program_haveByWay.2.1 402 = .ok (.invokevirtual 58, 3) := by decide +kernel
theorem d_Program_haveByWay_405 : decode m_Program_haveByWay.2.1 405 = .ok (.aload_n 0, 1) := by decide +kernel
