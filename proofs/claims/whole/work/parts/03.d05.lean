theorem d_Model_node_117 : decode m_Model_node.2.1 117 = .ok (.aload_n 0, 1) := by decide +kernel
theorem d_Model_node_118 : decode m_Model_node.2.1 118 = .ok (.iload_n 1, 1) := by decide +kernel
theorem d_Model_node_119 : decode m_Model_node.2.1 119 = .ok (.invokevirtual 178, 3) := by decide +kernel
theorem d_Model_node_122 : decode m_Model_node.2.1 122 = .ok (.ifCond .eq 7, 3) := by decide +kernel
theorem d_Model_node_125 : decode m_Model_node.2.1 125 = .ok (.iconst 1, 1) := by decide +kernel
theorem d_Model_node_126 : decode m_Model_node.2.1 126 = .ok (.goto 26, 3) := by decide +kernel
theorem d_Model_node_129 : decode m_Model_node.2.1 129 = .ok (.iconst 0, 1) := by decide +kernel
theorem d_Model_node_130 : decode m_Model_node.2.1 130 = .ok (.goto 22, 3) := by decide +kernel
theorem d_Model_node_133 : decode m_Model_node.2.1 133 = .ok (.iload_n 2, 1) := by decide +kernel
theorem d_Model_node_134 : decode m_Model_node.2.1 134 = .ok (.bipush 7, 2) := by decide +kernel
theorem d_Model_node_136 : decode m_Model_node.2.1 136 = .ok (.if_icmp .ne 11, 3) := by decide +kernel
theorem d_Model_node_139 : decode m_Model_node.2.1 139 = .ok (.aload_n 0, 1) := by decide +kernel
theorem d_Model_node_140 : decode m_Model_node.2.1 140 = .ok (.iload_n 1, 1) := by decide +kernel
theorem d_Model_node_141 : decode m_Model_node.2.1 141 = .ok (.invokevirtual 148, 3) := by decide +kernel
theorem d_Model_node_144 : decode m_Model_node.2.1 144 = .ok (.goto 8, 3) := by decide +kernel
theorem d_Model_node_147 : decode m_Model_node.2.1 147 = .ok (.aload_n 0, 1) := by decide +kernel
theorem d_Model_node_148 : decode m_Model_node.2.1 148 = .ok (.iload_n 1, 1) := by decide +kernel
theorem d_Model_node_149 : decode m_Model_node.2.1 149 = .ok (.invokevirtual 181, 3) := by decide +kernel
theorem d_Model_node_152 : decode m_Model_node.2.1 152 = .ok (.ireturn, 1) := by decide +kernel
theorem d_Model_isNode_0 : decode m_Model_isNode.2.1 0 = .ok (.iload_n 1, 1) := by decide +kernel
theorem d_Model_isNode_1 : decode m_Model_isNode.2.1 1 = .ok (.iconst 0, 1) := by decide +kernel
theorem d_Model_isNode_2 : decode m_Model_isNode.2.1 2 = .ok (.aload_n 0, 1) := by decide +kernel
theorem d_Model_isNode_3 : decode m_Model_isNode.2.1 3 = .ok (.getfield 16, 3) := by decide +kernel
theorem d_Model_isNode_6 : decode m_Model_isNode.2.1 6 = .ok (.iconst 0, 1) := by decide +kernel
theorem d_Model_isNode_7 : decode m_Model_isNode.2.1 7 = .ok (.iaload, 1) := by decide +kernel
theorem d_Model_isNode_8 : decode m_Model_isNode.2.1 8 = .ok (.iconst 1, 1) := by decide +kernel
theorem d_Model_isNode_9 : decode m_Model_isNode.2.1 9 = .ok (.isub, 1) := by decide +kernel
theorem d_Model_isNode_10 : decode m_Model_isNode.2.1 10 = .ok (.invokestatic 78, 3) := by decide +kernel
theorem d_Model_isNode_13 : decode m_Model_isNode.2.1 13 = .ok (.ireturn, 1) := by decide +kernel
theorem d_Model_needOf_0 : decode m_Model_needOf.2.1 0 = .ok (.iconst 0, 1) := by decide +kernel
theorem d_Model_needOf_1 : decode m_Model_needOf.2.1 1 = .ok (.istore_n 3, 1) := by decide +kernel
theorem d_Model_needOf_2 : decode m_Model_needOf.2.1 2 = .ok (.iload_n 3, 1) := by decide +kernel
theorem d_Model_needOf_3 : decode m_Model_needOf.2.1 3 = .ok (.iload_n 1, 1) := by decide +kernel
theorem d_Model_needOf_4 : decode m_Model_needOf.2.1 4 = .ok (.if_icmp .gt 144, 3) := by decide +kernel
theorem d_Model_needOf_7 : decode m_Model_needOf.2.1 7 = .ok (.aload_n 0, 1) := by decide +kernel
theorem d_Model_needOf_8 : decode m_Model_needOf.2.1 8 = .ok (.getfield 16, 3) := by decide +kernel
theorem d_Model_needOf_11 : decode m_Model_needOf.2.1 11 = .ok (.bipush 63, 2) := by decide +kernel
theorem d_Model_needOf_13 : decode m_Model_needOf.2.1 13 = .ok (.iload_n 3, 1) := by decide +kernel
theorem d_Model_needOf_14 : decode m_Model_needOf.2.1 14 = .ok (.iadd, 1) := by decide +kernel
theorem d_Model_needOf_15 : decode m_Model_needOf.2.1 15 = .ok (.iaload, 1) := by decide +kernel
theorem d_Model_needOf_16 : decode m_Model_needOf.2.1 16 = .ok (.istore 4, 2) := by decide +kernel
theorem d_Model_needOf_18 : decode m_Model_needOf.2.1 18 = .ok (.aload_n 0, 1) := by decide +kernel
theorem d_Model_needOf_19 : decode m_Model_needOf.2.1 19 = .ok (.getfield 16, 3) := by decide +kernel
theorem d_Model_needOf_22 : decode m_Model_needOf.2.1 22 = .ok (.bipush 94, 2) := by decide +kernel
theorem d_Model_needOf_24 : decode m_Model_needOf.2.1 24 = .ok (.iload_n 3, 1) := by decide +kernel
theorem d_Model_needOf_25 : decode m_Model_needOf.2.1 25 = .ok (.iadd, 1) := by decide +kernel
theorem d_Model_needOf_26 : decode m_Model_needOf.2.1 26 = .ok (.iaload, 1) := by decide +kernel
theorem d_Model_needOf_27 : decode m_Model_needOf.2.1 27 = .ok (.istore 5, 2) := by decide +kernel
theorem d_Model_needOf_29 : decode m_Model_needOf.2.1 29 = .ok (.aload_n 0, 1) := by decide +kernel
theorem d_Model_needOf_30 : decode m_Model_needOf.2.1 30 = .ok (.getfield 16, 3) := by decide +kernel
theorem d_Model_needOf_33 : decode m_Model_needOf.2.1 33 = .ok (.iconst 1, 1) := by decide +kernel
theorem d_Model_needOf_34 : decode m_Model_needOf.2.1 34 = .ok (.iload_n 3, 1) := by decide +kernel
theorem d_Model_needOf_35 : decode m_Model_needOf.2.1 35 = .ok (.iadd, 1) := by decide +kernel
theorem d_Model_needOf_36 : decode m_Model_needOf.2.1 36 = .ok (.iaload, 1) := by decide +kernel
theorem d_Model_needOf_37 : decode m_Model_needOf.2.1 37 = .ok (.bipush 126, 2) := by decide +kernel
theorem d_Model_needOf_39 : decode m_Model_needOf.2.1 39 = .ok (.if_icmp .ne 19, 3) := by decide +kernel
theorem d_Model_needOf_42 : decode m_Model_needOf.2.1 42 = .ok (.aload_n 0, 1) := by decide +kernel
theorem d_Model_needOf_43 : decode m_Model_needOf.2.1 43 = .ok (.getfield 68, 3) := by decide +kernel
theorem d_Model_needOf_46 : decode m_Model_needOf.2.1 46 = .ok (.iload_n 3, 1) := by decide +kernel
theorem d_Model_needOf_47 : decode m_Model_needOf.2.1 47 = .ok (.aload_n 0, 1) := by decide +kernel
theorem d_Model_needOf_48 : decode m_Model_needOf.2.1 48 = .ok (.iload 4, 2) := by decide +kernel
theorem d_Model_needOf_50 : decode m_Model_needOf.2.1 50 = .ok (.iconst 0, 1) := by decide +kernel
theorem d_Model_needOf_51 : decode m_Model_needOf.2.1 51 = .ok (.invokevirtual 154, 3) := by decide +kernel
theorem d_Model_needOf_54 : decode m_Model_needOf.2.1 54 = .ok (.iastore, 1) := by decide +kernel
theorem d_Model_needOf_55 : decode m_Model_needOf.2.1 55 = .ok (.goto 87, 3) := by decide +kernel
theorem d_Model_needOf_58 : decode m_Model_needOf.2.1 58 = .ok (.aload_n 0, 1) := by decide +kernel
theorem d_Model_needOf_59 : decode m_Model_needOf.2.1 59 = .ok (.iload_n 3, 1) := by decide +kernel
theorem d_Model_needOf_60 : decode m_Model_needOf.2.1 60 = .ok (.invokevirtual 151, 3) := by decide +kernel
theorem d_Model_needOf_63 : decode m_Model_needOf.2.1 63 = .ok (.ifCond .ne 79, 3) := by decide +kernel
theorem d_Model_needOf_66 : decode m_Model_needOf.2.1 66 = .ok (.aload_n 0, 1) := by decide +kernel
theorem d_Model_needOf_67 : decode m_Model_needOf.2.1 67 = .ok (.iload 4, 2) := by decide +kernel
theorem d_Model_needOf_69 : decode m_Model_needOf.2.1 69 = .ok (.iconst 0, 1) := by decide +kernel
theorem d_Model_needOf_70 : decode m_Model_needOf.2.1 70 = .ok (.invokevirtual 154, 3) := by decide +kernel
theorem d_Model_needOf_73 : decode m_Model_needOf.2.1 73 = .ok (.aload_n 0, 1) := by decide +kernel
theorem d_Model_needOf_74 : decode m_Model_needOf.2.1 74 = .ok (.iload 5, 2) := by decide +kernel
theorem d_Model_needOf_76 : decode m_Model_needOf.2.1 76 = .ok (.iconst 1, 1) := by decide +kernel
theorem d_Model_needOf_77 : decode m_Model_needOf.2.1 77 = .ok (.invokevirtual 154, 3) := by decide +kernel
theorem d_Model_needOf_80 : decode m_Model_needOf.2.1 80 = .ok (.invokestatic 158, 3) := by decide +kernel
theorem d_Model_needOf_83 : decode m_Model_needOf.2.1 83 = .ok (.istore 6, 2) := by decide +kernel
theorem d_Model_needOf_85 : decode m_Model_needOf.2.1 85 = .ok (.aload_n 0, 1) := by decide +kernel
theorem d_Model_needOf_86 : decode m_Model_needOf.2.1 86 = .ok (.iload 5, 2) := by decide +kernel
theorem d_Model_needOf_88 : decode m_Model_needOf.2.1 88 = .ok (.iconst 0, 1) := by decide +kernel
theorem d_Model_needOf_89 : decode m_Model_needOf.2.1 89 = .ok (.invokevirtual 154, 3) := by decide +kernel
theorem d_Model_needOf_92 : decode m_Model_needOf.2.1 92 = .ok (.aload_n 0, 1) := by decide +kernel
theorem d_Model_needOf_93 : decode m_Model_needOf.2.1 93 = .ok (.iload 4, 2) := by decide +kernel
theorem d_Model_needOf_95 : decode m_Model_needOf.2.1 95 = .ok (.iconst 1, 1) := by decide +kernel
theorem d_Model_needOf_96 : decode m_Model_needOf.2.1 96 = .ok (.invokevirtual 154, 3) := by decide +kernel
theorem d_Model_needOf_99 : decode m_Model_needOf.2.1 99 = .ok (.invokestatic 158, 3) := by decide +kernel
theorem d_Model_needOf_102 : decode m_Model_needOf.2.1 102 = .ok (.istore 7, 2) := by decide +kernel
theorem d_Model_needOf_104 : decode m_Model_needOf.2.1 104 = .ok (.aload_n 0, 1) := by decide +kernel
theorem d_Model_needOf_105 : decode m_Model_needOf.2.1 105 = .ok (.getfield 68, 3) := by decide +kernel
theorem d_Model_needOf_108 : decode m_Model_needOf.2.1 108 = .ok (.iload_n 3, 1) := by decide +kernel
theorem d_Model_needOf_109 : decode m_Model_needOf.2.1 109 = .ok (.iload_n 2, 1) := by decide +kernel
theorem d_Model_needOf_110 : decode m_Model_needOf.2.1 110 = .ok (.ifCond .eq 29, 3) := by decide +kernel
theorem d_Model_needOf_113 : decode m_Model_needOf.2.1 113 = .ok (.aload_n 0, 1) := by decide +kernel
theorem d_Model_needOf_114 : decode m_Model_needOf.2.1 114 = .ok (.getfield 16, 3) := by decide +kernel
theorem d_Model_needOf_117 : decode m_Model_needOf.2.1 117 = .ok (.iconst 1, 1) := by decide +kernel
theorem d_Model_needOf_118 : decode m_Model_needOf.2.1 118 = .ok (.iload_n 3, 1) := by decide +kernel
theorem d_Model_needOf_119 : decode m_Model_needOf.2.1 119 = .ok (.iadd, 1) := by decide +kernel
theorem d_Model_needOf_120 : decode m_Model_needOf.2.1 120 = .ok (.iaload, 1) := by decide +kernel
theorem d_Model_needOf_121 : decode m_Model_needOf.2.1 121 = .ok (.invokestatic 162, 3) := by decide +kernel
theorem d_Model_needOf_124 : decode m_Model_needOf.2.1 124 = .ok (.ifCond .eq 15, 3) := by decide +kernel
theorem d_Model_needOf_127 : decode m_Model_needOf.2.1 127 = .ok (.iload 7, 2) := by decide +kernel
theorem d_Model_needOf_129 : decode m_Model_needOf.2.1 129 = .ok (.iload 6, 2) := by decide +kernel
theorem d_Model_needOf_131 : decode m_Model_needOf.2.1 131 = .ok (.if_icmp .ge 8, 3) := by decide +kernel
theorem d_Model_needOf_134 : decode m_Model_needOf.2.1 134 = .ok (.iload 7, 2) := by decide +kernel
theorem d_Model_needOf_136 : decode m_Model_needOf.2.1 136 = .ok (.goto 5, 3) := by decide +kernel
theorem d_Model_needOf_139 : decode m_Model_needOf.2.1 139 = .ok (.iload 6, 2) := by decide +kernel
theorem d_Model_needOf_141 : decode m_Model_needOf.2.1 141 = .ok (.iastore, 1) := by decide +kernel
theorem d_Model_needOf_142 : decode m_Model_needOf.2.1 142 = .ok (.iinc 3 1, 3) := by decide +kernel
theorem d_Model_needOf_145 : decode m_Model_needOf.2.1 145 = .ok (.goto (-143), 3) := by decide +kernel
theorem d_Model_needOf_148 : decode m_Model_needOf.2.1 148 = .ok (.aload_n 0, 1) := by decide +kernel
theorem d_Model_needOf_149 : decode m_Model_needOf.2.1 149 = .ok (.iload_n 1, 1) := by decide +kernel
theorem d_Model_needOf_150 : decode m_Model_needOf.2.1 150 = .ok (.aload_n 0, 1) := by decide +kernel
theorem d_Model_needOf_151 : decode m_Model_needOf.2.1 151 = .ok (.iload_n 1, 1) := by decide +kernel
theorem d_Model_needOf_152 : decode m_Model_needOf.2.1 152 = .ok (.invokevirtual 165, 3) := by decide +kernel
theorem d_Model_needOf_155 : decode m_Model_needOf.2.1 155 = .ok (.invokevirtual 154, 3) := by decide +kernel
theorem d_Model_needOf_158 : decode m_Model_needOf.2.1 158 = .ok (.ireturn, 1) := by decide +kernel
theorem d_Model_needAs_0 : decode m_Model_needAs.2.1 0 = .ok (.aload_n 0, 1) := by decide +kernel
theorem d_Model_needAs_1 : decode m_Model_needAs.2.1 1 = .ok (.iload_n 1, 1) := by decide +kernel
theorem d_Model_needAs_2 : decode m_Model_needAs.2.1 2 = .ok (.invokevirtual 151, 3) := by decide +kernel
theorem d_Model_needAs_5 : decode m_Model_needAs.2.1 5 = .ok (.ifCond .ne 12, 3) := by decide +kernel
theorem d_Model_needAs_8 : decode m_Model_needAs.2.1 8 = .ok (.aload_n 0, 1) := by decide +kernel
theorem d_Model_needAs_9 : decode m_Model_needAs.2.1 9 = .ok (.getfield 68, 3) := by decide +kernel
theorem d_Model_needAs_12 : decode m_Model_needAs.2.1 12 = .ok (.iload_n 1, 1) := by decide +kernel
theorem d_Model_needAs_13 : decode m_Model_needAs.2.1 13 = .ok (.iaload, 1) := by decide +kernel
theorem d_Model_needAs_14 : decode m_Model_needAs.2.1 14 = .ok (.goto 12, 3) := by decide +kernel
theorem d_Model_needAs_17 : decode m_Model_needAs.2.1 17 = .ok (.iload_n 2, 1) := by decide +kernel
theorem d_Model_needAs_18 : decode m_Model_needAs.2.1 18 = .ok (.ifCond .eq 7, 3) := by decide +kernel
theorem d_Model_needAs_21 : decode m_Model_needAs.2.1 21 = .ok (.iconst 0, 1) := by decide +kernel
theorem d_Model_needAs_22 : decode m_Model_needAs.2.1 22 = .ok (.goto 4, 3) := by decide +kernel
theorem d_Model_needAs_25 : decode m_Model_needAs.2.1 25 = .ok (.iconst 1, 1) := by decide +kernel
theorem d_Model_needAs_26 : decode m_Model_needAs.2.1 26 = .ok (.ireturn, 1) := by decide +kernel
theorem d_Model_isLeaf_0 : decode m_Model_isLeaf.2.1 0 = .ok (.aload_n 0, 1) := by decide +kernel
theorem d_Model_isLeaf_1 : decode m_Model_isLeaf.2.1 1 = .ok (.getfield 16, 3) := by decide +kernel
theorem d_Model_isLeaf_4 : decode m_Model_isLeaf.2.1 4 = .ok (.iconst 1, 1) := by decide +kernel
theorem d_Model_isLeaf_5 : decode m_Model_isLeaf.2.1 5 = .ok (.iload_n 1, 1) := by decide +kernel
theorem d_Model_isLeaf_6 : decode m_Model_isLeaf.2.1 6 = .ok (.iadd, 1) := by decide +kernel
theorem d_Model_isLeaf_7 : decode m_Model_isLeaf.2.1 7 = .ok (.iaload, 1) := by decide +kernel
theorem d_Model_isLeaf_8 : decode m_Model_isLeaf.2.1 8 = .ok (.invokestatic 145, 3) := by decide +kernel
theorem d_Model_isLeaf_11 : decode m_Model_isLeaf.2.1 11 = .ok (.ifCond .ne 7, 3) := by decide +kernel
theorem d_Model_isLeaf_14 : decode m_Model_isLeaf.2.1 14 = .ok (.iconst 1, 1) := by decide +kernel
theorem d_Model_isLeaf_15 : decode m_Model_isLeaf.2.1 15 = .ok (.goto 4, 3) := by decide +kernel
theorem d_Model_isLeaf_18 : decode m_Model_isLeaf.2.1 18 = .ok (.iconst 0, 1) := by decide +kernel
theorem d_Model_isLeaf_19 : decode m_Model_isLeaf.2.1 19 = .ok (.ireturn, 1) := by decide +kernel
theorem d_Model_isOperator_0 : decode m_Model_isOperator.2.1 0 = .ok (.iload_n 0, 1) := by decide +kernel
theorem d_Model_isOperator_1 : decode m_Model_isOperator.2.1 1 = .ok (.bipush 43, 2) := by decide +kernel
theorem d_Model_isOperator_3 : decode m_Model_isOperator.2.1 3 = .ok (.if_icmp .eq 33, 3) := by decide +kernel
theorem d_Model_isOperator_6 : decode m_Model_isOperator.2.1 6 = .ok (.iload_n 0, 1) := by decide +kernel
theorem d_Model_isOperator_7 : decode m_Model_isOperator.2.1 7 = .ok (.bipush 45, 2) := by decide +kernel
theorem d_Model_isOperator_9 : decode m_Model_isOperator.2.1 9 = .ok (.if_icmp .eq 27, 3) := by decide +kernel
theorem d_Model_isOperator_12 : decode m_Model_isOperator.2.1 12 = .ok (.iload_n 0, 1) := by decide +kernel
theorem d_Model_isOperator_13 : decode m_Model_isOperator.2.1 13 = .ok (.bipush 35, 2) := by decide +kernel
theorem d_Model_isOperator_15 : decode m_Model_isOperator.2.1 15 = .ok (.if_icmp .eq 21, 3) := by decide +kernel
theorem d_Model_isOperator_18 : decode m_Model_isOperator.2.1 18 = .ok (.iload_n 0, 1) := by decide +kernel
theorem d_Model_isOperator_19 : decode m_Model_isOperator.2.1 19 = .ok (.bipush 42, 2) := by decide +kernel
theorem d_Model_isOperator_21 : decode m_Model_isOperator.2.1 21 = .ok (.if_icmp .eq 15, 3) := by decide +kernel
theorem d_Model_isOperator_24 : decode m_Model_isOperator.2.1 24 = .ok (.iload_n 0, 1) := by decide +kernel
theorem d_Model_isOperator_25 : decode m_Model_isOperator.2.1 25 = .ok (.bipush 47, 2) := by decide +kernel
theorem d_Model_isOperator_27 : decode m_Model_isOperator.2.1 27 = .ok (.if_icmp .eq 9, 3) := by decide +kernel
theorem d_Model_isOperator_30 : decode m_Model_isOperator.2.1 30 = .ok (.iload_n 0, 1) := by decide +kernel
theorem d_Model_isOperator_31 : decode m_Model_isOperator.2.1 31 = .ok (.bipush 126, 2) := by decide +kernel
theorem d_Model_isOperator_33 : decode m_Model_isOperator.2.1 33 = .ok (.if_icmp .ne 7, 3) := by decide +kernel
theorem d_Model_isOperator_36 : decode m_Model_isOperator.2.1 36 = .ok (.iconst 1, 1) := by decide +kernel
theorem d_Model_isOperator_37 : decode m_Model_isOperator.2.1 37 = .ok (.goto 4, 3) := by decide +kernel
theorem d_Model_isOperator_40 : decode m_Model_isOperator.2.1 40 = .ok (.iconst 0, 1) := by decide +kernel
theorem d_Model_isOperator_41 : decode m_Model_isOperator.2.1 41 = .ok (.ireturn, 1) := by decide +kernel
theorem d_Model_needs_0 : decode m_Model_needs.2.1 0 = .ok (.iload_n 0, 1) := by decide +kernel
theorem d_Model_needs_1 : decode m_Model_needs.2.1 1 = .ok (.iload_n 1, 1) := by decide +kernel
theorem d_Model_needs_2 : decode m_Model_needs.2.1 2 = .ok (.if_icmp .ne 9, 3) := by decide +kernel
theorem d_Model_needs_5 : decode m_Model_needs.2.1 5 = .ok (.iload_n 0, 1) := by decide +kernel
theorem d_Model_needs_6 : decode m_Model_needs.2.1 6 = .ok (.iconst 1, 1) := by decide +kernel
theorem d_Model_needs_7 : decode m_Model_needs.2.1 7 = .ok (.iadd, 1) := by decide +kernel
theorem d_Model_needs_8 : decode m_Model_needs.2.1 8 = .ok (.goto 13, 3) := by decide +kernel
theorem d_Model_needs_11 : decode m_Model_needs.2.1 11 = .ok (.iload_n 0, 1) := by decide +kernel
theorem d_Model_needs_12 : decode m_Model_needs.2.1 12 = .ok (.iload_n 1, 1) := by decide +kernel
theorem d_Model_needs_13 : decode m_Model_needs.2.1 13 = .ok (.if_icmp .le 7, 3) := by decide +kernel
theorem d_Model_needs_16 : decode m_Model_needs.2.1 16 = .ok (.iload_n 0, 1) := by decide +kernel
theorem d_Model_needs_17 : decode m_Model_needs.2.1 17 = .ok (.goto 4, 3) := by decide +kernel
theorem d_Model_needs_20 : decode m_Model_needs.2.1 20 = .ok (.iload_n 1, 1) := by decide +kernel
theorem d_Model_needs_21 : decode m_Model_needs.2.1 21 = .ok (.ireturn, 1) := by decide +kernel
theorem d_Model_commutes_0 : decode m_Model_commutes.2.1 0 = .ok (.iload_n 0, 1) := by decide +kernel
theorem d_Model_commutes_1 : decode m_Model_commutes.2.1 1 = .ok (.bipush 43, 2) := by decide +kernel
theorem d_Model_commutes_3 : decode m_Model_commutes.2.1 3 = .ok (.if_icmp .eq 15, 3) := by decide +kernel
theorem d_Model_commutes_6 : decode m_Model_commutes.2.1 6 = .ok (.iload_n 0, 1) := by decide +kernel
theorem d_Model_commutes_7 : decode m_Model_commutes.2.1 7 = .ok (.bipush 42, 2) := by decide +kernel
theorem d_Model_commutes_9 : decode m_Model_commutes.2.1 9 = .ok (.if_icmp .eq 9, 3) := by decide +kernel
theorem d_Model_commutes_12 : decode m_Model_commutes.2.1 12 = .ok (.iload_n 0, 1) := by decide +kernel
theorem d_Model_commutes_13 : decode m_Model_commutes.2.1 13 = .ok (.bipush 35, 2) := by decide +kernel
theorem d_Model_commutes_15 : decode m_Model_commutes.2.1 15 = .ok (.if_icmp .ne 7, 3) := by decide +kernel
theorem d_Model_commutes_18 : decode m_Model_commutes.2.1 18 = .ok (.iconst 1, 1) := by decide +kernel
theorem d_Model_commutes_19 : decode m_Model_commutes.2.1 19 = .ok (.goto 4, 3) := by decide +kernel
theorem d_Model_commutes_22 : decode m_Model_commutes.2.1 22 = .ok (.iconst 0, 1) := by decide +kernel
theorem d_Model_commutes_23 : decode m_Model_commutes.2.1 23 = .ok (.ireturn, 1) := by decide +kernel
theorem d_Model_isRight_0 : decode m_Model_isRight.2.1 0 = .ok (.iconst 0, 1) := by decide +kernel
theorem d_Model_isRight_1 : decode m_Model_isRight.2.1 1 = .ok (.istore_n 2, 1) := by decide +kernel
theorem d_Model_isRight_2 : decode m_Model_isRight.2.1 2 = .ok (.iconst 0, 1) := by decide +kernel
theorem d_Model_isRight_3 : decode m_Model_isRight.2.1 3 = .ok (.istore_n 3, 1) := by decide +kernel
theorem d_Model_isRight_4 : decode m_Model_isRight.2.1 4 = .ok (.iload_n 3, 1) := by decide +kernel
theorem d_Model_isRight_5 : decode m_Model_isRight.2.1 5 = .ok (.aload_n 0, 1) := by decide +kernel
theorem d_Model_isRight_6 : decode m_Model_isRight.2.1 6 = .ok (.getfield 16, 3) := by decide +kernel
theorem d_Model_isRight_9 : decode m_Model_isRight.2.1 9 = .ok (.iconst 0, 1) := by decide +kernel
theorem d_Model_isRight_10 : decode m_Model_isRight.2.1 10 = .ok (.iaload, 1) := by decide +kernel
theorem d_Model_isRight_11 : decode m_Model_isRight.2.1 11 = .ok (.if_icmp .ge 32, 3) := by decide +kernel
theorem d_Model_isRight_14 : decode m_Model_isRight.2.1 14 = .ok (.iload_n 2, 1) := by decide +kernel
theorem d_Model_isRight_15 : decode m_Model_isRight.2.1 15 = .ok (.ifCond .ne 16, 3) := by decide +kernel
theorem d_Model_isRight_18 : decode m_Model_isRight.2.1 18 = .ok (.aload_n 0, 1) := by decide +kernel
theorem d_Model_isRight_19 : decode m_Model_isRight.2.1 19 = .ok (.getfield 16, 3) := by decide +kernel
theorem d_Model_isRight_22 : decode m_Model_isRight.2.1 22 = .ok (.bipush 94, 2) := by decide +kernel
theorem d_Model_isRight_24 : decode m_Model_isRight.2.1 24 = .ok (.iload_n 3, 1) := by decide +kernel
theorem d_Model_isRight_25 : decode m_Model_isRight.2.1 25 = .ok (.iadd, 1) := by decide +kernel
theorem d_Model_isRight_26 : decode m_Model_isRight.2.1 26 = .ok (.iaload, 1) := by decide +kernel
theorem d_Model_isRight_27 : decode m_Model_isRight.2.1 27 = .ok (.iload_n 1, 1) := by decide +kernel
theorem d_Model_isRight_28 : decode m_Model_isRight.2.1 28 = .ok (.if_icmp .ne 7, 3) := by decide +kernel
theorem d_Model_isRight_31 : decode m_Model_isRight.2.1 31 = .ok (.iconst 1, 1) := by decide +kernel
theorem d_Model_isRight_32 : decode m_Model_isRight.2.1 32 = .ok (.goto 4, 3) := by decide +kernel
theorem d_Model_isRight_35 : decode m_Model_isRight.2.1 35 = .ok (.iconst 0, 1) := by decide +kernel
theorem d_Model_isRight_36 : decode m_Model_isRight.2.1 36 = .ok (.istore_n 2, 1) := by decide +kernel
theorem d_Model_isRight_37 : decode m_Model_isRight.2.1 37 = .ok (.iinc 3 1, 3) := by decide +kernel
theorem d_Model_isRight_40 : decode m_Model_isRight.2.1 40 = .ok (.goto (-36), 3) := by decide +kernel
theorem d_Model_isRight_43 : decode m_Model_isRight.2.1 43 = .ok (.iload_n 2, 1) := by decide +kernel
theorem d_Model_isRight_44 : decode m_Model_isRight.2.1 44 = .ok (.ireturn, 1) := by decide +kernel
theorem d_Model_mayTrap_0 : decode m_Model_mayTrap.2.1 0 = .ok (.iconst 0, 1) := by decide +kernel
theorem d_Model_mayTrap_1 : decode m_Model_mayTrap.2.1 1 = .ok (.istore_n 2, 1) := by decide +kernel
theorem d_Model_mayTrap_2 : decode m_Model_mayTrap.2.1 2 = .ok (.iload_n 1, 1) := by decide +kernel
theorem d_Model_mayTrap_3 : decode m_Model_mayTrap.2.1 3 = .ok (.aload_n 0, 1) := by decide +kernel
theorem d_Model_mayTrap_4 : decode m_Model_mayTrap.2.1 4 = .ok (.iload_n 1, 1) := by decide +kernel
theorem d_Model_mayTrap_5 : decode m_Model_mayTrap.2.1 5 = .ok (.invokevirtual 148, 3) := by decide +kernel
theorem d_Model_mayTrap_8 : decode m_Model_mayTrap.2.1 8 = .ok (.isub, 1) := by decide +kernel
theorem d_Model_mayTrap_9 : decode m_Model_mayTrap.2.1 9 = .ok (.iconst 1, 1) := by decide +kernel
theorem d_Model_mayTrap_10 : decode m_Model_mayTrap.2.1 10 = .ok (.iadd, 1) := by decide +kernel
theorem d_Model_mayTrap_11 : decode m_Model_mayTrap.2.1 11 = .ok (.istore_n 3, 1) := by decide +kernel
theorem d_Model_mayTrap_12 : decode m_Model_mayTrap.2.1 12 = .ok (.iload_n 3, 1) := by decide +kernel
theorem d_Model_mayTrap_13 : decode m_Model_mayTrap.2.1 13 = .ok (.iload_n 1, 1) := by decide +kernel
theorem d_Model_mayTrap_14 : decode m_Model_mayTrap.2.1 14 = .ok (.if_icmp .gt 45, 3) := by decide +kernel
theorem d_Model_mayTrap_17 : decode m_Model_mayTrap.2.1 17 = .ok (.iload_n 2, 1) := by decide +kernel
theorem d_Model_mayTrap_18 : decode m_Model_mayTrap.2.1 18 = .ok (.ifCond .ne 29, 3) := by decide +kernel
theorem d_Model_mayTrap_21 : decode m_Model_mayTrap.2.1 21 = .ok (.aload_n 0, 1) := by decide +kernel
theorem d_Model_mayTrap_22 : decode m_Model_mayTrap.2.1 22 = .ok (.getfield 16, 3) := by decide +kernel
theorem d_Model_mayTrap_25 : decode m_Model_mayTrap.2.1 25 = .ok (.iconst 1, 1) := by decide +kernel
theorem d_Model_mayTrap_26 : decode m_Model_mayTrap.2.1 26 = .ok (.iload_n 3, 1) := by decide +kernel
theorem d_Model_mayTrap_27 : decode m_Model_mayTrap.2.1 27 = .ok (.iadd, 1) := by decide +kernel
theorem d_Model_mayTrap_28 : decode m_Model_mayTrap.2.1 28 = .ok (.iaload, 1) := by decide +kernel
theorem d_Model_mayTrap_29 : decode m_Model_mayTrap.2.1 29 = .ok (.bipush 47, 2) := by decide +kernel
theorem d_Model_mayTrap_31 : decode m_Model_mayTrap.2.1 31 = .ok (.if_icmp .eq 16, 3) := by decide +kernel
theorem d_Model_mayTrap_34 : decode m_Model_mayTrap.2.1 34 = .ok (.aload_n 0, 1) := by decide +kernel
theorem d_Model_mayTrap_35 : decode m_Model_mayTrap.2.1 35 = .ok (.getfield 16, 3) := by decide +kernel
theorem d_Model_mayTrap_38 : decode m_Model_mayTrap.2.1 38 = .ok (.iconst 1, 1) := by decide +kernel
theorem d_Model_mayTrap_39 : decode m_Model_mayTrap.2.1 39 = .ok (.iload_n 3, 1) := by decide +kernel
theorem d_Model_mayTrap_40 : decode m_Model_mayTrap.2.1 40 = .ok (.iadd, 1) := by decide +kernel
theorem d_Model_mayTrap_41 : decode m_Model_mayTrap.2.1 41 = .ok (.iaload, 1) := by decide +kernel
theorem d_Model_mayTrap_42 : decode m_Model_mayTrap.2.1 42 = .ok (.bipush 35, 2) := by decide +kernel
theorem d_Model_mayTrap_44 : decode m_Model_mayTrap.2.1 44 = .ok (.if_icmp .ne 7, 3) := by decide +kernel
theorem d_Model_mayTrap_47 : decode m_Model_mayTrap.2.1 47 = .ok (.iconst 1, 1) := by decide +kernel
theorem d_Model_mayTrap_48 : decode m_Model_mayTrap.2.1 48 = .ok (.goto 4, 3) := by decide +kernel
theorem d_Model_mayTrap_51 : decode m_Model_mayTrap.2.1 51 = .ok (.iconst 0, 1) := by decide +kernel
theorem d_Model_mayTrap_52 : decode m_Model_mayTrap.2.1 52 = .ok (.istore_n 2, 1) := by decide +kernel
theorem d_Model_mayTrap_53 : decode m_Model_mayTrap.2.1 53 = .ok (.iinc 3 1, 3) := by decide +kernel
theorem d_Model_mayTrap_56 : decode m_Model_mayTrap.2.1 56 = .ok (.goto (-44), 3) := by decide +kernel
theorem d_Model_mayTrap_59 : decode m_Model_mayTrap.2.1 59 = .ok (.iload_n 2, 1) := by decide +kernel
theorem d_Model_mayTrap_60 : decode m_Model_mayTrap.2.1 60 = .ok (.ireturn, 1) := by decide +kernel
theorem d_Model_sizeOf_0 : decode m_Model_sizeOf.2.1 0 = .ok (.iload_n 1, 1) := by decide +kernel
theorem d_Model_sizeOf_1 : decode m_Model_sizeOf.2.1 1 = .ok (.istore_n 2, 1) := by decide +kernel
theorem d_Model_sizeOf_2 : decode m_Model_sizeOf.2.1 2 = .ok (.aload_n 0, 1) := by decide +kernel
theorem d_Model_sizeOf_3 : decode m_Model_sizeOf.2.1 3 = .ok (.getfield 16, 3) := by decide +kernel
theorem d_Model_sizeOf_6 : decode m_Model_sizeOf.2.1 6 = .ok (.bipush 63, 2) := by decide +kernel
theorem d_Model_sizeOf_8 : decode m_Model_sizeOf.2.1 8 = .ok (.iload_n 2, 1) := by decide +kernel
theorem d_Model_sizeOf_9 : decode m_Model_sizeOf.2.1 9 = .ok (.iadd, 1) := by decide +kernel
theorem d_Model_sizeOf_10 : decode m_Model_sizeOf.2.1 10 = .ok (.iaload, 1) := by decide +kernel
theorem d_Model_sizeOf_11 : decode m_Model_sizeOf.2.1 11 = .ok (.bipush (-9), 2) := by decide +kernel
theorem d_Model_sizeOf_13 : decode m_Model_sizeOf.2.1 13 = .ok (.if_icmp .eq 16, 3) := by decide +kernel
theorem d_Model_sizeOf_16 : decode m_Model_sizeOf.2.1 16 = .ok (.aload_n 0, 1) := by decide +kernel
theorem d_Model_sizeOf_17 : decode m_Model_sizeOf.2.1 17 = .ok (.getfield 16, 3) := by decide +kernel
theorem d_Model_sizeOf_20 : decode m_Model_sizeOf.2.1 20 = .ok (.bipush 63, 2) := by decide +kernel
theorem d_Model_sizeOf_22 : decode m_Model_sizeOf.2.1 22 = .ok (.iload_n 2, 1) := by decide +kernel
theorem d_Model_sizeOf_23 : decode m_Model_sizeOf.2.1 23 = .ok (.iadd, 1) := by decide +kernel
theorem d_Model_sizeOf_24 : decode m_Model_sizeOf.2.1 24 = .ok (.iaload, 1) := by decide +kernel
theorem d_Model_sizeOf_25 : decode m_Model_sizeOf.2.1 25 = .ok (.istore_n 2, 1) := by decide +kernel
theorem d_Model_sizeOf_26 : decode m_Model_sizeOf.2.1 26 = .ok (.goto (-24), 3) := by decide +kernel
theorem d_Model_sizeOf_29 : decode m_Model_sizeOf.2.1 29 = .ok (.iload_n 1, 1) := by decide +kernel
theorem d_Model_sizeOf_30 : decode m_Model_sizeOf.2.1 30 = .ok (.iload_n 2, 1) := by decide +kernel
theorem d_Model_sizeOf_31 : decode m_Model_sizeOf.2.1 31 = .ok (.isub, 1) := by decide +kernel
theorem d_Model_sizeOf_32 : decode m_Model_sizeOf.2.1 32 = .ok (.iconst 1, 1) := by decide +kernel
theorem d_Model_sizeOf_33 : decode m_Model_sizeOf.2.1 33 = .ok (.iadd, 1) := by decide +kernel
theorem d_Model_sizeOf_34 : decode m_Model_sizeOf.2.1 34 = .ok (.ireturn, 1) := by decide +kernel
theorem d_Model_lowestAlike_0 : decode m_Model_lowestAlike.2.1 0 = .ok (.iconst 0, 1) := by decide +kernel
theorem d_Model_lowestAlike_1 : decode m_Model_lowestAlike.2.1 1 = .ok (.istore_n 2, 1) := by decide +kernel
theorem d_Model_lowestAlike_2 : decode m_Model_lowestAlike.2.1 2 = .ok (.aload_n 0, 1) := by decide +kernel
theorem d_Model_lowestAlike_3 : decode m_Model_lowestAlike.2.1 3 = .ok (.iload_n 2, 1) := by decide +kernel
theorem d_Model_lowestAlike_4 : decode m_Model_lowestAlike.2.1 4 = .ok (.iload_n 1, 1) := by decide +kernel
theorem d_Model_lowestAlike_5 : decode m_Model_lowestAlike.2.1 5 = .ok (.invokevirtual 168, 3) := by decide +kernel
theorem d_Model_lowestAlike_8 : decode m_Model_lowestAlike.2.1 8 = .ok (.ifCond .ne 9, 3) := by decide +kernel
theorem d_Model_lowestAlike_11 : decode m_Model_lowestAlike.2.1 11 = .ok (.iinc 2 1, 3) := by decide +kernel
theorem d_Model_lowestAlike_14 : decode m_Model_lowestAlike.2.1 14 = .ok (.goto (-12), 3) := by decide +kernel
theorem d_Model_lowestAlike_17 : decode m_Model_lowestAlike.2.1 17 = .ok (.iload_n 2, 1) := by decide +kernel
theorem d_Model_lowestAlike_18 : decode m_Model_lowestAlike.2.1 18 = .ok (.ireturn, 1) := by decide +kernel
theorem d_Model_isAlike_0 : decode m_Model_isAlike.2.1 0 = .ok (.aload_n 0, 1) := by decide +kernel
theorem d_Model_isAlike_1 : decode m_Model_isAlike.2.1 1 = .ok (.iload_n 1, 1) := by decide +kernel
theorem d_Model_isAlike_2 : decode m_Model_isAlike.2.1 2 = .ok (.invokevirtual 148, 3) := by decide +kernel
theorem d_Model_isAlike_5 : decode m_Model_isAlike.2.1 5 = .ok (.istore_n 3, 1) := by decide +kernel
theorem d_Model_isAlike_6 : decode m_Model_isAlike.2.1 6 = .ok (.iload_n 3, 1) := by decide +kernel
theorem d_Model_isAlike_7 : decode m_Model_isAlike.2.1 7 = .ok (.aload_n 0, 1) := by decide +kernel
theorem d_Model_isAlike_8 : decode m_Model_isAlike.2.1 8 = .ok (.iload_n 2, 1) := by decide +kernel
theorem d_Model_isAlike_9 : decode m_Model_isAlike.2.1 9 = .ok (.invokevirtual 148, 3) := by decide +kernel
theorem d_Model_isAlike_12 : decode m_Model_isAlike.2.1 12 = .ok (.if_icmp .ne 7, 3) := by decide +kernel
theorem d_Model_isAlike_15 : decode m_Model_isAlike.2.1 15 = .ok (.iconst 1, 1) := by decide +kernel
theorem d_Model_isAlike_16 : decode m_Model_isAlike.2.1 16 = .ok (.goto 4, 3) := by decide +kernel
theorem d_Model_isAlike_19 : decode m_Model_isAlike.2.1 19 = .ok (.iconst 0, 1) := by decide +kernel
theorem d_Model_isAlike_20 : decode m_Model_isAlike.2.1 20 = .ok (.istore 4, 2) := by decide +kernel
theorem d_Model_isAlike_22 : decode m_Model_isAlike.2.1 22 = .ok (.iconst 0, 1) := by decide +kernel
theorem d_Model_isAlike_23 : decode m_Model_isAlike.2.1 23 = .ok (.istore 5, 2) := by decide +kernel
theorem d_Model_isAlike_25 : decode m_Model_isAlike.2.1 25 = .ok (.iload 5, 2) := by decide +kernel
theorem d_Model_isAlike_27 : decode m_Model_isAlike.2.1 27 = .ok (.iload_n 3, 1) := by decide +kernel
theorem d_Model_isAlike_28 : decode m_Model_isAlike.2.1 28 = .ok (.if_icmp .ge 162, 3) := by decide +kernel
theorem d_Model_isAlike_31 : decode m_Model_isAlike.2.1 31 = .ok (.iload 4, 2) := by decide +kernel
theorem d_Model_isAlike_33 : decode m_Model_isAlike.2.1 33 = .ok (.ifCond .eq 157, 3) := by decide +kernel
theorem d_Model_isAlike_36 : decode m_Model_isAlike.2.1 36 = .ok (.iload_n 1, 1) := by decide +kernel
theorem d_Model_isAlike_37 : decode m_Model_isAlike.2.1 37 = .ok (.iload 5, 2) := by decide +kernel
theorem d_Model_isAlike_39 : decode m_Model_isAlike.2.1 39 = .ok (.isub, 1) := by decide +kernel
theorem d_Model_isAlike_40 : decode m_Model_isAlike.2.1 40 = .ok (.istore 6, 2) := by decide +kernel
theorem d_Model_isAlike_42 : decode m_Model_isAlike.2.1 42 = .ok (.iload_n 2, 1) := by decide +kernel
theorem d_Model_isAlike_43 : decode m_Model_isAlike.2.1 43 = .ok (.iload 5, 2) := by decide +kernel
theorem d_Model_isAlike_45 : decode m_Model_isAlike.2.1 45 = .ok (.isub, 1) := by decide +kernel
theorem d_Model_isAlike_46 : decode m_Model_isAlike.2.1 46 = .ok (.istore 7, 2) := by decide +kernel
theorem d_Model_isAlike_48 : decode m_Model_isAlike.2.1 48 = .ok (.aload_n 0, 1) := by decide +kernel
theorem d_Model_isAlike_49 : decode m_Model_isAlike.2.1 49 = .ok (.getfield 16, 3) := by decide +kernel
theorem d_Model_isAlike_52 : decode m_Model_isAlike.2.1 52 = .ok (.iconst 1, 1) := by decide +kernel
theorem d_Model_isAlike_53 : decode m_Model_isAlike.2.1 53 = .ok (.iload 6, 2) := by decide +kernel
theorem d_Model_isAlike_55 : decode m_Model_isAlike.2.1 55 = .ok (.iadd, 1) := by decide +kernel
theorem d_Model_isAlike_56 : decode m_Model_isAlike.2.1 56 = .ok (.iaload, 1) := by decide +kernel
theorem d_Model_isAlike_57 : decode m_Model_isAlike.2.1 57 = .ok (.aload_n 0, 1) := by decide +kernel
theorem d_Model_isAlike_58 : decode m_Model_isAlike.2.1 58 = .ok (.getfield 16, 3) := by decide +kernel
theorem d_Model_isAlike_61 : decode m_Model_isAlike.2.1 61 = .ok (.iconst 1, 1) := by decide +kernel
theorem d_Model_isAlike_62 : decode m_Model_isAlike.2.1 62 = .ok (.iload 7, 2) := by decide +kernel
theorem d_Model_isAlike_64 : decode m_Model_isAlike.2.1 64 = .ok (.iadd, 1) := by decide +kernel
theorem d_Model_isAlike_65 : decode m_Model_isAlike.2.1 65 = .ok (.iaload, 1) := by decide +kernel
theorem d_Model_isAlike_66 : decode m_Model_isAlike.2.1 66 = .ok (.if_icmp .ne 115, 3) := by decide +kernel
theorem d_Model_isAlike_69 : decode m_Model_isAlike.2.1 69 = .ok (.aload_n 0, 1) := by decide +kernel
theorem d_Model_isAlike_70 : decode m_Model_isAlike.2.1 70 = .ok (.getfield 16, 3) := by decide +kernel
theorem d_Model_isAlike_73 : decode m_Model_isAlike.2.1 73 = .ok (.bipush 32, 2) := by decide +kernel
theorem d_Model_isAlike_75 : decode m_Model_isAlike.2.1 75 = .ok (.iload 6, 2) := by decide +kernel
theorem d_Model_isAlike_77 : decode m_Model_isAlike.2.1 77 = .ok (.iadd, 1) := by decide +kernel
theorem d_Model_isAlike_78 : decode m_Model_isAlike.2.1 78 = .ok (.iaload, 1) := by decide +kernel
theorem d_Model_isAlike_79 : decode m_Model_isAlike.2.1 79 = .ok (.aload_n 0, 1) := by decide +kernel
theorem d_Model_isAlike_80 : decode m_Model_isAlike.2.1 80 = .ok (.getfield 16, 3) := by decide +kernel
theorem d_Model_isAlike_83 : decode m_Model_isAlike.2.1 83 = .ok (.bipush 32, 2) := by decide +kernel
theorem d_Model_isAlike_85 : decode m_Model_isAlike.2.1 85 = .ok (.iload 7, 2) := by decide +kernel
theorem d_Model_isAlike_87 : decode m_Model_isAlike.2.1 87 = .ok (.iadd, 1) := by decide +kernel
theorem d_Model_isAlike_88 : decode m_Model_isAlike.2.1 88 = .ok (.iaload, 1) := by decide +kernel
theorem d_Model_isAlike_89 : decode m_Model_isAlike.2.1 89 = .ok (.if_icmp .ne 92, 3) := by decide +kernel
theorem d_Model_isAlike_92 : decode m_Model_isAlike.2.1 92 = .ok (.aload_n 0, 1) := by decide +kernel
theorem d_Model_isAlike_93 : decode m_Model_isAlike.2.1 93 = .ok (.getfield 16, 3) := by decide +kernel
theorem d_Model_isAlike_96 : decode m_Model_isAlike.2.1 96 = .ok (.bipush 63, 2) := by decide +kernel
theorem d_Model_isAlike_98 : decode m_Model_isAlike.2.1 98 = .ok (.iload 6, 2) := by decide +kernel
theorem d_Model_isAlike_100 : decode m_Model_isAlike.2.1 100 = .ok (.iadd, 1) := by decide +kernel
theorem d_Model_isAlike_101 : decode m_Model_isAlike.2.1 101 = .ok (.iaload, 1) := by decide +kernel
theorem d_Model_isAlike_102 : decode m_Model_isAlike.2.1 102 = .ok (.bipush (-9), 2) := by decide +kernel
theorem d_Model_isAlike_104 : decode m_Model_isAlike.2.1 104 = .ok (.if_icmp .ne 7, 3) := by decide +kernel
theorem d_Model_isAlike_107 : decode m_Model_isAlike.2.1 107 = .ok (.iconst 1, 1) := by decide +kernel
theorem d_Model_isAlike_108 : decode m_Model_isAlike.2.1 108 = .ok (.goto 4, 3) := by decide +kernel
theorem d_Model_isAlike_111 : decode m_Model_isAlike.2.1 111 = .ok (.iconst 0, 1) := by decide +kernel
theorem d_Model_isAlike_112 : decode m_Model_isAlike.2.1 112 = .ok (.aload_n 0, 1) := by decide +kernel
theorem d_Model_isAlike_113 : decode m_Model_isAlike.2.1 113 = .ok (.getfield 16, 3) := by decide +kernel
theorem d_Model_isAlike_116 : decode m_Model_isAlike.2.1 116 = .ok (.bipush 63, 2) := by decide +kernel
theorem d_Model_isAlike_118 : decode m_Model_isAlike.2.1 118 = .ok (.iload 7, 2) := by decide +kernel
theorem d_Model_isAlike_120 : decode m_Model_isAlike.2.1 120 = .ok (.iadd, 1) := by decide +kernel
theorem d_Model_isAlike_121 : decode m_Model_isAlike.2.1 121 = .ok (.iaload, 1) := by decide +kernel
theorem d_Model_isAlike_122 : decode m_Model_isAlike.2.1 122 = .ok (.bipush (-9), 2) := by decide +kernel
theorem d_Model_isAlike_124 : decode m_Model_isAlike.2.1 124 = .ok (.if_icmp .ne 7, 3) := by decide +kernel
theorem d_Model_isAlike_127 : decode m_Model_isAlike.2.1 127 = .ok (.iconst 1, 1) := by decide +kernel
theorem d_Model_isAlike_128 : decode m_Model_isAlike.2.1 128 = .ok (.goto 4, 3) := by decide +kernel
theorem d_Model_isAlike_131 : decode m_Model_isAlike.2.1 131 = .ok (.iconst 0, 1) := by decide +kernel
theorem d_Model_isAlike_132 : decode m_Model_isAlike.2.1 132 = .ok (.if_icmp .ne 49, 3) := by decide +kernel
theorem d_Model_isAlike_135 : decode m_Model_isAlike.2.1 135 = .ok (.aload_n 0, 1) := by decide +kernel
theorem d_Model_isAlike_136 : decode m_Model_isAlike.2.1 136 = .ok (.getfield 16, 3) := by decide +kernel
theorem d_Model_isAlike_139 : decode m_Model_isAlike.2.1 139 = .ok (.bipush 63, 2) := by decide +kernel
theorem d_Model_isAlike_141 : decode m_Model_isAlike.2.1 141 = .ok (.iload 6, 2) := by decide +kernel
theorem d_Model_isAlike_143 : decode m_Model_isAlike.2.1 143 = .ok (.iadd, 1) := by decide +kernel
theorem d_Model_isAlike_144 : decode m_Model_isAlike.2.1 144 = .ok (.iaload, 1) := by decide +kernel
theorem d_Model_isAlike_145 : decode m_Model_isAlike.2.1 145 = .ok (.bipush (-9), 2) := by decide +kernel
theorem d_Model_isAlike_147 : decode m_Model_isAlike.2.1 147 = .ok (.if_icmp .eq 30, 3) := by decide +kernel
theorem d_Model_isAlike_150 : decode m_Model_isAlike.2.1 150 = .ok (.iload_n 1, 1) := by decide +kernel
theorem d_Model_isAlike_151 : decode m_Model_isAlike.2.1 151 = .ok (.aload_n 0, 1) := by decide +kernel
theorem d_Model_isAlike_152 : decode m_Model_isAlike.2.1 152 = .ok (.getfield 16, 3) := by decide +kernel
theorem d_Model_isAlike_155 : decode m_Model_isAlike.2.1 155 = .ok (.bipush 63, 2) := by decide +kernel
theorem d_Model_isAlike_157 : decode m_Model_isAlike.2.1 157 = .ok (.iload 6, 2) := by decide +kernel
theorem d_Model_isAlike_159 : decode m_Model_isAlike.2.1 159 = .ok (.iadd, 1) := by decide +kernel
theorem d_Model_isAlike_160 : decode m_Model_isAlike.2.1 160 = .ok (.iaload, 1) := by decide +kernel
theorem d_Model_isAlike_161 : decode m_Model_isAlike.2.1 161 = .ok (.isub, 1) := by decide +kernel
theorem d_Model_isAlike_162 : decode m_Model_isAlike.2.1 162 = .ok (.iload_n 2, 1) := by decide +kernel
theorem d_Model_isAlike_163 : decode m_Model_isAlike.2.1 163 = .ok (.aload_n 0, 1) := by decide +kernel
theorem d_Model_isAlike_164 : decode m_Model_isAlike.2.1 164 = .ok (.getfield 16, 3) := by decide +kernel
theorem d_Model_isAlike_167 : decode m_Model_isAlike.2.1 167 = .ok (.bipush 63, 2) := by decide +kernel
theorem d_Model_isAlike_169 : decode m_Model_isAlike.2.1 169 = .ok (.iload 7, 2) := by decide +kernel
theorem d_Model_isAlike_171 : decode m_Model_isAlike.2.1 171 = .ok (.iadd, 1) := by decide +kernel
theorem d_Model_isAlike_172 : decode m_Model_isAlike.2.1 172 = .ok (.iaload, 1) := by decide +kernel
theorem d_Model_isAlike_173 : decode m_Model_isAlike.2.1 173 = .ok (.isub, 1) := by decide +kernel
theorem d_Model_isAlike_174 : decode m_Model_isAlike.2.1 174 = .ok (.if_icmp .ne 7, 3) := by decide +kernel
theorem d_Model_isAlike_177 : decode m_Model_isAlike.2.1 177 = .ok (.iconst 1, 1) := by decide +kernel
theorem d_Model_isAlike_178 : decode m_Model_isAlike.2.1 178 = .ok (.goto 4, 3) := by decide +kernel
theorem d_Model_isAlike_181 : decode m_Model_isAlike.2.1 181 = .ok (.iconst 0, 1) := by decide +kernel
theorem d_Model_isAlike_182 : decode m_Model_isAlike.2.1 182 = .ok (.istore 4, 2) := by decide +kernel
theorem d_Model_isAlike_184 : decode m_Model_isAlike.2.1 184 = .ok (.iinc 5 1, 3) := by decide +kernel
theorem d_Model_isAlike_187 : decode m_Model_isAlike.2.1 187 = .ok (.goto (-162), 3) := by decide +kernel
theorem d_Model_isAlike_190 : decode m_Model_isAlike.2.1 190 = .ok (.iload 4, 2) := by decide +kernel
theorem d_Model_isAlike_192 : decode m_Model_isAlike.2.1 192 = .ok (.ireturn, 1) := by decide +kernel
theorem d_Model_value_0 : decode m_Model_value.2.1 0 = .ok (.aload_n 0, 1) := by decide +kernel
theorem d_Model_value_1 : decode m_Model_value.2.1 1 = .ok (.iconst 0, 1) := by decide +kernel
theorem d_Model_value_2 : decode m_Model_value.2.1 2 = .ok (.putfield 75, 3) := by decide +kernel
theorem d_Model_value_5 : decode m_Model_value.2.1 5 = .ok (.aload_n 0, 1) := by decide +kernel
theorem d_Model_value_6 : decode m_Model_value.2.1 6 = .ok (.iload_n 1, 1) := by decide +kernel
theorem d_Model_value_7 : decode m_Model_value.2.1 7 = .ok (.invokevirtual 172, 3) := by decide +kernel
theorem d_Model_value_10 : decode m_Model_value.2.1 10 = .ok (.ifCond .ne 5, 3) := by decide +kernel
theorem d_Model_value_13 : decode m_Model_value.2.1 13 = .ok (.iconst (-1), 1) := by decide +kernel
theorem d_Model_value_14 : decode m_Model_value.2.1 14 = .ok (.ireturn, 1) := by decide +kernel
theorem d_Model_value_15 : decode m_Model_value.2.1 15 = .ok (.iload_n 1, 1) := by decide +kernel
theorem d_Model_value_16 : decode m_Model_value.2.1 16 = .ok (.aload_n 0, 1) := by decide +kernel
theorem d_Model_value_17 : decode m_Model_value.2.1 17 = .ok (.iload_n 1, 1) := by decide +kernel
theorem d_Model_value_18 : decode m_Model_value.2.1 18 = .ok (.invokevirtual 148, 3) := by decide +kernel
theorem d_Model_value_21 : decode m_Model_value.2.1 21 = .ok (.isub, 1) := by decide +kernel
theorem d_Model_value_22 : decode m_Model_value.2.1 22 = .ok (.iconst 1, 1) := by decide +kernel
theorem d_Model_value_23 : decode m_Model_value.2.1 23 = .ok (.iadd, 1) := by decide +kernel
theorem d_Model_value_24 : decode m_Model_value.2.1 24 = .ok (.istore_n 2, 1) := by decide +kernel
theorem d_Model_value_25 : decode m_Model_value.2.1 25 = .ok (.iload_n 2, 1) := by decide +kernel
theorem d_Model_value_26 : decode m_Model_value.2.1 26 = .ok (.iload_n 1, 1) := by decide +kernel
theorem d_Model_value_27 : decode m_Model_value.2.1 27 = .ok (.if_icmp .gt 115, 3) := by decide +kernel
theorem d_Model_value_30 : decode m_Model_value.2.1 30 = .ok (.aload_n 0, 1) := by decide +kernel
theorem d_Model_value_31 : decode m_Model_value.2.1 31 = .ok (.iload_n 2, 1) := by decide +kernel
theorem d_Model_value_32 : decode m_Model_value.2.1 32 = .ok (.invokevirtual 151, 3) := by decide +kernel
theorem d_Model_value_35 : decode m_Model_value.2.1 35 = .ok (.ifCond .eq 17, 3) := by decide +kernel
theorem d_Model_value_38 : decode m_Model_value.2.1 38 = .ok (.aload_n 0, 1) := by decide +kernel
theorem d_Model_value_39 : decode m_Model_value.2.1 39 = .ok (.getfield 50, 3) := by decide +kernel
theorem d_Model_value_42 : decode m_Model_value.2.1 42 = .ok (.iload_n 2, 1) := by decide +kernel
theorem d_Model_value_43 : decode m_Model_value.2.1 43 = .ok (.aload_n 0, 1) := by decide +kernel
theorem d_Model_value_44 : decode m_Model_value.2.1 44 = .ok (.iload_n 2, 1) := by decide +kernel
theorem d_Model_value_45 : decode m_Model_value.2.1 45 = .ok (.invokevirtual 184, 3) := by decide +kernel
theorem d_Model_value_48 : decode m_Model_value.2.1 48 = .ok (.iastore, 1) := by decide +kernel
theorem d_Model_value_49 : decode m_Model_value.2.1 49 = .ok (.goto 87, 3) := by decide +kernel
theorem d_Model_value_52 : decode m_Model_value.2.1 52 = .ok (.aload_n 0, 1) := by decide +kernel
theorem d_Model_value_53 : decode m_Model_value.2.1 53 = .ok (.getfield 16, 3) := by decide +kernel
theorem d_Model_value_56 : decode m_Model_value.2.1 56 = .ok (.iconst 1, 1) := by decide +kernel
theorem d_Model_value_57 : decode m_Model_value.2.1 57 = .ok (.iload_n 2, 1) := by decide +kernel
theorem d_Model_value_58 : decode m_Model_value.2.1 58 = .ok (.iadd, 1) := by decide +kernel
theorem d_Model_value_59 : decode m_Model_value.2.1 59 = .ok (.iaload, 1) := by decide +kernel
theorem d_Model_value_60 : decode m_Model_value.2.1 60 = .ok (.istore_n 3, 1) := by decide +kernel
theorem d_Model_value_61 : decode m_Model_value.2.1 61 = .ok (.aload_n 0, 1) := by decide +kernel
theorem d_Model_value_62 : decode m_Model_value.2.1 62 = .ok (.getfield 50, 3) := by decide +kernel
theorem d_Model_value_65 : decode m_Model_value.2.1 65 = .ok (.aload_n 0, 1) := by decide +kernel
theorem d_Model_value_66 : decode m_Model_value.2.1 66 = .ok (.getfield 16, 3) := by decide +kernel
theorem d_Model_value_69 : decode m_Model_value.2.1 69 = .ok (.bipush 63, 2) := by decide +kernel
theorem d_Model_value_71 : decode m_Model_value.2.1 71 = .ok (.iload_n 2, 1) := by decide +kernel
theorem d_Model_value_72 : decode m_Model_value.2.1 72 = .ok (.iadd, 1) := by decide +kernel
theorem d_Model_value_73 : decode m_Model_value.2.1 73 = .ok (.iaload, 1) := by decide +kernel
theorem d_Model_value_74 : decode m_Model_value.2.1 74 = .ok (.iaload, 1) := by decide +kernel
theorem d_Model_value_75 : decode m_Model_value.2.1 75 = .ok (.istore 4, 2) := by decide +kernel
theorem d_Model_value_77 : decode m_Model_value.2.1 77 = .ok (.iload_n 3, 1) := by decide +kernel
theorem d_Model_value_78 : decode m_Model_value.2.1 78 = .ok (.bipush 126, 2) := by decide +kernel
theorem d_Model_value_80 : decode m_Model_value.2.1 80 = .ok (.if_icmp .ne 7, 3) := by decide +kernel
theorem d_Model_value_83 : decode m_Model_value.2.1 83 = .ok (.iconst 0, 1) := by decide +kernel
theorem d_Model_value_84 : decode m_Model_value.2.1 84 = .ok (.goto 17, 3) := by decide +kernel
theorem d_Model_value_87 : decode m_Model_value.2.1 87 = .ok (.aload_n 0, 1) := by decide +kernel
theorem d_Model_value_88 : decode m_Model_value.2.1 88 = .ok (.getfield 50, 3) := by decide +kernel
theorem d_Model_value_91 : decode m_Model_value.2.1 91 = .ok (.aload_n 0, 1) := by decide +kernel
theorem d_Model_value_92 : decode m_Model_value.2.1 92 = .ok (.getfield 16, 3) := by decide +kernel
theorem d_Model_value_95 : decode m_Model_value.2.1 95 = .ok (.bipush 94, 2) := by decide +kernel
theorem d_Model_value_97 : decode m_Model_value.2.1 97 = .ok (.iload_n 2, 1) := by decide +kernel
theorem d_Model_value_98 : decode m_Model_value.2.1 98 = .ok (.iadd, 1) := by decide +kernel
theorem d_Model_value_99 : decode m_Model_value.2.1 99 = .ok (.iaload, 1) := by decide +kernel
theorem d_Model_value_100 : decode m_Model_value.2.1 100 = .ok (.iaload, 1) := by decide +kernel
theorem d_Model_value_101 : decode m_Model_value.2.1 101 = .ok (.istore 5, 2) := by decide +kernel
theorem d_Model_value_103 : decode m_Model_value.2.1 103 = .ok (.iload_n 3, 1) := by decide +kernel
theorem d_Model_value_104 : decode m_Model_value.2.1 104 = .ok (.iload 4, 2) := by decide +kernel
theorem d_Model_value_106 : decode m_Model_value.2.1 106 = .ok (.iload 5, 2) := by decide +kernel
theorem d_Model_value_108 : decode m_Model_value.2.1 108 = .ok (.invokestatic 187, 3) := by decide +kernel
theorem d_Model_value_111 : decode m_Model_value.2.1 111 = .ok (.ifCond .eq 11, 3) := by decide +kernel
theorem d_Model_value_114 : decode m_Model_value.2.1 114 = .ok (.aload_n 0, 1) := by decide +kernel
theorem d_Model_value_115 : decode m_Model_value.2.1 115 = .ok (.iload_n 2, 1) := by decide +kernel
theorem d_Model_value_116 : decode m_Model_value.2.1 116 = .ok (.putfield 71, 3) := by decide +kernel
theorem d_Model_value_119 : decode m_Model_value.2.1 119 = .ok (.bipush (-4), 2) := by decide +kernel
theorem d_Model_value_121 : decode m_Model_value.2.1 121 = .ok (.ireturn, 1) := by decide +kernel
theorem d_Model_value_122 : decode m_Model_value.2.1 122 = .ok (.aload_n 0, 1) := by decide +kernel
theorem d_Model_value_123 : decode m_Model_value.2.1 123 = .ok (.getfield 50, 3) := by decide +kernel
theorem d_Model_value_126 : decode m_Model_value.2.1 126 = .ok (.iload_n 2, 1) := by decide +kernel
theorem d_Model_value_127 : decode m_Model_value.2.1 127 = .ok (.iload_n 3, 1) := by decide +kernel
theorem d_Model_value_128 : decode m_Model_value.2.1 128 = .ok (.iload 4, 2) := by decide +kernel
theorem d_Model_value_130 : decode m_Model_value.2.1 130 = .ok (.iload 5, 2) := by decide +kernel
theorem d_Model_value_132 : decode m_Model_value.2.1 132 = .ok (.invokestatic 190, 3) := by decide +kernel
theorem d_Model_value_135 : decode m_Model_value.2.1 135 = .ok (.iastore, 1) := by decide +kernel
theorem d_Model_value_136 : decode m_Model_value.2.1 136 = .ok (.iinc 2 1, 3) := by decide +kernel
theorem d_Model_value_139 : decode m_Model_value.2.1 139 = .ok (.goto (-114), 3) := by decide +kernel
theorem d_Model_value_142 : decode m_Model_value.2.1 142 = .ok (.aload_n 0, 1) := by decide +kernel
theorem d_Model_value_143 : decode m_Model_value.2.1 143 = .ok (.aload_n 0, 1) := by decide +kernel
theorem d_Model_value_144 : decode m_Model_value.2.1 144 = .ok (.getfield 50, 3) := by decide +kernel
theorem d_Model_value_147 : decode m_Model_value.2.1 147 = .ok (.iload_n 1, 1) := by decide +kernel
theorem d_Model_value_148 : decode m_Model_value.2.1 148 = .ok (.iaload, 1) := by decide +kernel
theorem d_Model_value_149 : decode m_Model_value.2.1 149 = .ok (.putfield 194, 3) := by decide +kernel
theorem d_Model_value_152 : decode m_Model_value.2.1 152 = .ok (.iconst 1, 1) := by decide +kernel
theorem d_Model_value_153 : decode m_Model_value.2.1 153 = .ok (.ireturn, 1) := by decide +kernel
theorem d_Model_leafValue_0 : decode m_Model_leafValue.2.1 0 = .ok (.aload_n 0, 1) := by decide +kernel
theorem d_Model_leafValue_1 : decode m_Model_leafValue.2.1 1 = .ok (.getfield 16, 3) := by decide +kernel
theorem d_Model_leafValue_4 : decode m_Model_leafValue.2.1 4 = .ok (.iconst 1, 1) := by decide +kernel
theorem d_Model_leafValue_5 : decode m_Model_leafValue.2.1 5 = .ok (.iload_n 1, 1) := by decide +kernel
theorem d_Model_leafValue_6 : decode m_Model_leafValue.2.1 6 = .ok (.iadd, 1) := by decide +kernel
theorem d_Model_leafValue_7 : decode m_Model_leafValue.2.1 7 = .ok (.iaload, 1) := by decide +kernel
theorem d_Model_leafValue_8 : decode m_Model_leafValue.2.1 8 = .ok (.bipush 48, 2) := by decide +kernel
theorem d_Model_leafValue_10 : decode m_Model_leafValue.2.1 10 = .ok (.if_icmp .ne 15, 3) := by decide +kernel
theorem d_Model_leafValue_13 : decode m_Model_leafValue.2.1 13 = .ok (.aload_n 0, 1) := by decide +kernel
theorem d_Model_leafValue_14 : decode m_Model_leafValue.2.1 14 = .ok (.getfield 16, 3) := by decide +kernel
theorem d_Model_leafValue_17 : decode m_Model_leafValue.2.1 17 = .ok (.bipush 32, 2) := by decide +kernel
theorem d_Model_leafValue_19 : decode m_Model_leafValue.2.1 19 = .ok (.iload_n 1, 1) := by decide +kernel
theorem d_Model_leafValue_20 : decode m_Model_leafValue.2.1 20 = .ok (.iadd, 1) := by decide +kernel
theorem d_Model_leafValue_21 : decode m_Model_leafValue.2.1 21 = .ok (.iaload, 1) := by decide +kernel
theorem d_Model_leafValue_22 : decode m_Model_leafValue.2.1 22 = .ok (.goto 20, 3) := by decide +kernel
theorem d_Model_leafValue_25 : decode m_Model_leafValue.2.1 25 = .ok (.aload_n 0, 1) := by decide +kernel
theorem d_Model_leafValue_26 : decode m_Model_leafValue.2.1 26 = .ok (.getfield 16, 3) := by decide +kernel
theorem d_Model_leafValue_29 : decode m_Model_leafValue.2.1 29 = .ok (.bipush 125, 2) := by decide +kernel
theorem d_Model_leafValue_31 : decode m_Model_leafValue.2.1 31 = .ok (.aload_n 0, 1) := by decide +kernel
theorem d_Model_leafValue_32 : decode m_Model_leafValue.2.1 32 = .ok (.getfield 16, 3) := by decide +kernel
theorem d_Model_leafValue_35 : decode m_Model_leafValue.2.1 35 = .ok (.bipush 32, 2) := by decide +kernel
theorem d_Model_leafValue_37 : decode m_Model_leafValue.2.1 37 = .ok (.iload_n 1, 1) := by decide +kernel
theorem d_Model_leafValue_38 : decode m_Model_leafValue.2.1 38 = .ok (.iadd, 1) := by decide +kernel
theorem d_Model_leafValue_39 : decode m_Model_leafValue.2.1 39 = .ok (.iaload, 1) := by decide +kernel
theorem d_Model_leafValue_40 : decode m_Model_leafValue.2.1 40 = .ok (.iadd, 1) := by decide +kernel
theorem d_Model_leafValue_41 : decode m_Model_leafValue.2.1 41 = .ok (.iaload, 1) := by decide +kernel
theorem d_Model_leafValue_42 : decode m_Model_leafValue.2.1 42 = .ok (.ireturn, 1) := by decide +kernel
theorem d_Model_traps_0 : decode m_Model_traps.2.1 0 = .ok (.iload_n 1, 1) := by decide +kernel
theorem d_Model_traps_1 : decode m_Model_traps.2.1 1 = .ok (.i2l, 1) := by decide +kernel
theorem d_Model_traps_2 : decode m_Model_traps.2.1 2 = .ok (.iload_n 2, 1) := by decide +kernel
theorem d_Model_traps_3 : decode m_Model_traps.2.1 3 = .ok (.i2l, 1) := by decide +kernel
theorem d_Model_traps_4 : decode m_Model_traps.2.1 4 = .ok (.ladd, 1) := by decide +kernel
theorem d_Model_traps_5 : decode m_Model_traps.2.1 5 = .ok (.lstore_n 3, 1) := by decide +kernel
theorem d_Model_traps_6 : decode m_Model_traps.2.1 6 = .ok (.iload_n 0, 1) := by decide +kernel
theorem d_Model_traps_7 : decode m_Model_traps.2.1 7 = .ok (.bipush 47, 2) := by decide +kernel
theorem d_Model_traps_9 : decode m_Model_traps.2.1 9 = .ok (.if_icmp .ne 7, 3) := by decide +kernel
theorem d_Model_traps_12 : decode m_Model_traps.2.1 12 = .ok (.iload_n 2, 1) := by decide +kernel
theorem d_Model_traps_13 : decode m_Model_traps.2.1 13 = .ok (.ifCond .eq 17, 3) := by decide +kernel
theorem d_Model_traps_16 : decode m_Model_traps.2.1 16 = .ok (.iload_n 0, 1) := by decide +kernel
theorem d_Model_traps_17 : decode m_Model_traps.2.1 17 = .ok (.bipush 35, 2) := by decide +kernel
theorem d_Model_traps_19 : decode m_Model_traps.2.1 19 = .ok (.if_icmp .ne 15, 3) := by decide +kernel
theorem d_Model_traps_22 : decode m_Model_traps.2.1 22 = .ok (.lload_n 3, 1) := by decide +kernel
theorem d_Model_traps_23 : decode m_Model_traps.2.1 23 = .ok (.lload_n 3, 1) := by decide +kernel
theorem d_Model_traps_24 : decode m_Model_traps.2.1 24 = .ok (.l2i, 1) := by decide +kernel
theorem d_Model_traps_25 : decode m_Model_traps.2.1 25 = .ok (.i2l, 1) := by decide +kernel
theorem d_Model_traps_26 : decode m_Model_traps.2.1 26 = .ok (.lcmp, 1) := by decide +kernel
theorem d_Model_traps_27 : decode m_Model_traps.2.1 27 = .ok (.ifCond .eq 7, 3) := by decide +kernel
theorem d_Model_traps_30 : decode m_Model_traps.2.1 30 = .ok (.iconst 1, 1) := by decide +kernel
theorem d_Model_traps_31 : decode m_Model_traps.2.1 31 = .ok (.goto 4, 3) := by decide +kernel
theorem d_Model_traps_34 : decode m_Model_traps.2.1 34 = .ok (.iconst 0, 1) := by decide +kernel
theorem d_Model_traps_35 : decode m_Model_traps.2.1 35 = .ok (.ireturn, 1) := by decide +kernel
theorem d_Model_makesOf_0 : decode m_Model_makesOf.2.1 0 = .ok (.iload_n 0, 1) := by decide +kernel
theorem d_Model_makesOf_1 : decode m_Model_makesOf.2.1 1 = .ok (.bipush 43, 2) := by decide +kernel
theorem d_Model_makesOf_3 : decode m_Model_makesOf.2.1 3 = .ok (.if_icmp .eq 9, 3) := by decide +kernel
theorem d_Model_makesOf_6 : decode m_Model_makesOf.2.1 6 = .ok (.iload_n 0, 1) := by decide +kernel
theorem d_Model_makesOf_7 : decode m_Model_makesOf.2.1 7 = .ok (.bipush 35, 2) := by decide +kernel
theorem d_Model_makesOf_9 : decode m_Model_makesOf.2.1 9 = .ok (.if_icmp .ne 9, 3) := by decide +kernel
theorem d_Model_makesOf_12 : decode m_Model_makesOf.2.1 12 = .ok (.iload_n 1, 1) := by decide +kernel
theorem d_Model_makesOf_13 : decode m_Model_makesOf.2.1 13 = .ok (.iload_n 2, 1) := by decide +kernel
theorem d_Model_makesOf_14 : decode m_Model_makesOf.2.1 14 = .ok (.iadd, 1) := by decide +kernel
theorem d_Model_makesOf_15 : decode m_Model_makesOf.2.1 15 = .ok (.goto 41, 3) := by decide +kernel
theorem d_Model_makesOf_18 : decode m_Model_makesOf.2.1 18 = .ok (.iload_n 0, 1) := by decide +kernel
theorem d_Model_makesOf_19 : decode m_Model_makesOf.2.1 19 = .ok (.bipush 45, 2) := by decide +kernel
theorem d_Model_makesOf_21 : decode m_Model_makesOf.2.1 21 = .ok (.if_icmp .ne 9, 3) := by decide +kernel
theorem d_Model_makesOf_24 : decode m_Model_makesOf.2.1 24 = .ok (.iload_n 1, 1) := by decide +kernel
theorem d_Model_makesOf_25 : decode m_Model_makesOf.2.1 25 = .ok (.iload_n 2, 1) := by decide +kernel
theorem d_Model_makesOf_26 : decode m_Model_makesOf.2.1 26 = .ok (.isub, 1) := by decide +kernel
theorem d_Model_makesOf_27 : decode m_Model_makesOf.2.1 27 = .ok (.goto 29, 3) := by decide +kernel
theorem d_Model_makesOf_30 : decode m_Model_makesOf.2.1 30 = .ok (.iload_n 0, 1) := by decide +kernel
theorem d_Model_makesOf_31 : decode m_Model_makesOf.2.1 31 = .ok (.bipush 42, 2) := by decide +kernel
theorem d_Model_makesOf_33 : decode m_Model_makesOf.2.1 33 = .ok (.if_icmp .ne 9, 3) := by decide +kernel
theorem d_Model_makesOf_36 : decode m_Model_makesOf.2.1 36 = .ok (.iload_n 1, 1) := by decide +kernel
theorem d_Model_makesOf_37 : decode m_Model_makesOf.2.1 37 = .ok (.iload_n 2, 1) := by decide +kernel
theorem d_Model_makesOf_38 : decode m_Model_makesOf.2.1 38 = .ok (.imul, 1) := by decide +kernel
theorem d_Model_makesOf_39 : decode m_Model_makesOf.2.1 39 = .ok (.goto 17, 3) := by decide +kernel
theorem d_Model_makesOf_42 : decode m_Model_makesOf.2.1 42 = .ok (.iload_n 0, 1) := by decide +kernel
theorem d_Model_makesOf_43 : decode m_Model_makesOf.2.1 43 = .ok (.bipush 47, 2) := by decide +kernel
theorem d_Model_makesOf_45 : decode m_Model_makesOf.2.1 45 = .ok (.if_icmp .ne 9, 3) := by decide +kernel
theorem d_Model_makesOf_48 : decode m_Model_makesOf.2.1 48 = .ok (.iload_n 1, 1) := by decide +kernel
theorem d_Model_makesOf_49 : decode m_Model_makesOf.2.1 49 = .ok (.iload_n 2, 1) := by decide +kernel
theorem d_Model_makesOf_50 : decode m_Model_makesOf.2.1 50 = .ok (.idiv, 1) := by decide +kernel
theorem d_Model_makesOf_51 : decode m_Model_makesOf.2.1 51 = .ok (.goto 5, 3) := by decide +kernel
theorem d_Model_makesOf_54 : decode m_Model_makesOf.2.1 54 = .ok (.iload_n 1, 1) := by decide +kernel
theorem d_Model_makesOf_55 : decode m_Model_makesOf.2.1 55 = .ok (.ineg, 1) := by decide +kernel
theorem d_Model_makesOf_56 : decode m_Model_makesOf.2.1 56 = .ok (.ireturn, 1) := by decide +kernel
theorem d_Model_cost_0 : decode m_Model_cost.2.1 0 = .ok (.aload_n 0, 1) := by decide +kernel
theorem d_Model_cost_1 : decode m_Model_cost.2.1 1 = .ok (.iconst 0, 1) := by decide +kernel
theorem d_Model_cost_2 : decode m_Model_cost.2.1 2 = .ok (.putfield 75, 3) := by decide +kernel
theorem d_Model_cost_5 : decode m_Model_cost.2.1 5 = .ok (.aload_n 0, 1) := by decide +kernel
theorem d_Model_cost_6 : decode m_Model_cost.2.1 6 = .ok (.iload_n 1, 1) := by decide +kernel
theorem d_Model_cost_7 : decode m_Model_cost.2.1 7 = .ok (.invokevirtual 172, 3) := by decide +kernel
theorem d_Model_cost_10 : decode m_Model_cost.2.1 10 = .ok (.ifCond .eq 11, 3) := by decide +kernel
theorem d_Model_cost_13 : decode m_Model_cost.2.1 13 = .ok (.aload_n 0, 1) := by decide +kernel
theorem d_Model_cost_14 : decode m_Model_cost.2.1 14 = .ok (.iload_n 2, 1) := by decide +kernel
theorem d_Model_cost_15 : decode m_Model_cost.2.1 15 = .ok (.invokevirtual 213, 3) := by decide +kernel
theorem d_Model_cost_18 : decode m_Model_cost.2.1 18 = .ok (.ifCond .ne 5, 3) := by decide +kernel
theorem d_Model_cost_21 : decode m_Model_cost.2.1 21 = .ok (.iconst (-1), 1) := by decide +kernel
theorem d_Model_cost_22 : decode m_Model_cost.2.1 22 = .ok (.ireturn, 1) := by decide +kernel
theorem d_Model_cost_23 : decode m_Model_cost.2.1 23 = .ok (.aload_n 0, 1) := by decide +kernel
theorem d_Model_cost_24 : decode m_Model_cost.2.1 24 = .ok (.invokevirtual 210, 3) := by decide +kernel
theorem d_Model_cost_27 : decode m_Model_cost.2.1 27 = .ok (.aload_n 0, 1) := by decide +kernel
theorem d_Model_cost_28 : decode m_Model_cost.2.1 28 = .ok (.iload_n 1, 1) := by decide +kernel
theorem d_Model_cost_29 : decode m_Model_cost.2.1 29 = .ok (.iload_n 2, 1) := by decide +kernel
theorem d_Model_cost_30 : decode m_Model_cost.2.1 30 = .ok (.invokevirtual 197, 3) := by decide +kernel
theorem d_Model_cost_33 : decode m_Model_cost.2.1 33 = .ok (.ireturn, 1) := by decide +kernel
theorem d_Model_isRegisters_0 : decode m_Model_isRegisters.2.1 0 = .ok (.iload_n 1, 1) := by decide +kernel
theorem d_Model_isRegisters_1 : decode m_Model_isRegisters.2.1 1 = .ok (.iconst 1, 1) := by decide +kernel
theorem d_Model_isRegisters_2 : decode m_Model_isRegisters.2.1 2 = .ok (.aload_n 0, 1) := by decide +kernel
theorem d_Model_isRegisters_3 : decode m_Model_isRegisters.2.1 3 = .ok (.getfield 16, 3) := by decide +kernel
theorem d_Model_isRegisters_6 : decode m_Model_isRegisters.2.1 6 = .ok (.sipush 133, 3) := by decide +kernel
theorem d_Model_isRegisters_9 : decode m_Model_isRegisters.2.1 9 = .ok (.iaload, 1) := by decide +kernel
theorem d_Model_isRegisters_10 : decode m_Model_isRegisters.2.1 10 = .ok (.invokestatic 78, 3) := by decide +kernel
theorem d_Model_isRegisters_13 : decode m_Model_isRegisters.2.1 13 = .ok (.ireturn, 1) := by decide +kernel
theorem d_Model_reckonsAll_0 : decode m_Model_reckonsAll.2.1 0 = .ok (.iconst 0, 1) := by decide +kernel
theorem d_Model_reckonsAll_1 : decode m_Model_reckonsAll.2.1 1 = .ok (.istore_n 1, 1) := by decide +kernel
theorem d_Model_reckonsAll_2 : decode m_Model_reckonsAll.2.1 2 = .ok (.iload_n 1, 1) := by decide +kernel
theorem d_Model_reckonsAll_3 : decode m_Model_reckonsAll.2.1 3 = .ok (.aload_n 0, 1) := by decide +kernel
theorem d_Model_reckonsAll_4 : decode m_Model_reckonsAll.2.1 4 = .ok (.getfield 16, 3) := by decide +kernel
theorem d_Model_reckonsAll_7 : decode m_Model_reckonsAll.2.1 7 = .ok (.iconst 0, 1) := by decide +kernel
theorem d_Model_reckonsAll_8 : decode m_Model_reckonsAll.2.1 8 = .ok (.iaload, 1) := by decide +kernel
theorem d_Model_reckonsAll_9 : decode m_Model_reckonsAll.2.1 9 = .ok (.if_icmp .ge 20, 3) := by decide +kernel
theorem d_Model_reckonsAll_12 : decode m_Model_reckonsAll.2.1 12 = .ok (.aload_n 0, 1) := by decide +kernel
theorem d_Model_reckonsAll_13 : decode m_Model_reckonsAll.2.1 13 = .ok (.getfield 41, 3) := by decide +kernel
theorem d_Model_reckonsAll_16 : decode m_Model_reckonsAll.2.1 16 = .ok (.iload_n 1, 1) := by decide +kernel
theorem d_Model_reckonsAll_17 : decode m_Model_reckonsAll.2.1 17 = .ok (.aload_n 0, 1) := by decide +kernel
theorem d_Model_reckonsAll_18 : decode m_Model_reckonsAll.2.1 18 = .ok (.iload_n 1, 1) := by decide +kernel
theorem d_Model_reckonsAll_19 : decode m_Model_reckonsAll.2.1 19 = .ok (.invokevirtual 151, 3) := by decide +kernel
theorem d_Model_reckonsAll_22 : decode m_Model_reckonsAll.2.1 22 = .ok (.bastore, 1) := by decide +kernel
theorem d_Model_reckonsAll_23 : decode m_Model_reckonsAll.2.1 23 = .ok (.iinc 1 1, 3) := by decide +kernel
theorem d_Model_reckonsAll_26 : decode m_Model_reckonsAll.2.1 26 = .ok (.goto (-24), 3) := by decide +kernel
theorem d_Model_reckonsAll_29 : decode m_Model_reckonsAll.2.1 29 = .ok (.aload_n 0, 1) := by decide +kernel
theorem d_Model_reckonsAll_30 : decode m_Model_reckonsAll.2.1 30 = .ok (.invokevirtual 207, 3) := by decide +kernel
theorem d_Model_reckonsAll_33 : decode m_Model_reckonsAll.2.1 33 = .ok (.return_, 1) := by decide +kernel
theorem d_Model_reckons_0 : decode m_Model_reckons.2.1 0 = .ok (.iconst 0, 1) := by decide +kernel
theorem d_Model_reckons_1 : decode m_Model_reckons.2.1 1 = .ok (.istore_n 1, 1) := by decide +kernel
theorem d_Model_reckons_2 : decode m_Model_reckons.2.1 2 = .ok (.iload_n 1, 1) := by decide +kernel
theorem d_Model_reckons_3 : decode m_Model_reckons.2.1 3 = .ok (.aload_n 0, 1) := by decide +kernel
theorem d_Model_reckons_4 : decode m_Model_reckons.2.1 4 = .ok (.getfield 16, 3) := by decide +kernel
theorem d_Model_reckons_7 : decode m_Model_reckons.2.1 7 = .ok (.iconst 0, 1) := by decide +kernel
theorem d_Model_reckons_8 : decode m_Model_reckons.2.1 8 = .ok (.iaload, 1) := by decide +kernel
theorem d_Model_reckons_9 : decode m_Model_reckons.2.1 9 = .ok (.if_icmp .ge 175, 3) := by decide +kernel
theorem d_Model_reckons_12 : decode m_Model_reckons.2.1 12 = .ok (.iconst 1, 1) := by decide +kernel
theorem d_Model_reckons_13 : decode m_Model_reckons.2.1 13 = .ok (.istore_n 2, 1) := by decide +kernel
theorem d_Model_reckons_14 : decode m_Model_reckons.2.1 14 = .ok (.iload_n 2, 1) := by decide +kernel
theorem d_Model_reckons_15 : decode m_Model_reckons.2.1 15 = .ok (.aload_n 0, 1) := by decide +kernel
theorem d_Model_reckons_16 : decode m_Model_reckons.2.1 16 = .ok (.getfield 16, 3) := by decide +kernel
theorem d_Model_reckons_19 : decode m_Model_reckons.2.1 19 = .ok (.sipush 133, 3) := by decide +kernel
theorem d_Model_reckons_22 : decode m_Model_reckons.2.1 22 = .ok (.iaload, 1) := by decide +kernel
theorem d_Model_reckons_23 : decode m_Model_reckons.2.1 23 = .ok (.if_icmp .gt 155, 3) := by decide +kernel
theorem d_Model_reckons_26 : decode m_Model_reckons.2.1 26 = .ok (.ldc 200, 2) := by decide +kernel
theorem d_Model_reckons_28 : decode m_Model_reckons.2.1 28 = .ok (.istore_n 3, 1) := by decide +kernel
theorem d_Model_reckons_29 : decode m_Model_reckons.2.1 29 = .ok (.iconst 0, 1) := by decide +kernel
theorem d_Model_reckons_30 : decode m_Model_reckons.2.1 30 = .ok (.istore 4, 2) := by decide +kernel
theorem d_Model_reckons_32 : decode m_Model_reckons.2.1 32 = .ok (.aload_n 0, 1) := by decide +kernel
theorem d_Model_reckons_33 : decode m_Model_reckons.2.1 33 = .ok (.getfield 41, 3) := by decide +kernel
theorem d_Model_reckons_36 : decode m_Model_reckons.2.1 36 = .ok (.iload_n 1, 1) := by decide +kernel
theorem d_Model_reckons_37 : decode m_Model_reckons.2.1 37 = .ok (.baload, 1) := by decide +kernel
theorem d_Model_reckons_38 : decode m_Model_reckons.2.1 38 = .ok (.ifCond .eq 15, 3) := by decide +kernel
theorem d_Model_reckons_41 : decode m_Model_reckons.2.1 41 = .ok (.aload_n 0, 1) := by decide +kernel
theorem d_Model_reckons_42 : decode m_Model_reckons.2.1 42 = .ok (.getfield 16, 3) := by decide +kernel
theorem d_Model_reckons_45 : decode m_Model_reckons.2.1 45 = .ok (.sipush 134, 3) := by decide +kernel
theorem d_Model_reckons_48 : decode m_Model_reckons.2.1 48 = .ok (.iaload, 1) := by decide +kernel
theorem d_Model_reckons_49 : decode m_Model_reckons.2.1 49 = .ok (.istore_n 3, 1) := by decide +kernel
theorem d_Model_reckons_50 : decode m_Model_reckons.2.1 50 = .ok (.goto 97, 3) := by decide +kernel
theorem d_Model_reckons_53 : decode m_Model_reckons.2.1 53 = .ok (.aload_n 0, 1) := by decide +kernel
theorem d_Model_reckons_54 : decode m_Model_reckons.2.1 54 = .ok (.getfield 16, 3) := by decide +kernel
theorem d_Model_reckons_57 : decode m_Model_reckons.2.1 57 = .ok (.iconst 1, 1) := by decide +kernel
theorem d_Model_reckons_58 : decode m_Model_reckons.2.1 58 = .ok (.iload_n 1, 1) := by decide +kernel
theorem d_Model_reckons_59 : decode m_Model_reckons.2.1 59 = .ok (.iadd, 1) := by decide +kernel
theorem d_Model_reckons_60 : decode m_Model_reckons.2.1 60 = .ok (.iaload, 1) := by decide +kernel
theorem d_Model_reckons_61 : decode m_Model_reckons.2.1 61 = .ok (.bipush 126, 2) := by decide +kernel
theorem d_Model_reckons_63 : decode m_Model_reckons.2.1 63 = .ok (.if_icmp .ne 30, 3) := by decide +kernel
theorem d_Model_reckons_66 : decode m_Model_reckons.2.1 66 = .ok (.aload_n 0, 1) := by decide +kernel
theorem d_Model_reckons_67 : decode m_Model_reckons.2.1 67 = .ok (.aload_n 0, 1) := by decide +kernel
theorem d_Model_reckons_68 : decode m_Model_reckons.2.1 68 = .ok (.getfield 16, 3) := by decide +kernel
theorem d_Model_reckons_71 : decode m_Model_reckons.2.1 71 = .ok (.bipush 63, 2) := by decide +kernel
theorem d_Model_reckons_73 : decode m_Model_reckons.2.1 73 = .ok (.iload_n 1, 1) := by decide +kernel
theorem d_Model_reckons_74 : decode m_Model_reckons.2.1 74 = .ok (.iadd, 1) := by decide +kernel
theorem d_Model_reckons_75 : decode m_Model_reckons.2.1 75 = .ok (.iaload, 1) := by decide +kernel
theorem d_Model_reckons_76 : decode m_Model_reckons.2.1 76 = .ok (.iload_n 2, 1) := by decide +kernel
theorem d_Model_reckons_77 : decode m_Model_reckons.2.1 77 = .ok (.invokevirtual 197, 3) := by decide +kernel
theorem d_Model_reckons_80 : decode m_Model_reckons.2.1 80 = .ok (.aload_n 0, 1) := by decide +kernel
theorem d_Model_reckons_81 : decode m_Model_reckons.2.1 81 = .ok (.getfield 16, 3) := by decide +kernel
theorem d_Model_reckons_84 : decode m_Model_reckons.2.1 84 = .ok (.sipush 136, 3) := by decide +kernel
theorem d_Model_reckons_87 : decode m_Model_reckons.2.1 87 = .ok (.iaload, 1) := by decide +kernel
theorem d_Model_reckons_88 : decode m_Model_reckons.2.1 88 = .ok (.iadd, 1) := by decide +kernel
theorem d_Model_reckons_89 : decode m_Model_reckons.2.1 89 = .ok (.istore_n 3, 1) := by decide +kernel
theorem d_Model_reckons_90 : decode m_Model_reckons.2.1 90 = .ok (.goto 57, 3) := by decide +kernel
theorem d_Model_reckons_93 : decode m_Model_reckons.2.1 93 = .ok (.iconst 1, 1) := by decide +kernel
theorem d_Model_reckons_94 : decode m_Model_reckons.2.1 94 = .ok (.istore 5, 2) := by decide +kernel
theorem d_Model_reckons_96 : decode m_Model_reckons.2.1 96 = .ok (.iload 5, 2) := by decide +kernel
theorem d_Model_reckons_98 : decode m_Model_reckons.2.1 98 = .ok (.bipush 7, 2) := by decide +kernel
theorem d_Model_reckons_100 : decode m_Model_reckons.2.1 100 = .ok (.if_icmp .ge 47, 3) := by decide +kernel
theorem d_Model_reckons_103 : decode m_Model_reckons.2.1 103 = .ok (.aload_n 0, 1) := by decide +kernel
theorem d_Model_reckons_104 : decode m_Model_reckons.2.1 104 = .ok (.iload_n 1, 1) := by decide +kernel
theorem d_Model_reckons_105 : decode m_Model_reckons.2.1 105 = .ok (.iload_n 2, 1) := by decide +kernel
theorem d_Model_reckons_106 : decode m_Model_reckons.2.1 106 = .ok (.iload 5, 2) := by decide +kernel
theorem d_Model_reckons_108 : decode m_Model_reckons.2.1 108 = .ok (.invokevirtual 204, 3) := by decide +kernel
theorem d_Model_reckons_111 : decode m_Model_reckons.2.1 111 = .ok (.istore 6, 2) := by decide +kernel
theorem d_Model_reckons_113 : decode m_Model_reckons.2.1 113 = .ok (.iload 6, 2) := by decide +kernel
theorem d_Model_reckons_115 : decode m_Model_reckons.2.1 115 = .ok (.iload_n 3, 1) := by decide +kernel
theorem d_Model_reckons_116 : decode m_Model_reckons.2.1 116 = .ok (.if_icmp .ge 8, 3) := by decide +kernel
theorem d_Model_reckons_119 : decode m_Model_reckons.2.1 119 = .ok (.iload 5, 2) := by decide +kernel
theorem d_Model_reckons_121 : decode m_Model_reckons.2.1 121 = .ok (.goto 5, 3) := by decide +kernel
theorem d_Model_reckons_124 : decode m_Model_reckons.2.1 124 = .ok (.iload 4, 2) := by decide +kernel
theorem d_Model_reckons_126 : decode m_Model_reckons.2.1 126 = .ok (.istore 4, 2) := by decide +kernel
theorem d_Model_reckons_128 : decode m_Model_reckons.2.1 128 = .ok (.iload 6, 2) := by decide +kernel
theorem d_Model_reckons_130 : decode m_Model_reckons.2.1 130 = .ok (.iload_n 3, 1) := by decide +kernel
theorem d_Model_reckons_131 : decode m_Model_reckons.2.1 131 = .ok (.if_icmp .ge 8, 3) := by decide +kernel
theorem d_Model_reckons_134 : decode m_Model_reckons.2.1 134 = .ok (.iload 6, 2) := by decide +kernel
theorem d_Model_reckons_136 : decode m_Model_reckons.2.1 136 = .ok (.goto 4, 3) := by decide +kernel
theorem d_Model_reckons_139 : decode m_Model_reckons.2.1 139 = .ok (.iload_n 3, 1) := by decide +kernel
theorem d_Model_reckons_140 : decode m_Model_reckons.2.1 140 = .ok (.istore_n 3, 1) := by decide +kernel
theorem d_Model_reckons_141 : decode m_Model_reckons.2.1 141 = .ok (.iinc 5 1, 3) := by decide +kernel
theorem d_Model_reckons_144 : decode m_Model_reckons.2.1 144 = .ok (.goto (-48), 3) := by decide +kernel
theorem d_Model_reckons_147 : decode m_Model_reckons.2.1 147 = .ok (.aload_n 0, 1) := by decide +kernel
theorem d_Model_reckons_148 : decode m_Model_reckons.2.1 148 = .ok (.getfield 44, 3) := by decide +kernel
theorem d_Model_reckons_151 : decode m_Model_reckons.2.1 151 = .ok (.bipush 7, 2) := by decide +kernel
theorem d_Model_reckons_153 : decode m_Model_reckons.2.1 153 = .ok (.iload_n 1, 1) := by decide +kernel
theorem d_Model_reckons_154 : decode m_Model_reckons.2.1 154 = .ok (.imul, 1) := by decide +kernel
theorem d_Model_reckons_155 : decode m_Model_reckons.2.1 155 = .ok (.iload_n 2, 1) := by decide +kernel
theorem d_Model_reckons_156 : decode m_Model_reckons.2.1 156 = .ok (.iadd, 1) := by decide +kernel
theorem d_Model_reckons_157 : decode m_Model_reckons.2.1 157 = .ok (.iload_n 3, 1) := by decide +kernel
theorem d_Model_reckons_158 : decode m_Model_reckons.2.1 158 = .ok (.iastore, 1) := by decide +kernel
theorem d_Model_reckons_159 : decode m_Model_reckons.2.1 159 = .ok (.aload_n 0, 1) := by decide +kernel
theorem d_Model_reckons_160 : decode m_Model_reckons.2.1 160 = .ok (.getfield 47, 3) := by decide +kernel
theorem d_Model_reckons_163 : decode m_Model_reckons.2.1 163 = .ok (.bipush 7, 2) := by decide +kernel
theorem d_Model_reckons_165 : decode m_Model_reckons.2.1 165 = .ok (.iload_n 1, 1) := by decide +kernel
theorem d_Model_reckons_166 : decode m_Model_reckons.2.1 166 = .ok (.imul, 1) := by decide +kernel
theorem d_Model_reckons_167 : decode m_Model_reckons.2.1 167 = .ok (.iload_n 2, 1) := by decide +kernel
theorem d_Model_reckons_168 : decode m_Model_reckons.2.1 168 = .ok (.iadd, 1) := by decide +kernel
theorem d_Model_reckons_169 : decode m_Model_reckons.2.1 169 = .ok (.iload 4, 2) := by decide +kernel
theorem d_Model_reckons_171 : decode m_Model_reckons.2.1 171 = .ok (.iastore, 1) := by decide +kernel
theorem d_Model_reckons_172 : decode m_Model_reckons.2.1 172 = .ok (.iinc 2 1, 3) := by decide +kernel
theorem d_Model_reckons_175 : decode m_Model_reckons.2.1 175 = .ok (.goto (-161), 3) := by decide +kernel
theorem d_Model_reckons_178 : decode m_Model_reckons.2.1 178 = .ok (.iinc 1 1, 3) := by decide +kernel
theorem d_Model_reckons_181 : decode m_Model_reckons.2.1 181 = .ok (.goto (-179), 3) := by decide +kernel
theorem d_Model_reckons_184 : decode m_Model_reckons.2.1 184 = .ok (.return_, 1) := by decide +kernel
theorem d_Model_costAt_0 : decode m_Model_costAt.2.1 0 = .ok (.aload_n 0, 1) := by decide +kernel
theorem d_Model_costAt_1 : decode m_Model_costAt.2.1 1 = .ok (.getfield 44, 3) := by decide +kernel
theorem d_Model_costAt_4 : decode m_Model_costAt.2.1 4 = .ok (.bipush 7, 2) := by decide +kernel
theorem d_Model_costAt_6 : decode m_Model_costAt.2.1 6 = .ok (.iload_n 1, 1) := by decide +kernel
theorem d_Model_costAt_7 : decode m_Model_costAt.2.1 7 = .ok (.imul, 1) := by decide +kernel
theorem d_Model_costAt_8 : decode m_Model_costAt.2.1 8 = .ok (.iload_n 2, 1) := by decide +kernel
theorem d_Model_costAt_9 : decode m_Model_costAt.2.1 9 = .ok (.iadd, 1) := by decide +kernel
theorem d_Model_costAt_10 : decode m_Model_costAt.2.1 10 = .ok (.iaload, 1) := by decide +kernel
theorem d_Model_costAt_11 : decode m_Model_costAt.2.1 11 = .ok (.ireturn, 1) := by decide +kernel
theorem d_Model_costBy_0 : decode m_Model_costBy.2.1 0 = .ok (.aload_n 0, 1) := by decide +kernel
theorem d_Model_costBy_1 : decode m_Model_costBy.2.1 1 = .ok (.getfield 16, 3) := by decide +kernel
theorem d_Model_costBy_4 : decode m_Model_costBy.2.1 4 = .ok (.bipush 63, 2) := by decide +kernel
theorem d_Model_costBy_6 : decode m_Model_costBy.2.1 6 = .ok (.iload_n 1, 1) := by decide +kernel
theorem d_Model_costBy_7 : decode m_Model_costBy.2.1 7 = .ok (.iadd, 1) := by decide +kernel
theorem d_Model_costBy_8 : decode m_Model_costBy.2.1 8 = .ok (.iaload, 1) := by decide +kernel
theorem d_Model_costBy_9 : decode m_Model_costBy.2.1 9 = .ok (.istore 4, 2) := by decide +kernel
theorem d_Model_costBy_11 : decode m_Model_costBy.2.1 11 = .ok (.aload_n 0, 1) := by decide +kernel
theorem d_Model_costBy_12 : decode m_Model_costBy.2.1 12 = .ok (.getfield 16, 3) := by decide +kernel
theorem d_Model_costBy_15 : decode m_Model_costBy.2.1 15 = .ok (.bipush 94, 2) := by decide +kernel
theorem d_Model_costBy_17 : decode m_Model_costBy.2.1 17 = .ok (.iload_n 1, 1) := by decide +kernel
theorem d_Model_costBy_18 : decode m_Model_costBy.2.1 18 = .ok (.iadd, 1) := by decide +kernel
theorem d_Model_costBy_19 : decode m_Model_costBy.2.1 19 = .ok (.iaload, 1) := by decide +kernel
theorem d_Model_costBy_20 : decode m_Model_costBy.2.1 20 = .ok (.istore 5, 2) := by decide +kernel
theorem d_Model_costBy_22 : decode m_Model_costBy.2.1 22 = .ok (.aload_n 0, 1) := by decide +kernel
theorem d_Model_costBy_23 : decode m_Model_costBy.2.1 23 = .ok (.iload 4, 2) := by decide +kernel
theorem d_Model_costBy_25 : decode m_Model_costBy.2.1 25 = .ok (.invokevirtual 178, 3) := by decide +kernel
theorem d_Model_costBy_28 : decode m_Model_costBy.2.1 28 = .ok (.ifCond .eq 16, 3) := by decide +kernel
theorem d_Model_costBy_31 : decode m_Model_costBy.2.1 31 = .ok (.aload_n 0, 1) := by decide +kernel
theorem d_Model_costBy_32 : decode m_Model_costBy.2.1 32 = .ok (.iload 5, 2) := by decide +kernel
theorem d_Model_costBy_34 : decode m_Model_costBy.2.1 34 = .ok (.invokevirtual 178, 3) := by decide +kernel
theorem d_Model_costBy_37 : decode m_Model_costBy.2.1 37 = .ok (.ifCond .eq 7, 3) := by decide +kernel
theorem d_Model_costBy_40 : decode m_Model_costBy.2.1 40 = .ok (.iconst 1, 1) := by decide +kernel
theorem d_Model_costBy_41 : decode m_Model_costBy.2.1 41 = .ok (.goto 4, 3) := by decide +kernel
theorem d_Model_costBy_44 : decode m_Model_costBy.2.1 44 = .ok (.iconst 0, 1) := by decide +kernel
theorem d_Model_costBy_45 : decode m_Model_costBy.2.1 45 = .ok (.istore 6, 2) := by decide +kernel
theorem d_Model_costBy_47 : decode m_Model_costBy.2.1 47 = .ok (.iload_n 3, 1) := by decide +kernel
theorem d_Model_costBy_48 : decode m_Model_costBy.2.1 48 = .ok (.iconst 4, 1) := by decide +kernel
theorem d_Model_costBy_49 : decode m_Model_costBy.2.1 49 = .ok (.if_icmp .ne 17, 3) := by decide +kernel
theorem d_Model_costBy_52 : decode m_Model_costBy.2.1 52 = .ok (.aload_n 0, 1) := by decide +kernel
theorem d_Model_costBy_53 : decode m_Model_costBy.2.1 53 = .ok (.getfield 16, 3) := by decide +kernel
theorem d_Model_costBy_56 : decode m_Model_costBy.2.1 56 = .ok (.iconst 1, 1) := by decide +kernel
theorem d_Model_costBy_57 : decode m_Model_costBy.2.1 57 = .ok (.iload_n 1, 1) := by decide +kernel
theorem d_Model_costBy_58 : decode m_Model_costBy.2.1 58 = .ok (.iadd, 1) := by decide +kernel
theorem d_Model_costBy_59 : decode m_Model_costBy.2.1 59 = .ok (.iaload, 1) := by decide +kernel
theorem d_Model_costBy_60 : decode m_Model_costBy.2.1 60 = .ok (.invokestatic 162, 3) := by decide +kernel
theorem d_Model_costBy_63 : decode m_Model_costBy.2.1 63 = .ok (.goto 27, 3) := by decide +kernel
theorem d_Model_costBy_66 : decode m_Model_costBy.2.1 66 = .ok (.iload_n 3, 1) := by decide +kernel
theorem d_Model_costBy_67 : decode m_Model_costBy.2.1 67 = .ok (.iconst 2, 1) := by decide +kernel
theorem d_Model_costBy_68 : decode m_Model_costBy.2.1 68 = .ok (.if_icmp .eq 8, 3) := by decide +kernel
theorem d_Model_costBy_71 : decode m_Model_costBy.2.1 71 = .ok (.iload_n 3, 1) := by decide +kernel
theorem d_Model_costBy_72 : decode m_Model_costBy.2.1 72 = .ok (.iconst 3, 1) := by decide +kernel
theorem d_Model_costBy_73 : decode m_Model_costBy.2.1 73 = .ok (.if_icmp .ne 16, 3) := by decide +kernel
theorem d_Model_costBy_76 : decode m_Model_costBy.2.1 76 = .ok (.iload 6, 2) := by decide +kernel
theorem d_Model_costBy_78 : decode m_Model_costBy.2.1 78 = .ok (.ifCond .ne 7, 3) := by decide +kernel
theorem d_Model_costBy_81 : decode m_Model_costBy.2.1 81 = .ok (.iconst 1, 1) := by decide +kernel
theorem d_Model_costBy_82 : decode m_Model_costBy.2.1 82 = .ok (.goto 8, 3) := by decide +kernel
theorem d_Model_costBy_85 : decode m_Model_costBy.2.1 85 = .ok (.iconst 0, 1) := by decide +kernel
theorem d_Model_costBy_86 : decode m_Model_costBy.2.1 86 = .ok (.goto 4, 3) := by decide +kernel
theorem d_Model_costBy_89 : decode m_Model_costBy.2.1 89 = .ok (.iconst 1, 1) := by decide +kernel
theorem d_Model_costBy_90 : decode m_Model_costBy.2.1 90 = .ok (.istore 7, 2) := by decide +kernel
theorem d_Model_costBy_92 : decode m_Model_costBy.2.1 92 = .ok (.iload 7, 2) := by decide +kernel
theorem d_Model_costBy_94 : decode m_Model_costBy.2.1 94 = .ok (.ifCond .eq 23, 3) := by decide +kernel
theorem d_Model_costBy_97 : decode m_Model_costBy.2.1 97 = .ok (.iload_n 2, 1) := by decide +kernel
theorem d_Model_costBy_98 : decode m_Model_costBy.2.1 98 = .ok (.iconst 2, 1) := by decide +kernel
theorem d_Model_costBy_99 : decode m_Model_costBy.2.1 99 = .ok (.if_icmp .ge 21, 3) := by decide +kernel
theorem d_Model_costBy_102 : decode m_Model_costBy.2.1 102 = .ok (.iload_n 3, 1) := by decide +kernel
theorem d_Model_costBy_103 : decode m_Model_costBy.2.1 103 = .ok (.iconst 1, 1) := by decide +kernel
theorem d_Model_costBy_104 : decode m_Model_costBy.2.1 104 = .ok (.if_icmp .eq 13, 3) := by decide +kernel
theorem d_Model_costBy_107 : decode m_Model_costBy.2.1 107 = .ok (.iload_n 3, 1) := by decide +kernel
theorem d_Model_costBy_108 : decode m_Model_costBy.2.1 108 = .ok (.iconst 2, 1) := by decide +kernel
theorem d_Model_costBy_109 : decode m_Model_costBy.2.1 109 = .ok (.if_icmp .eq 8, 3) := by decide +kernel
theorem d_Model_costBy_112 : decode m_Model_costBy.2.1 112 = .ok (.iload_n 3, 1) := by decide +kernel
theorem d_Model_costBy_113 : decode m_Model_costBy.2.1 113 = .ok (.iconst 5, 1) := by decide +kernel
theorem d_Model_costBy_114 : decode m_Model_costBy.2.1 114 = .ok (.if_icmp .ne 6, 3) := by decide +kernel
theorem d_Model_costBy_117 : decode m_Model_costBy.2.1 117 = .ok (.ldc 200, 2) := by decide +kernel
theorem d_Model_costBy_119 : decode m_Model_costBy.2.1 119 = .ok (.ireturn, 1) := by decide +kernel
theorem d_Model_costBy_120 : decode m_Model_costBy.2.1 120 = .ok (.iload_n 3, 1) := by decide +kernel
theorem d_Model_costBy_121 : decode m_Model_costBy.2.1 121 = .ok (.iconst 3, 1) := by decide +kernel
theorem d_Model_costBy_122 : decode m_Model_costBy.2.1 122 = .ok (.if_icmp .ge 64, 3) := by decide +kernel
theorem d_Model_costBy_125 : decode m_Model_costBy.2.1 125 = .ok (.iload_n 3, 1) := by decide +kernel
theorem d_Model_costBy_126 : decode m_Model_costBy.2.1 126 = .ok (.iconst 1, 1) := by decide +kernel
theorem d_Model_costBy_127 : decode m_Model_costBy.2.1 127 = .ok (.if_icmp .ne 32, 3) := by decide +kernel
theorem d_Model_costBy_130 : decode m_Model_costBy.2.1 130 = .ok (.aload_n 0, 1) := by decide +kernel
theorem d_Model_costBy_131 : decode m_Model_costBy.2.1 131 = .ok (.iload 4, 2) := by decide +kernel
theorem d_Model_costBy_133 : decode m_Model_costBy.2.1 133 = .ok (.iload_n 2, 1) := by decide +kernel
theorem d_Model_costBy_134 : decode m_Model_costBy.2.1 134 = .ok (.invokevirtual 197, 3) := by decide +kernel
theorem d_Model_costBy_137 : decode m_Model_costBy.2.1 137 = .ok (.aload_n 0, 1) := by decide +kernel
theorem d_Model_costBy_138 : decode m_Model_costBy.2.1 138 = .ok (.iload 5, 2) := by decide +kernel
theorem d_Model_costBy_140 : decode m_Model_costBy.2.1 140 = .ok (.iload_n 2, 1) := by decide +kernel
theorem d_Model_costBy_141 : decode m_Model_costBy.2.1 141 = .ok (.iconst 1, 1) := by decide +kernel
theorem d_Model_costBy_142 : decode m_Model_costBy.2.1 142 = .ok (.isub, 1) := by decide +kernel
theorem d_Model_costBy_143 : decode m_Model_costBy.2.1 143 = .ok (.invokevirtual 197, 3) := by decide +kernel
theorem d_Model_costBy_146 : decode m_Model_costBy.2.1 146 = .ok (.iadd, 1) := by decide +kernel
theorem d_Model_costBy_147 : decode m_Model_costBy.2.1 147 = .ok (.aload_n 0, 1) := by decide +kernel
theorem d_Model_costBy_148 : decode m_Model_costBy.2.1 148 = .ok (.getfield 16, 3) := by decide +kernel
theorem d_Model_costBy_151 : decode m_Model_costBy.2.1 151 = .ok (.sipush 136, 3) := by decide +kernel
theorem d_Model_costBy_154 : decode m_Model_costBy.2.1 154 = .ok (.iaload, 1) := by decide +kernel
theorem d_Model_costBy_155 : decode m_Model_costBy.2.1 155 = .ok (.iadd, 1) := by decide +kernel
theorem d_Model_costBy_156 : decode m_Model_costBy.2.1 156 = .ok (.goto 29, 3) := by decide +kernel
theorem d_Model_costBy_159 : decode m_Model_costBy.2.1 159 = .ok (.aload_n 0, 1) := by decide +kernel
theorem d_Model_costBy_160 : decode m_Model_costBy.2.1 160 = .ok (.iload 5, 2) := by decide +kernel
theorem d_Model_costBy_162 : decode m_Model_costBy.2.1 162 = .ok (.iload_n 2, 1) := by decide +kernel
theorem d_Model_costBy_163 : decode m_Model_costBy.2.1 163 = .ok (.invokevirtual 197, 3) := by decide +kernel
theorem d_Model_costBy_166 : decode m_Model_costBy.2.1 166 = .ok (.aload_n 0, 1) := by decide +kernel
theorem d_Model_costBy_167 : decode m_Model_costBy.2.1 167 = .ok (.iload 4, 2) := by decide +kernel
theorem d_Model_costBy_169 : decode m_Model_costBy.2.1 169 = .ok (.iload_n 2, 1) := by decide +kernel
theorem d_Model_costBy_170 : decode m_Model_costBy.2.1 170 = .ok (.iconst 1, 1) := by decide +kernel
theorem d_Model_costBy_171 : decode m_Model_costBy.2.1 171 = .ok (.isub, 1) := by decide +kernel
theorem d_Model_costBy_172 : decode m_Model_costBy.2.1 172 = .ok (.invokevirtual 197, 3) := by decide +kernel
theorem d_Model_costBy_175 : decode m_Model_costBy.2.1 175 = .ok (.iadd, 1) := by decide +kernel
theorem d_Model_costBy_176 : decode m_Model_costBy.2.1 176 = .ok (.aload_n 0, 1) := by decide +kernel
theorem d_Model_costBy_177 : decode m_Model_costBy.2.1 177 = .ok (.getfield 16, 3) := by decide +kernel
theorem d_Model_costBy_180 : decode m_Model_costBy.2.1 180 = .ok (.sipush 136, 3) := by decide +kernel
theorem d_Model_costBy_183 : decode m_Model_costBy.2.1 183 = .ok (.iaload, 1) := by decide +kernel
theorem d_Model_costBy_184 : decode m_Model_costBy.2.1 184 = .ok (.iadd, 1) := by decide +kernel
theorem d_Model_costBy_185 : decode m_Model_costBy.2.1 185 = .ok (.ireturn, 1) := by decide +kernel
theorem d_Model_costBy_186 : decode m_Model_costBy.2.1 186 = .ok (.iload_n 3, 1) := by decide +kernel
theorem d_Model_costBy_187 : decode m_Model_costBy.2.1 187 = .ok (.iconst 5, 1) := by decide +kernel
theorem d_Model_costBy_188 : decode m_Model_costBy.2.1 188 = .ok (.if_icmp .ge 60, 3) := by decide +kernel
theorem d_Model_costBy_191 : decode m_Model_costBy.2.1 191 = .ok (.iload_n 3, 1) := by decide +kernel
theorem d_Model_costBy_192 : decode m_Model_costBy.2.1 192 = .ok (.iconst 3, 1) := by decide +kernel
theorem d_Model_costBy_193 : decode m_Model_costBy.2.1 193 = .ok (.if_icmp .ne 30, 3) := by decide +kernel
theorem d_Model_costBy_196 : decode m_Model_costBy.2.1 196 = .ok (.aload_n 0, 1) := by decide +kernel
theorem d_Model_costBy_197 : decode m_Model_costBy.2.1 197 = .ok (.iload 5, 2) := by decide +kernel
theorem d_Model_costBy_199 : decode m_Model_costBy.2.1 199 = .ok (.iload_n 2, 1) := by decide +kernel
theorem d_Model_costBy_200 : decode m_Model_costBy.2.1 200 = .ok (.invokevirtual 201, 3) := by decide +kernel
theorem d_Model_costBy_203 : decode m_Model_costBy.2.1 203 = .ok (.aload_n 0, 1) := by decide +kernel
theorem d_Model_costBy_204 : decode m_Model_costBy.2.1 204 = .ok (.iload 4, 2) := by decide +kernel
theorem d_Model_costBy_206 : decode m_Model_costBy.2.1 206 = .ok (.iload_n 2, 1) := by decide +kernel
theorem d_Model_costBy_207 : decode m_Model_costBy.2.1 207 = .ok (.invokevirtual 197, 3) := by decide +kernel
theorem d_Model_costBy_210 : decode m_Model_costBy.2.1 210 = .ok (.iadd, 1) := by decide +kernel
theorem d_Model_costBy_211 : decode m_Model_costBy.2.1 211 = .ok (.aload_n 0, 1) := by decide +kernel
theorem d_Model_costBy_212 : decode m_Model_costBy.2.1 212 = .ok (.getfield 16, 3) := by decide +kernel
theorem d_Model_costBy_215 : decode m_Model_costBy.2.1 215 = .ok (.sipush 137, 3) := by decide +kernel
theorem d_Model_costBy_218 : decode m_Model_costBy.2.1 218 = .ok (.iaload, 1) := by decide +kernel
theorem d_Model_costBy_219 : decode m_Model_costBy.2.1 219 = .ok (.iadd, 1) := by decide +kernel
theorem d_Model_costBy_220 : decode m_Model_costBy.2.1 220 = .ok (.goto 27, 3) := by decide +kernel
theorem d_Model_costBy_223 : decode m_Model_costBy.2.1 223 = .ok (.aload_n 0, 1) := by decide +kernel
theorem d_Model_costBy_224 : decode m_Model_costBy.2.1 224 = .ok (.iload 4, 2) := by decide +kernel
theorem d_Model_costBy_226 : decode m_Model_costBy.2.1 226 = .ok (.iload_n 2, 1) := by decide +kernel
theorem d_Model_costBy_227 : decode m_Model_costBy.2.1 227 = .ok (.invokevirtual 201, 3) := by decide +kernel
theorem d_Model_costBy_230 : decode m_Model_costBy.2.1 230 = .ok (.aload_n 0, 1) := by decide +kernel
theorem d_Model_costBy_231 : decode m_Model_costBy.2.1 231 = .ok (.iload 5, 2) := by decide +kernel
theorem d_Model_costBy_233 : decode m_Model_costBy.2.1 233 = .ok (.iload_n 2, 1) := by decide +kernel
theorem d_Model_costBy_234 : decode m_Model_costBy.2.1 234 = .ok (.invokevirtual 197, 3) := by decide +kernel
theorem d_Model_costBy_237 : decode m_Model_costBy.2.1 237 = .ok (.iadd, 1) := by decide +kernel
theorem d_Model_costBy_238 : decode m_Model_costBy.2.1 238 = .ok (.aload_n 0, 1) := by decide +kernel
theorem d_Model_costBy_239 : decode m_Model_costBy.2.1 239 = .ok (.getfield 16, 3) := by decide +kernel
theorem d_Model_costBy_242 : decode m_Model_costBy.2.1 242 = .ok (.sipush 137, 3) := by decide +kernel
theorem d_Model_costBy_245 : decode m_Model_costBy.2.1 245 = .ok (.iaload, 1) := by decide +kernel
theorem d_Model_costBy_246 : decode m_Model_costBy.2.1 246 = .ok (.iadd, 1) := by decide +kernel
theorem d_Model_costBy_247 : decode m_Model_costBy.2.1 247 = .ok (.ireturn, 1) := by decide +kernel
theorem d_Model_costBy_248 : decode m_Model_costBy.2.1 248 = .ok (.iload_n 3, 1) := by decide +kernel
theorem d_Model_costBy_249 : decode m_Model_costBy.2.1 249 = .ok (.iconst 5, 1) := by decide +kernel
theorem d_Model_costBy_250 : decode m_Model_costBy.2.1 250 = .ok (.if_icmp .ne 39, 3) := by decide +kernel
theorem d_Model_costBy_253 : decode m_Model_costBy.2.1 253 = .ok (.aload_n 0, 1) := by decide +kernel
theorem d_Model_costBy_254 : decode m_Model_costBy.2.1 254 = .ok (.iload 4, 2) := by decide +kernel
theorem d_Model_costBy_256 : decode m_Model_costBy.2.1 256 = .ok (.iload_n 2, 1) := by decide +kernel
theorem d_Model_costBy_257 : decode m_Model_costBy.2.1 257 = .ok (.invokevirtual 201, 3) := by decide +kernel
theorem d_Model_costBy_260 : decode m_Model_costBy.2.1 260 = .ok (.aload_n 0, 1) := by decide +kernel
theorem d_Model_costBy_261 : decode m_Model_costBy.2.1 261 = .ok (.iload 5, 2) := by decide +kernel
theorem d_Model_costBy_263 : decode m_Model_costBy.2.1 263 = .ok (.iload_n 2, 1) := by decide +kernel
theorem d_Model_costBy_264 : decode m_Model_costBy.2.1 264 = .ok (.invokevirtual 197, 3) := by decide +kernel
theorem d_Model_costBy_267 : decode m_Model_costBy.2.1 267 = .ok (.iadd, 1) := by decide +kernel
theorem d_Model_costBy_268 : decode m_Model_costBy.2.1 268 = .ok (.aload_n 0, 1) := by decide +kernel
theorem d_Model_costBy_269 : decode m_Model_costBy.2.1 269 = .ok (.getfield 16, 3) := by decide +kernel
theorem d_Model_costBy_272 : decode m_Model_costBy.2.1 272 = .ok (.sipush 134, 3) := by decide +kernel
theorem d_Model_costBy_275 : decode m_Model_costBy.2.1 275 = .ok (.iaload, 1) := by decide +kernel
theorem d_Model_costBy_276 : decode m_Model_costBy.2.1 276 = .ok (.iadd, 1) := by decide +kernel
theorem d_Model_costBy_277 : decode m_Model_costBy.2.1 277 = .ok (.aload_n 0, 1) := by decide +kernel
theorem d_Model_costBy_278 : decode m_Model_costBy.2.1 278 = .ok (.getfield 16, 3) := by decide +kernel
theorem d_Model_costBy_281 : decode m_Model_costBy.2.1 281 = .ok (.sipush 136, 3) := by decide +kernel
theorem d_Model_costBy_284 : decode m_Model_costBy.2.1 284 = .ok (.iaload, 1) := by decide +kernel
theorem d_Model_costBy_285 : decode m_Model_costBy.2.1 285 = .ok (.iadd, 1) := by decide +kernel
theorem d_Model_costBy_286 : decode m_Model_costBy.2.1 286 = .ok (.goto 36, 3) := by decide +kernel
theorem d_Model_costBy_289 : decode m_Model_costBy.2.1 289 = .ok (.aload_n 0, 1) := by decide +kernel
theorem d_Model_costBy_290 : decode m_Model_costBy.2.1 290 = .ok (.iload 4, 2) := by decide +kernel
theorem d_Model_costBy_292 : decode m_Model_costBy.2.1 292 = .ok (.iload_n 2, 1) := by decide +kernel
theorem d_Model_costBy_293 : decode m_Model_costBy.2.1 293 = .ok (.invokevirtual 201, 3) := by decide +kernel
theorem d_Model_costBy_296 : decode m_Model_costBy.2.1 296 = .ok (.aload_n 0, 1) := by decide +kernel
theorem d_Model_costBy_297 : decode m_Model_costBy.2.1 297 = .ok (.iload 5, 2) := by decide +kernel
theorem d_Model_costBy_299 : decode m_Model_costBy.2.1 299 = .ok (.iload_n 2, 1) := by decide +kernel
theorem d_Model_costBy_300 : decode m_Model_costBy.2.1 300 = .ok (.invokevirtual 201, 3) := by decide +kernel
theorem d_Model_costBy_303 : decode m_Model_costBy.2.1 303 = .ok (.iadd, 1) := by decide +kernel
theorem d_Model_costBy_304 : decode m_Model_costBy.2.1 304 = .ok (.aload_n 0, 1) := by decide +kernel
theorem d_Model_costBy_305 : decode m_Model_costBy.2.1 305 = .ok (.getfield 16, 3) := by decide +kernel
theorem d_Model_costBy_308 : decode m_Model_costBy.2.1 308 = .ok (.sipush 134, 3) := by decide +kernel
theorem d_Model_costBy_311 : decode m_Model_costBy.2.1 311 = .ok (.iaload, 1) := by decide +kernel
theorem d_Model_costBy_312 : decode m_Model_costBy.2.1 312 = .ok (.iadd, 1) := by decide +kernel
theorem d_Model_costBy_313 : decode m_Model_costBy.2.1 313 = .ok (.aload_n 0, 1) := by decide +kernel
theorem d_Model_costBy_314 : decode m_Model_costBy.2.1 314 = .ok (.getfield 16, 3) := by decide +kernel
theorem d_Model_costBy_317 : decode m_Model_costBy.2.1 317 = .ok (.sipush 137, 3) := by decide +kernel
theorem d_Model_costBy_320 : decode m_Model_costBy.2.1 320 = .ok (.iaload, 1) := by decide +kernel
theorem d_Model_costBy_321 : decode m_Model_costBy.2.1 321 = .ok (.iadd, 1) := by decide +kernel
theorem d_Model_costBy_322 : decode m_Model_costBy.2.1 322 = .ok (.ireturn, 1) := by decide +kernel
theorem d_Model_keptAt_0 : decode m_Model_keptAt.2.1 0 = .ok (.aload_n 0, 1) := by decide +kernel
theorem d_Model_keptAt_1 : decode m_Model_keptAt.2.1 1 = .ok (.getfield 41, 3) := by decide +kernel
theorem d_Model_keptAt_4 : decode m_Model_keptAt.2.1 4 = .ok (.iload_n 1, 1) := by decide +kernel
theorem d_Model_keptAt_5 : decode m_Model_keptAt.2.1 5 = .ok (.baload, 1) := by decide +kernel
theorem d_Model_keptAt_6 : decode m_Model_keptAt.2.1 6 = .ok (.ifCond .eq 7, 3) := by decide +kernel
theorem d_Model_keptAt_9 : decode m_Model_keptAt.2.1 9 = .ok (.iconst 0, 1) := by decide +kernel
theorem d_Model_keptAt_10 : decode m_Model_keptAt.2.1 10 = .ok (.goto 18, 3) := by decide +kernel
theorem d_Model_keptAt_13 : decode m_Model_keptAt.2.1 13 = .ok (.aload_n 0, 1) := by decide +kernel
theorem d_Model_keptAt_14 : decode m_Model_keptAt.2.1 14 = .ok (.iload_n 1, 1) := by decide +kernel
theorem d_Model_keptAt_15 : decode m_Model_keptAt.2.1 15 = .ok (.iload_n 2, 1) := by decide +kernel
theorem d_Model_keptAt_16 : decode m_Model_keptAt.2.1 16 = .ok (.invokevirtual 197, 3) := by decide +kernel
theorem d_Model_keptAt_19 : decode m_Model_keptAt.2.1 19 = .ok (.aload_n 0, 1) := by decide +kernel
theorem d_Model_keptAt_20 : decode m_Model_keptAt.2.1 20 = .ok (.getfield 16, 3) := by decide +kernel
theorem d_Model_keptAt_23 : decode m_Model_keptAt.2.1 23 = .ok (.sipush 135, 3) := by decide +kernel
theorem d_Model_keptAt_26 : decode m_Model_keptAt.2.1 26 = .ok (.iaload, 1) := by decide +kernel
theorem d_Model_keptAt_27 : decode m_Model_keptAt.2.1 27 = .ok (.iadd, 1) := by decide +kernel
theorem d_Model_keptAt_28 : decode m_Model_keptAt.2.1 28 = .ok (.ireturn, 1) := by decide +kernel
theorem d_Model_way_0 : decode m_Model_way.2.1 0 = .ok (.aload_n 0, 1) := by decide +kernel
theorem d_Model_way_1 : decode m_Model_way.2.1 1 = .ok (.iconst 0, 1) := by decide +kernel
theorem d_Model_way_2 : decode m_Model_way.2.1 2 = .ok (.putfield 75, 3) := by decide +kernel
theorem d_Model_way_5 : decode m_Model_way.2.1 5 = .ok (.aload_n 0, 1) := by decide +kernel
theorem d_Model_way_6 : decode m_Model_way.2.1 6 = .ok (.iload_n 1, 1) := by decide +kernel
theorem d_Model_way_7 : decode m_Model_way.2.1 7 = .ok (.invokevirtual 172, 3) := by decide +kernel
theorem d_Model_way_10 : decode m_Model_way.2.1 10 = .ok (.ifCond .eq 11, 3) := by decide +kernel
theorem d_Model_way_13 : decode m_Model_way.2.1 13 = .ok (.aload_n 0, 1) := by decide +kernel
theorem d_Model_way_14 : decode m_Model_way.2.1 14 = .ok (.iload_n 2, 1) := by decide +kernel
theorem d_Model_way_15 : decode m_Model_way.2.1 15 = .ok (.invokevirtual 213, 3) := by decide +kernel
theorem d_Model_way_18 : decode m_Model_way.2.1 18 = .ok (.ifCond .ne 5, 3) := by decide +kernel
theorem d_Model_way_21 : decode m_Model_way.2.1 21 = .ok (.iconst (-1), 1) := by decide +kernel
theorem d_Model_way_22 : decode m_Model_way.2.1 22 = .ok (.ireturn, 1) := by decide +kernel
theorem d_Model_way_23 : decode m_Model_way.2.1 23 = .ok (.aload_n 0, 1) := by decide +kernel
theorem d_Model_way_24 : decode m_Model_way.2.1 24 = .ok (.invokevirtual 210, 3) := by decide +kernel
theorem d_Model_way_27 : decode m_Model_way.2.1 27 = .ok (.aload_n 0, 1) := by decide +kernel
theorem d_Model_way_28 : decode m_Model_way.2.1 28 = .ok (.getfield 47, 3) := by decide +kernel
theorem d_Model_way_31 : decode m_Model_way.2.1 31 = .ok (.bipush 7, 2) := by decide +kernel
theorem d_Model_way_33 : decode m_Model_way.2.1 33 = .ok (.iload_n 1, 1) := by decide +kernel
theorem d_Model_way_34 : decode m_Model_way.2.1 34 = .ok (.imul, 1) := by decide +kernel
theorem d_Model_way_35 : decode m_Model_way.2.1 35 = .ok (.iload_n 2, 1) := by decide +kernel
theorem d_Model_way_36 : decode m_Model_way.2.1 36 = .ok (.iadd, 1) := by decide +kernel
theorem d_Model_way_37 : decode m_Model_way.2.1 37 = .ok (.iaload, 1) := by decide +kernel
theorem d_Model_way_38 : decode m_Model_way.2.1 38 = .ok (.ireturn, 1) := by decide +kernel
theorem d_Model_program_0 : decode m_Model_program.2.1 0 = .ok (.aload_n 0, 1) := by decide +kernel
theorem d_Model_program_1 : decode m_Model_program.2.1 1 = .ok (.iconst 0, 1) := by decide +kernel
theorem d_Model_program_2 : decode m_Model_program.2.1 2 = .ok (.putfield 75, 3) := by decide +kernel
theorem d_Model_program_5 : decode m_Model_program.2.1 5 = .ok (.aload_n 0, 1) := by decide +kernel
theorem d_Model_program_6 : decode m_Model_program.2.1 6 = .ok (.getfield 16, 3) := by decide +kernel
theorem d_Model_program_9 : decode m_Model_program.2.1 9 = .ok (.iconst 0, 1) := by decide +kernel
theorem d_Model_program_10 : decode m_Model_program.2.1 10 = .ok (.iaload, 1) := by decide +kernel
theorem d_Model_program_11 : decode m_Model_program.2.1 11 = .ok (.ifCond .ne 6, 3) := by decide +kernel
theorem d_Model_program_14 : decode m_Model_program.2.1 14 = .ok (.bipush (-2), 2) := by decide +kernel
theorem d_Model_program_16 : decode m_Model_program.2.1 16 = .ok (.ireturn, 1) := by decide +kernel
theorem d_Model_program_17 : decode m_Model_program.2.1 17 = .ok (.aload_n 0, 1) := by decide +kernel
theorem d_Model_program_18 : decode m_Model_program.2.1 18 = .ok (.iload_n 1, 1) := by decide +kernel
theorem d_Model_program_19 : decode m_Model_program.2.1 19 = .ok (.invokevirtual 213, 3) := by decide +kernel
theorem d_Model_program_22 : decode m_Model_program.2.1 22 = .ok (.ifCond .eq 12, 3) := by decide +kernel
theorem d_Model_program_25 : decode m_Model_program.2.1 25 = .ok (.iload_n 2, 1) := by decide +kernel
theorem d_Model_program_26 : decode m_Model_program.2.1 26 = .ok (.iconst 0, 1) := by decide +kernel
theorem d_Model_program_27 : decode m_Model_program.2.1 27 = .ok (.iconst 2, 1) := by decide +kernel
theorem d_Model_program_28 : decode m_Model_program.2.1 28 = .ok (.invokestatic 78, 3) := by decide +kernel
theorem d_Model_program_31 : decode m_Model_program.2.1 31 = .ok (.ifCond .ne 5, 3) := by decide +kernel
theorem d_Model_program_34 : decode m_Model_program.2.1 34 = .ok (.iconst (-1), 1) := by decide +kernel
theorem d_Model_program_35 : decode m_Model_program.2.1 35 = .ok (.ireturn, 1) := by decide +kernel
theorem d_Model_program_36 : decode m_Model_program.2.1 36 = .ok (.aload_n 0, 1) := by decide +kernel
theorem d_Model_program_37 : decode m_Model_program.2.1 37 = .ok (.iload_n 1, 1) := by decide +kernel
theorem d_Model_program_38 : decode m_Model_program.2.1 38 = .ok (.invokevirtual 241, 3) := by decide +kernel
theorem d_Model_program_41 : decode m_Model_program.2.1 41 = .ok (.iload_n 2, 1) := by decide +kernel
theorem d_Model_program_42 : decode m_Model_program.2.1 42 = .ok (.ifCond .ne 10, 3) := by decide +kernel
theorem d_Model_program_45 : decode m_Model_program.2.1 45 = .ok (.aload_n 0, 1) := by decide +kernel
theorem d_Model_program_46 : decode m_Model_program.2.1 46 = .ok (.getfield 222, 3) := by decide +kernel
theorem d_Model_program_49 : decode m_Model_program.2.1 49 = .ok (.goto 28, 3) := by decide +kernel
theorem d_Model_program_52 : decode m_Model_program.2.1 52 = .ok (.iload_n 2, 1) := by decide +kernel
theorem d_Model_program_53 : decode m_Model_program.2.1 53 = .ok (.iconst 1, 1) := by decide +kernel
theorem d_Model_program_54 : decode m_Model_program.2.1 54 = .ok (.if_icmp .ne 10, 3) := by decide +kernel
theorem d_Model_program_57 : decode m_Model_program.2.1 57 = .ok (.aload_n 0, 1) := by decide +kernel
theorem d_Model_program_58 : decode m_Model_program.2.1 58 = .ok (.getfield 235, 3) := by decide +kernel
theorem d_Model_program_61 : decode m_Model_program.2.1 61 = .ok (.goto 16, 3) := by decide +kernel
theorem d_Model_program_64 : decode m_Model_program.2.1 64 = .ok (.aload_n 0, 1) := by decide +kernel
theorem d_Model_program_65 : decode m_Model_program.2.1 65 = .ok (.aload_n 0, 1) := by decide +kernel
theorem d_Model_program_66 : decode m_Model_program.2.1 66 = .ok (.getfield 16, 3) := by decide +kernel
theorem d_Model_program_69 : decode m_Model_program.2.1 69 = .ok (.iconst 0, 1) := by decide +kernel
theorem d_Model_program_70 : decode m_Model_program.2.1 70 = .ok (.iaload, 1) := by decide +kernel
theorem d_Model_program_71 : decode m_Model_program.2.1 71 = .ok (.iconst 1, 1) := by decide +kernel
theorem d_Model_program_72 : decode m_Model_program.2.1 72 = .ok (.isub, 1) := by decide +kernel
theorem d_Model_program_73 : decode m_Model_program.2.1 73 = .ok (.iload_n 1, 1) := by decide +kernel
theorem d_Model_program_74 : decode m_Model_program.2.1 74 = .ok (.invokevirtual 197, 3) := by decide +kernel
theorem d_Model_program_77 : decode m_Model_program.2.1 77 = .ok (.ireturn, 1) := by decide +kernel
theorem d_Model_programs_0 : decode m_Model_programs.2.1 0 = .ok (.aload_n 0, 1) := by decide +kernel
theorem d_Model_programs_1 : decode m_Model_programs.2.1 1 = .ok (.invokevirtual 210, 3) := by decide +kernel
theorem d_Model_programs_4 : decode m_Model_programs.2.1 4 = .ok (.aload_n 0, 1) := by decide +kernel
theorem d_Model_programs_5 : decode m_Model_programs.2.1 5 = .ok (.iconst 0, 1) := by decide +kernel
theorem d_Model_programs_6 : decode m_Model_programs.2.1 6 = .ok (.putfield 216, 3) := by decide +kernel
theorem d_Model_programs_9 : decode m_Model_programs.2.1 9 = .ok (.aload_n 0, 1) := by decide +kernel
theorem d_Model_programs_10 : decode m_Model_programs.2.1 10 = .ok (.iconst 0, 1) := by decide +kernel
theorem d_Model_programs_11 : decode m_Model_programs.2.1 11 = .ok (.putfield 222, 3) := by decide +kernel
theorem d_Model_programs_14 : decode m_Model_programs.2.1 14 = .ok (.aload_n 0, 1) := by decide +kernel
theorem d_Model_programs_15 : decode m_Model_programs.2.1 15 = .ok (.iconst 0, 1) := by decide +kernel
theorem d_Model_programs_16 : decode m_Model_programs.2.1 16 = .ok (.putfield 235, 3) := by decide +kernel
theorem d_Model_programs_19 : decode m_Model_programs.2.1 19 = .ok (.aload_n 0, 1) := by decide +kernel
theorem d_Model_programs_20 : decode m_Model_programs.2.1 20 = .ok (.iconst 0, 1) := by decide +kernel
theorem d_Model_programs_21 : decode m_Model_programs.2.1 21 = .ok (.aload_n 0, 1) := by decide +kernel
theorem d_Model_programs_22 : decode m_Model_programs.2.1 22 = .ok (.getfield 16, 3) := by decide +kernel
theorem d_Model_programs_25 : decode m_Model_programs.2.1 25 = .ok (.iconst 0, 1) := by decide +kernel
theorem d_Model_programs_26 : decode m_Model_programs.2.1 26 = .ok (.iaload, 1) := by decide +kernel
theorem d_Model_programs_27 : decode m_Model_programs.2.1 27 = .ok (.iconst 1, 1) := by decide +kernel
theorem d_Model_programs_28 : decode m_Model_programs.2.1 28 = .ok (.isub, 1) := by decide +kernel
theorem d_Model_programs_29 : decode m_Model_programs.2.1 29 = .ok (.iconst 0, 1) := by decide +kernel
theorem d_Model_programs_30 : decode m_Model_programs.2.1 30 = .ok (.iload_n 1, 1) := by decide +kernel
theorem d_Model_programs_31 : decode m_Model_programs.2.1 31 = .ok (.iconst 0, 1) := by decide +kernel
theorem d_Model_programs_32 : decode m_Model_programs.2.1 32 = .ok (.invokevirtual 219, 3) := by decide +kernel
theorem d_Model_programs_35 : decode m_Model_programs.2.1 35 = .ok (.aload_n 0, 1) := by decide +kernel
theorem d_Model_programs_36 : decode m_Model_programs.2.1 36 = .ok (.getfield 216, 3) := by decide +kernel
theorem d_Model_programs_39 : decode m_Model_programs.2.1 39 = .ok (.ifCond .le 214, 3) := by decide +kernel
theorem d_Model_programs_42 : decode m_Model_programs.2.1 42 = .ok (.aload_n 0, 1) := by decide +kernel
theorem d_Model_programs_43 : decode m_Model_programs.2.1 43 = .ok (.dup, 1) := by decide +kernel
theorem d_Model_programs_44 : decode m_Model_programs.2.1 44 = .ok (.getfield 216, 3) := by decide +kernel
theorem d_Model_programs_47 : decode m_Model_programs.2.1 47 = .ok (.iconst 1, 1) := by decide +kernel
theorem d_Model_programs_48 : decode m_Model_programs.2.1 48 = .ok (.isub, 1) := by decide +kernel
theorem d_Model_programs_49 : decode m_Model_programs.2.1 49 = .ok (.putfield 216, 3) := by decide +kernel
theorem d_Model_programs_52 : decode m_Model_programs.2.1 52 = .ok (.aload_n 0, 1) := by decide +kernel
theorem d_Model_programs_53 : decode m_Model_programs.2.1 53 = .ok (.getfield 53, 3) := by decide +kernel
theorem d_Model_programs_56 : decode m_Model_programs.2.1 56 = .ok (.iconst 5, 1) := by decide +kernel
theorem d_Model_programs_57 : decode m_Model_programs.2.1 57 = .ok (.aload_n 0, 1) := by decide +kernel
theorem d_Model_programs_58 : decode m_Model_programs.2.1 58 = .ok (.getfield 216, 3) := by decide +kernel
theorem d_Model_programs_61 : decode m_Model_programs.2.1 61 = .ok (.imul, 1) := by decide +kernel
theorem d_Model_programs_62 : decode m_Model_programs.2.1 62 = .ok (.iaload, 1) := by decide +kernel
theorem d_Model_programs_63 : decode m_Model_programs.2.1 63 = .ok (.istore_n 2, 1) := by decide +kernel
theorem d_Model_programs_64 : decode m_Model_programs.2.1 64 = .ok (.aload_n 0, 1) := by decide +kernel
theorem d_Model_programs_65 : decode m_Model_programs.2.1 65 = .ok (.getfield 53, 3) := by decide +kernel
theorem d_Model_programs_68 : decode m_Model_programs.2.1 68 = .ok (.iconst 5, 1) := by decide +kernel
theorem d_Model_programs_69 : decode m_Model_programs.2.1 69 = .ok (.aload_n 0, 1) := by decide +kernel
theorem d_Model_programs_70 : decode m_Model_programs.2.1 70 = .ok (.getfield 216, 3) := by decide +kernel
theorem d_Model_programs_73 : decode m_Model_programs.2.1 73 = .ok (.imul, 1) := by decide +kernel
theorem d_Model_programs_74 : decode m_Model_programs.2.1 74 = .ok (.iconst 1, 1) := by decide +kernel
theorem d_Model_programs_75 : decode m_Model_programs.2.1 75 = .ok (.iadd, 1) := by decide +kernel
theorem d_Model_programs_76 : decode m_Model_programs.2.1 76 = .ok (.iaload, 1) := by decide +kernel
theorem d_Model_programs_77 : decode m_Model_programs.2.1 77 = .ok (.istore_n 3, 1) := by decide +kernel
theorem d_Model_programs_78 : decode m_Model_programs.2.1 78 = .ok (.aload_n 0, 1) := by decide +kernel
theorem d_Model_programs_79 : decode m_Model_programs.2.1 79 = .ok (.getfield 53, 3) := by decide +kernel
theorem d_Model_programs_82 : decode m_Model_programs.2.1 82 = .ok (.iconst 5, 1) := by decide +kernel
theorem d_Model_programs_83 : decode m_Model_programs.2.1 83 = .ok (.aload_n 0, 1) := by decide +kernel
theorem d_Model_programs_84 : decode m_Model_programs.2.1 84 = .ok (.getfield 216, 3) := by decide +kernel
theorem d_Model_programs_87 : decode m_Model_programs.2.1 87 = .ok (.imul, 1) := by decide +kernel
theorem d_Model_programs_88 : decode m_Model_programs.2.1 88 = .ok (.iconst 2, 1) := by decide +kernel
theorem d_Model_programs_89 : decode m_Model_programs.2.1 89 = .ok (.iadd, 1) := by decide +kernel
theorem d_Model_programs_90 : decode m_Model_programs.2.1 90 = .ok (.iaload, 1) := by decide +kernel
theorem d_Model_programs_91 : decode m_Model_programs.2.1 91 = .ok (.istore 4, 2) := by decide +kernel
theorem d_Model_programs_93 : decode m_Model_programs.2.1 93 = .ok (.aload_n 0, 1) := by decide +kernel
theorem d_Model_programs_94 : decode m_Model_programs.2.1 94 = .ok (.getfield 53, 3) := by decide +kernel
theorem d_Model_programs_97 : decode m_Model_programs.2.1 97 = .ok (.iconst 5, 1) := by decide +kernel
theorem d_Model_programs_98 : decode m_Model_programs.2.1 98 = .ok (.aload_n 0, 1) := by decide +kernel
theorem d_Model_programs_99 : decode m_Model_programs.2.1 99 = .ok (.getfield 216, 3) := by decide +kernel
theorem d_Model_programs_102 : decode m_Model_programs.2.1 102 = .ok (.imul, 1) := by decide +kernel
theorem d_Model_programs_103 : decode m_Model_programs.2.1 103 = .ok (.iconst 3, 1) := by decide +kernel
theorem d_Model_programs_104 : decode m_Model_programs.2.1 104 = .ok (.iadd, 1) := by decide +kernel
theorem d_Model_programs_105 : decode m_Model_programs.2.1 105 = .ok (.iaload, 1) := by decide +kernel
theorem d_Model_programs_106 : decode m_Model_programs.2.1 106 = .ok (.istore 5, 2) := by decide +kernel
theorem d_Model_programs_108 : decode m_Model_programs.2.1 108 = .ok (.aload_n 0, 1) := by decide +kernel
theorem d_Model_programs_109 : decode m_Model_programs.2.1 109 = .ok (.getfield 53, 3) := by decide +kernel
theorem d_Model_programs_112 : decode m_Model_programs.2.1 112 = .ok (.iconst 5, 1) := by decide +kernel
theorem d_Model_programs_113 : decode m_Model_programs.2.1 113 = .ok (.aload_n 0, 1) := by decide +kernel
theorem d_Model_programs_114 : decode m_Model_programs.2.1 114 = .ok (.getfield 216, 3) := by decide +kernel
theorem d_Model_programs_117 : decode m_Model_programs.2.1 117 = .ok (.imul, 1) := by decide +kernel
theorem d_Model_programs_118 : decode m_Model_programs.2.1 118 = .ok (.iconst 4, 1) := by decide +kernel
theorem d_Model_programs_119 : decode m_Model_programs.2.1 119 = .ok (.iadd, 1) := by decide +kernel
theorem d_Model_programs_120 : decode m_Model_programs.2.1 120 = .ok (.iaload, 1) := by decide +kernel
theorem d_Model_programs_121 : decode m_Model_programs.2.1 121 = .ok (.istore 6, 2) := by decide +kernel
theorem d_Model_programs_123 : decode m_Model_programs.2.1 123 = .ok (.iload_n 2, 1) := by decide +kernel
theorem d_Model_programs_124 : decode m_Model_programs.2.1 124 = .ok (.ifCond .ne 15, 3) := by decide +kernel
theorem d_Model_programs_127 : decode m_Model_programs.2.1 127 = .ok (.aload_n 0, 1) := by decide +kernel
