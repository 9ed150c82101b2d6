theorem d_Need_rootCost_18 : decode m_Need_rootCost.2.1 18 = .ok (.invokevirtual 170, 3) := by decide +kernel
theorem d_Need_rootCost_21 : decode m_Need_rootCost.2.1 21 = .ok (.ireturn, 1) := by decide +kernel
theorem d_Need_let_0 : decode m_Need_let.2.1 0 = .ok (.iload_n 1, 1) := by decide +kernel
theorem d_Need_let_1 : decode m_Need_let.2.1 1 = .ok (.ifCond .lt 9, 3) := by decide +kernel
theorem d_Need_let_4 : decode m_Need_let.2.1 4 = .ok (.iload_n 1, 1) := by decide +kernel
theorem d_Need_let_5 : decode m_Need_let.2.1 5 = .ok (.bipush 8, 2) := by decide +kernel
theorem d_Need_let_7 : decode m_Need_let.2.1 7 = .ok (.if_icmp .lt 5, 3) := by decide +kernel
theorem d_Need_let_10 : decode m_Need_let.2.1 10 = .ok (.iconst (-1), 1) := by decide +kernel
theorem d_Need_let_11 : decode m_Need_let.2.1 11 = .ok (.ireturn, 1) := by decide +kernel
theorem d_Need_let_12 : decode m_Need_let.2.1 12 = .ok (.aload_n 0, 1) := by decide +kernel
theorem d_Need_let_13 : decode m_Need_let.2.1 13 = .ok (.aload_n 0, 1) := by decide +kernel
theorem d_Need_let_14 : decode m_Need_let.2.1 14 = .ok (.getfield 28, 3) := by decide +kernel
theorem d_Need_let_17 : decode m_Need_let.2.1 17 = .ok (.getfield 156, 3) := by decide +kernel
theorem d_Need_let_20 : decode m_Need_let.2.1 20 = .ok (.iload_n 1, 1) := by decide +kernel
theorem d_Need_let_21 : decode m_Need_let.2.1 21 = .ok (.invokevirtual 128, 3) := by decide +kernel
theorem d_Need_let_24 : decode m_Need_let.2.1 24 = .ok (.putfield 218, 3) := by decide +kernel
theorem d_Need_let_27 : decode m_Need_let.2.1 27 = .ok (.aload_n 0, 1) := by decide +kernel
theorem d_Need_let_28 : decode m_Need_let.2.1 28 = .ok (.getfield 48, 3) := by decide +kernel
theorem d_Need_let_31 : decode m_Need_let.2.1 31 = .ok (.iload_n 1, 1) := by decide +kernel
theorem d_Need_let_32 : decode m_Need_let.2.1 32 = .ok (.aload_n 0, 1) := by decide +kernel
theorem d_Need_let_33 : decode m_Need_let.2.1 33 = .ok (.getfield 218, 3) := by decide +kernel
theorem d_Need_let_36 : decode m_Need_let.2.1 36 = .ok (.invokevirtual 221, 3) := by decide +kernel
theorem d_Need_let_39 : decode m_Need_let.2.1 39 = .ok (.aload_n 0, 1) := by decide +kernel
theorem d_Need_let_40 : decode m_Need_let.2.1 40 = .ok (.getfield 28, 3) := by decide +kernel
theorem d_Need_let_43 : decode m_Need_let.2.1 43 = .ok (.getfield 156, 3) := by decide +kernel
theorem d_Need_let_46 : decode m_Need_let.2.1 46 = .ok (.iload_n 1, 1) := by decide +kernel
theorem d_Need_let_47 : decode m_Need_let.2.1 47 = .ok (.iload_n 2, 1) := by decide +kernel
theorem d_Need_let_48 : decode m_Need_let.2.1 48 = .ok (.invokevirtual 87, 3) := by decide +kernel
theorem d_Need_let_51 : decode m_Need_let.2.1 51 = .ok (.iconst 1, 1) := by decide +kernel
theorem d_Need_let_52 : decode m_Need_let.2.1 52 = .ok (.ireturn, 1) := by decide +kernel
theorem d_Need_machine_0 : decode m_Need_machine.2.1 0 = .ok (.iload_n 1, 1) := by decide +kernel
theorem d_Need_machine_1 : decode m_Need_machine.2.1 1 = .ok (.iconst 1, 1) := by decide +kernel
theorem d_Need_machine_2 : decode m_Need_machine.2.1 2 = .ok (.if_icmp .lt 39, 3) := by decide +kernel
theorem d_Need_machine_5 : decode m_Need_machine.2.1 5 = .ok (.iload_n 1, 1) := by decide +kernel
theorem d_Need_machine_6 : decode m_Need_machine.2.1 6 = .ok (.bipush 6, 2) := by decide +kernel
theorem d_Need_machine_8 : decode m_Need_machine.2.1 8 = .ok (.if_icmp .gt 33, 3) := by decide +kernel
theorem d_Need_machine_11 : decode m_Need_machine.2.1 11 = .ok (.iload_n 2, 1) := by decide +kernel
theorem d_Need_machine_12 : decode m_Need_machine.2.1 12 = .ok (.invokestatic 224, 3) := by decide +kernel
theorem d_Need_machine_15 : decode m_Need_machine.2.1 15 = .ok (.ifCond .eq 26, 3) := by decide +kernel
theorem d_Need_machine_18 : decode m_Need_machine.2.1 18 = .ok (.iload_n 3, 1) := by decide +kernel
theorem d_Need_machine_19 : decode m_Need_machine.2.1 19 = .ok (.invokestatic 224, 3) := by decide +kernel
theorem d_Need_machine_22 : decode m_Need_machine.2.1 22 = .ok (.ifCond .eq 19, 3) := by decide +kernel
theorem d_Need_machine_25 : decode m_Need_machine.2.1 25 = .ok (.iload 4, 2) := by decide +kernel
theorem d_Need_machine_27 : decode m_Need_machine.2.1 27 = .ok (.invokestatic 224, 3) := by decide +kernel
theorem d_Need_machine_30 : decode m_Need_machine.2.1 30 = .ok (.ifCond .eq 11, 3) := by decide +kernel
theorem d_Need_machine_33 : decode m_Need_machine.2.1 33 = .ok (.iload 5, 2) := by decide +kernel
theorem d_Need_machine_35 : decode m_Need_machine.2.1 35 = .ok (.invokestatic 224, 3) := by decide +kernel
theorem d_Need_machine_38 : decode m_Need_machine.2.1 38 = .ok (.ifCond .ne 5, 3) := by decide +kernel
theorem d_Need_machine_41 : decode m_Need_machine.2.1 41 = .ok (.iconst (-1), 1) := by decide +kernel
theorem d_Need_machine_42 : decode m_Need_machine.2.1 42 = .ok (.ireturn, 1) := by decide +kernel
theorem d_Need_machine_43 : decode m_Need_machine.2.1 43 = .ok (.aload_n 0, 1) := by decide +kernel
theorem d_Need_machine_44 : decode m_Need_machine.2.1 44 = .ok (.getfield 48, 3) := by decide +kernel
theorem d_Need_machine_47 : decode m_Need_machine.2.1 47 = .ok (.aload_n 0, 1) := by decide +kernel
theorem d_Need_machine_48 : decode m_Need_machine.2.1 48 = .ok (.getfield 28, 3) := by decide +kernel
theorem d_Need_machine_51 : decode m_Need_machine.2.1 51 = .ok (.getfield 84, 3) := by decide +kernel
theorem d_Need_machine_54 : decode m_Need_machine.2.1 54 = .ok (.invokevirtual 227, 3) := by decide +kernel
theorem d_Need_machine_57 : decode m_Need_machine.2.1 57 = .ok (.aload_n 0, 1) := by decide +kernel
theorem d_Need_machine_58 : decode m_Need_machine.2.1 58 = .ok (.getfield 28, 3) := by decide +kernel
theorem d_Need_machine_61 : decode m_Need_machine.2.1 61 = .ok (.getfield 84, 3) := by decide +kernel
theorem d_Need_machine_64 : decode m_Need_machine.2.1 64 = .ok (.iconst 0, 1) := by decide +kernel
theorem d_Need_machine_65 : decode m_Need_machine.2.1 65 = .ok (.iload_n 1, 1) := by decide +kernel
theorem d_Need_machine_66 : decode m_Need_machine.2.1 66 = .ok (.invokevirtual 87, 3) := by decide +kernel
theorem d_Need_machine_69 : decode m_Need_machine.2.1 69 = .ok (.aload_n 0, 1) := by decide +kernel
theorem d_Need_machine_70 : decode m_Need_machine.2.1 70 = .ok (.getfield 28, 3) := by decide +kernel
theorem d_Need_machine_73 : decode m_Need_machine.2.1 73 = .ok (.getfield 84, 3) := by decide +kernel
theorem d_Need_machine_76 : decode m_Need_machine.2.1 76 = .ok (.iconst 1, 1) := by decide +kernel
theorem d_Need_machine_77 : decode m_Need_machine.2.1 77 = .ok (.iload_n 2, 1) := by decide +kernel
theorem d_Need_machine_78 : decode m_Need_machine.2.1 78 = .ok (.invokevirtual 87, 3) := by decide +kernel
theorem d_Need_machine_81 : decode m_Need_machine.2.1 81 = .ok (.aload_n 0, 1) := by decide +kernel
theorem d_Need_machine_82 : decode m_Need_machine.2.1 82 = .ok (.getfield 28, 3) := by decide +kernel
theorem d_Need_machine_85 : decode m_Need_machine.2.1 85 = .ok (.getfield 84, 3) := by decide +kernel
theorem d_Need_machine_88 : decode m_Need_machine.2.1 88 = .ok (.iconst 2, 1) := by decide +kernel
theorem d_Need_machine_89 : decode m_Need_machine.2.1 89 = .ok (.iload_n 3, 1) := by decide +kernel
theorem d_Need_machine_90 : decode m_Need_machine.2.1 90 = .ok (.invokevirtual 87, 3) := by decide +kernel
theorem d_Need_machine_93 : decode m_Need_machine.2.1 93 = .ok (.aload_n 0, 1) := by decide +kernel
theorem d_Need_machine_94 : decode m_Need_machine.2.1 94 = .ok (.getfield 28, 3) := by decide +kernel
theorem d_Need_machine_97 : decode m_Need_machine.2.1 97 = .ok (.getfield 84, 3) := by decide +kernel
theorem d_Need_machine_100 : decode m_Need_machine.2.1 100 = .ok (.iconst 3, 1) := by decide +kernel
theorem d_Need_machine_101 : decode m_Need_machine.2.1 101 = .ok (.iload 4, 2) := by decide +kernel
theorem d_Need_machine_103 : decode m_Need_machine.2.1 103 = .ok (.invokevirtual 87, 3) := by decide +kernel
theorem d_Need_machine_106 : decode m_Need_machine.2.1 106 = .ok (.aload_n 0, 1) := by decide +kernel
theorem d_Need_machine_107 : decode m_Need_machine.2.1 107 = .ok (.getfield 28, 3) := by decide +kernel
theorem d_Need_machine_110 : decode m_Need_machine.2.1 110 = .ok (.getfield 84, 3) := by decide +kernel
theorem d_Need_machine_113 : decode m_Need_machine.2.1 113 = .ok (.iconst 4, 1) := by decide +kernel
theorem d_Need_machine_114 : decode m_Need_machine.2.1 114 = .ok (.iload 5, 2) := by decide +kernel
theorem d_Need_machine_116 : decode m_Need_machine.2.1 116 = .ok (.invokevirtual 87, 3) := by decide +kernel
theorem d_Need_machine_119 : decode m_Need_machine.2.1 119 = .ok (.aload_n 0, 1) := by decide +kernel
theorem d_Need_machine_120 : decode m_Need_machine.2.1 120 = .ok (.invokevirtual 115, 3) := by decide +kernel
theorem d_Need_machine_123 : decode m_Need_machine.2.1 123 = .ok (.aload_n 0, 1) := by decide +kernel
theorem d_Need_machine_124 : decode m_Need_machine.2.1 124 = .ok (.getfield 28, 3) := by decide +kernel
theorem d_Need_machine_127 : decode m_Need_machine.2.1 127 = .ok (.getfield 101, 3) := by decide +kernel
theorem d_Need_machine_130 : decode m_Need_machine.2.1 130 = .ok (.invokevirtual 177, 3) := by decide +kernel
theorem d_Need_machine_133 : decode m_Need_machine.2.1 133 = .ok (.ifCond .eq 7, 3) := by decide +kernel
theorem d_Need_machine_136 : decode m_Need_machine.2.1 136 = .ok (.iconst 0, 1) := by decide +kernel
theorem d_Need_machine_137 : decode m_Need_machine.2.1 137 = .ok (.goto 7, 3) := by decide +kernel
theorem d_Need_machine_140 : decode m_Need_machine.2.1 140 = .ok (.aload_n 0, 1) := by decide +kernel
theorem d_Need_machine_141 : decode m_Need_machine.2.1 141 = .ok (.invokevirtual 215, 3) := by decide +kernel
theorem d_Need_machine_144 : decode m_Need_machine.2.1 144 = .ok (.ireturn, 1) := by decide +kernel
theorem d_Need_isPrice_0 : decode m_Need_isPrice.2.1 0 = .ok (.iload_n 0, 1) := by decide +kernel
theorem d_Need_isPrice_1 : decode m_Need_isPrice.2.1 1 = .ok (.iconst 1, 1) := by decide +kernel
theorem d_Need_isPrice_2 : decode m_Need_isPrice.2.1 2 = .ok (.if_icmp .lt 13, 3) := by decide +kernel
theorem d_Need_isPrice_5 : decode m_Need_isPrice.2.1 5 = .ok (.iload_n 0, 1) := by decide +kernel
theorem d_Need_isPrice_6 : decode m_Need_isPrice.2.1 6 = .ok (.bipush 9, 2) := by decide +kernel
theorem d_Need_isPrice_8 : decode m_Need_isPrice.2.1 8 = .ok (.if_icmp .gt 7, 3) := by decide +kernel
theorem d_Need_isPrice_11 : decode m_Need_isPrice.2.1 11 = .ok (.iconst 1, 1) := by decide +kernel
theorem d_Need_isPrice_12 : decode m_Need_isPrice.2.1 12 = .ok (.goto 4, 3) := by decide +kernel
theorem d_Need_isPrice_15 : decode m_Need_isPrice.2.1 15 = .ok (.iconst 0, 1) := by decide +kernel
theorem d_Need_isPrice_16 : decode m_Need_isPrice.2.1 16 = .ok (.ireturn, 1) := by decide +kernel
theorem d_Need_undo_0 : decode m_Need_undo.2.1 0 = .ok (.aload_n 0, 1) := by decide +kernel
theorem d_Need_undo_1 : decode m_Need_undo.2.1 1 = .ok (.getfield 48, 3) := by decide +kernel
theorem d_Need_undo_4 : decode m_Need_undo.2.1 4 = .ok (.getfield 231, 3) := by decide +kernel
theorem d_Need_undo_7 : decode m_Need_undo.2.1 7 = .ok (.ifCond .ne 6, 3) := by decide +kernel
theorem d_Need_undo_10 : decode m_Need_undo.2.1 10 = .ok (.bipush (-2), 2) := by decide +kernel
theorem d_Need_undo_12 : decode m_Need_undo.2.1 12 = .ok (.ireturn, 1) := by decide +kernel
theorem d_Need_undo_13 : decode m_Need_undo.2.1 13 = .ok (.aload_n 0, 1) := by decide +kernel
theorem d_Need_undo_14 : decode m_Need_undo.2.1 14 = .ok (.getfield 48, 3) := by decide +kernel
theorem d_Need_undo_17 : decode m_Need_undo.2.1 17 = .ok (.invokevirtual 234, 3) := by decide +kernel
theorem d_Need_undo_20 : decode m_Need_undo.2.1 20 = .ok (.istore_n 1, 1) := by decide +kernel
theorem d_Need_undo_21 : decode m_Need_undo.2.1 21 = .ok (.iload_n 1, 1) := by decide +kernel
theorem d_Need_undo_22 : decode m_Need_undo.2.1 22 = .ok (.ifCond .ne 31, 3) := by decide +kernel
theorem d_Need_undo_25 : decode m_Need_undo.2.1 25 = .ok (.aload_n 0, 1) := by decide +kernel
theorem d_Need_undo_26 : decode m_Need_undo.2.1 26 = .ok (.getfield 28, 3) := by decide +kernel
theorem d_Need_undo_29 : decode m_Need_undo.2.1 29 = .ok (.getfield 101, 3) := by decide +kernel
theorem d_Need_undo_32 : decode m_Need_undo.2.1 32 = .ok (.aload_n 0, 1) := by decide +kernel
theorem d_Need_undo_33 : decode m_Need_undo.2.1 33 = .ok (.getfield 48, 3) := by decide +kernel
theorem d_Need_undo_36 : decode m_Need_undo.2.1 36 = .ok (.invokevirtual 237, 3) := by decide +kernel
theorem d_Need_undo_39 : decode m_Need_undo.2.1 39 = .ok (.aload_n 0, 1) := by decide +kernel
theorem d_Need_undo_40 : decode m_Need_undo.2.1 40 = .ok (.getfield 41, 3) := by decide +kernel
theorem d_Need_undo_43 : decode m_Need_undo.2.1 43 = .ok (.invokevirtual 211, 3) := by decide +kernel
theorem d_Need_undo_46 : decode m_Need_undo.2.1 46 = .ok (.aload_n 0, 1) := by decide +kernel
theorem d_Need_undo_47 : decode m_Need_undo.2.1 47 = .ok (.invokevirtual 115, 3) := by decide +kernel
theorem d_Need_undo_50 : decode m_Need_undo.2.1 50 = .ok (.goto 53, 3) := by decide +kernel
theorem d_Need_undo_53 : decode m_Need_undo.2.1 53 = .ok (.iload_n 1, 1) := by decide +kernel
theorem d_Need_undo_54 : decode m_Need_undo.2.1 54 = .ok (.iconst 1, 1) := by decide +kernel
theorem d_Need_undo_55 : decode m_Need_undo.2.1 55 = .ok (.if_icmp .ne 30, 3) := by decide +kernel
theorem d_Need_undo_58 : decode m_Need_undo.2.1 58 = .ok (.aload_n 0, 1) := by decide +kernel
theorem d_Need_undo_59 : decode m_Need_undo.2.1 59 = .ok (.getfield 28, 3) := by decide +kernel
theorem d_Need_undo_62 : decode m_Need_undo.2.1 62 = .ok (.getfield 156, 3) := by decide +kernel
theorem d_Need_undo_65 : decode m_Need_undo.2.1 65 = .ok (.aload_n 0, 1) := by decide +kernel
theorem d_Need_undo_66 : decode m_Need_undo.2.1 66 = .ok (.getfield 48, 3) := by decide +kernel
theorem d_Need_undo_69 : decode m_Need_undo.2.1 69 = .ok (.invokevirtual 237, 3) := by decide +kernel
theorem d_Need_undo_72 : decode m_Need_undo.2.1 72 = .ok (.aload_n 0, 1) := by decide +kernel
theorem d_Need_undo_73 : decode m_Need_undo.2.1 73 = .ok (.getfield 48, 3) := by decide +kernel
theorem d_Need_undo_76 : decode m_Need_undo.2.1 76 = .ok (.invokevirtual 240, 3) := by decide +kernel
theorem d_Need_undo_79 : decode m_Need_undo.2.1 79 = .ok (.invokevirtual 87, 3) := by decide +kernel
theorem d_Need_undo_82 : decode m_Need_undo.2.1 82 = .ok (.goto 21, 3) := by decide +kernel
theorem d_Need_undo_85 : decode m_Need_undo.2.1 85 = .ok (.aload_n 0, 1) := by decide +kernel
theorem d_Need_undo_86 : decode m_Need_undo.2.1 86 = .ok (.getfield 48, 3) := by decide +kernel
theorem d_Need_undo_89 : decode m_Need_undo.2.1 89 = .ok (.aload_n 0, 1) := by decide +kernel
theorem d_Need_undo_90 : decode m_Need_undo.2.1 90 = .ok (.getfield 28, 3) := by decide +kernel
theorem d_Need_undo_93 : decode m_Need_undo.2.1 93 = .ok (.getfield 84, 3) := by decide +kernel
theorem d_Need_undo_96 : decode m_Need_undo.2.1 96 = .ok (.invokevirtual 243, 3) := by decide +kernel
theorem d_Need_undo_99 : decode m_Need_undo.2.1 99 = .ok (.aload_n 0, 1) := by decide +kernel
theorem d_Need_undo_100 : decode m_Need_undo.2.1 100 = .ok (.invokevirtual 115, 3) := by decide +kernel
theorem d_Need_undo_103 : decode m_Need_undo.2.1 103 = .ok (.aload_n 0, 1) := by decide +kernel
theorem d_Need_undo_104 : decode m_Need_undo.2.1 104 = .ok (.getfield 48, 3) := by decide +kernel
theorem d_Need_undo_107 : decode m_Need_undo.2.1 107 = .ok (.invokevirtual 246, 3) := by decide +kernel
theorem d_Need_undo_110 : decode m_Need_undo.2.1 110 = .ok (.aload_n 0, 1) := by decide +kernel
theorem d_Need_undo_111 : decode m_Need_undo.2.1 111 = .ok (.getfield 48, 3) := by decide +kernel
theorem d_Need_undo_114 : decode m_Need_undo.2.1 114 = .ok (.getfield 231, 3) := by decide +kernel
theorem d_Need_undo_117 : decode m_Need_undo.2.1 117 = .ok (.ireturn, 1) := by decide +kernel
theorem d_Need_shared_0 : decode m_Need_shared.2.1 0 = .ok (.iload_n 1, 1) := by decide +kernel
theorem d_Need_shared_1 : decode m_Need_shared.2.1 1 = .ok (.ifCond .lt 23, 3) := by decide +kernel
theorem d_Need_shared_4 : decode m_Need_shared.2.1 4 = .ok (.iload_n 1, 1) := by decide +kernel
theorem d_Need_shared_5 : decode m_Need_shared.2.1 5 = .ok (.aload_n 0, 1) := by decide +kernel
theorem d_Need_shared_6 : decode m_Need_shared.2.1 6 = .ok (.getfield 76, 3) := by decide +kernel
theorem d_Need_shared_9 : decode m_Need_shared.2.1 9 = .ok (.getfield 249, 3) := by decide +kernel
theorem d_Need_shared_12 : decode m_Need_shared.2.1 12 = .ok (.if_icmp .ge 12, 3) := by decide +kernel
theorem d_Need_shared_15 : decode m_Need_shared.2.1 15 = .ok (.iload_n 2, 1) := by decide +kernel
theorem d_Need_shared_16 : decode m_Need_shared.2.1 16 = .ok (.ifCond .lt 8, 3) := by decide +kernel
theorem d_Need_shared_19 : decode m_Need_shared.2.1 19 = .ok (.iload_n 2, 1) := by decide +kernel
theorem d_Need_shared_20 : decode m_Need_shared.2.1 20 = .ok (.iconst 1, 1) := by decide +kernel
theorem d_Need_shared_21 : decode m_Need_shared.2.1 21 = .ok (.if_icmp .le 5, 3) := by decide +kernel
theorem d_Need_shared_24 : decode m_Need_shared.2.1 24 = .ok (.iconst (-1), 1) := by decide +kernel
theorem d_Need_shared_25 : decode m_Need_shared.2.1 25 = .ok (.ireturn, 1) := by decide +kernel
theorem d_Need_shared_26 : decode m_Need_shared.2.1 26 = .ok (.iload_n 2, 1) := by decide +kernel
theorem d_Need_shared_27 : decode m_Need_shared.2.1 27 = .ok (.ifCond .ne 17, 3) := by decide +kernel
theorem d_Need_shared_30 : decode m_Need_shared.2.1 30 = .ok (.aload_n 0, 1) := by decide +kernel
theorem d_Need_shared_31 : decode m_Need_shared.2.1 31 = .ok (.getfield 76, 3) := by decide +kernel
theorem d_Need_shared_34 : decode m_Need_shared.2.1 34 = .ok (.getfield 252, 3) := by decide +kernel
theorem d_Need_shared_37 : decode m_Need_shared.2.1 37 = .ok (.iload_n 1, 1) := by decide +kernel
theorem d_Need_shared_38 : decode m_Need_shared.2.1 38 = .ok (.invokevirtual 128, 3) := by decide +kernel
theorem d_Need_shared_41 : decode m_Need_shared.2.1 41 = .ok (.goto 14, 3) := by decide +kernel
theorem d_Need_shared_44 : decode m_Need_shared.2.1 44 = .ok (.aload_n 0, 1) := by decide +kernel
theorem d_Need_shared_45 : decode m_Need_shared.2.1 45 = .ok (.getfield 76, 3) := by decide +kernel
theorem d_Need_shared_48 : decode m_Need_shared.2.1 48 = .ok (.getfield 255, 3) := by decide +kernel
theorem d_Need_shared_51 : decode m_Need_shared.2.1 51 = .ok (.iload_n 1, 1) := by decide +kernel
theorem d_Need_shared_52 : decode m_Need_shared.2.1 52 = .ok (.invokevirtual 128, 3) := by decide +kernel
theorem d_Need_shared_55 : decode m_Need_shared.2.1 55 = .ok (.ireturn, 1) := by decide +kernel
theorem d_Need_cheapest_0 : decode m_Need_cheapest.2.1 0 = .ok (.aload_n 0, 1) := by decide +kernel
theorem d_Need_cheapest_1 : decode m_Need_cheapest.2.1 1 = .ok (.getfield 28, 3) := by decide +kernel
theorem d_Need_cheapest_4 : decode m_Need_cheapest.2.1 4 = .ok (.getfield 101, 3) := by decide +kernel
theorem d_Need_cheapest_7 : decode m_Need_cheapest.2.1 7 = .ok (.invokevirtual 177, 3) := by decide +kernel
theorem d_Need_cheapest_10 : decode m_Need_cheapest.2.1 10 = .ok (.ifCond .eq 6, 3) := by decide +kernel
theorem d_Need_cheapest_13 : decode m_Need_cheapest.2.1 13 = .ok (.bipush (-2), 2) := by decide +kernel
theorem d_Need_cheapest_15 : decode m_Need_cheapest.2.1 15 = .ok (.ireturn, 1) := by decide +kernel
theorem d_Need_cheapest_16 : decode m_Need_cheapest.2.1 16 = .ok (.iload_n 1, 1) := by decide +kernel
theorem d_Need_cheapest_17 : decode m_Need_cheapest.2.1 17 = .ok (.ifCond .lt 8, 3) := by decide +kernel
theorem d_Need_cheapest_20 : decode m_Need_cheapest.2.1 20 = .ok (.iload_n 1, 1) := by decide +kernel
theorem d_Need_cheapest_21 : decode m_Need_cheapest.2.1 21 = .ok (.iconst 1, 1) := by decide +kernel
theorem d_Need_cheapest_22 : decode m_Need_cheapest.2.1 22 = .ok (.if_icmp .le 5, 3) := by decide +kernel
theorem d_Need_cheapest_25 : decode m_Need_cheapest.2.1 25 = .ok (.iconst (-1), 1) := by decide +kernel
theorem d_Need_cheapest_26 : decode m_Need_cheapest.2.1 26 = .ok (.ireturn, 1) := by decide +kernel
theorem d_Need_cheapest_27 : decode m_Need_cheapest.2.1 27 = .ok (.aload_n 0, 1) := by decide +kernel
theorem d_Need_cheapest_28 : decode m_Need_cheapest.2.1 28 = .ok (.getfield 76, 3) := by decide +kernel
theorem d_Need_cheapest_31 : decode m_Need_cheapest.2.1 31 = .ok (.aload_n 0, 1) := by decide +kernel
theorem d_Need_cheapest_32 : decode m_Need_cheapest.2.1 32 = .ok (.getfield 28, 3) := by decide +kernel
theorem d_Need_cheapest_35 : decode m_Need_cheapest.2.1 35 = .ok (.getfield 101, 3) := by decide +kernel
theorem d_Need_cheapest_38 : decode m_Need_cheapest.2.1 38 = .ok (.aload_n 0, 1) := by decide +kernel
theorem d_Need_cheapest_39 : decode m_Need_cheapest.2.1 39 = .ok (.getfield 28, 3) := by decide +kernel
theorem d_Need_cheapest_42 : decode m_Need_cheapest.2.1 42 = .ok (.getfield 84, 3) := by decide +kernel
theorem d_Need_cheapest_45 : decode m_Need_cheapest.2.1 45 = .ok (.invokevirtual 258, 3) := by decide +kernel
theorem d_Need_cheapest_48 : decode m_Need_cheapest.2.1 48 = .ok (.iload_n 1, 1) := by decide +kernel
theorem d_Need_cheapest_49 : decode m_Need_cheapest.2.1 49 = .ok (.ifCond .ne 13, 3) := by decide +kernel
theorem d_Need_cheapest_52 : decode m_Need_cheapest.2.1 52 = .ok (.aload_n 0, 1) := by decide +kernel
theorem d_Need_cheapest_53 : decode m_Need_cheapest.2.1 53 = .ok (.getfield 76, 3) := by decide +kernel
theorem d_Need_cheapest_56 : decode m_Need_cheapest.2.1 56 = .ok (.getfield 262, 3) := by decide +kernel
theorem d_Need_cheapest_59 : decode m_Need_cheapest.2.1 59 = .ok (.goto 10, 3) := by decide +kernel
theorem d_Need_cheapest_62 : decode m_Need_cheapest.2.1 62 = .ok (.aload_n 0, 1) := by decide +kernel
theorem d_Need_cheapest_63 : decode m_Need_cheapest.2.1 63 = .ok (.getfield 76, 3) := by decide +kernel
theorem d_Need_cheapest_66 : decode m_Need_cheapest.2.1 66 = .ok (.getfield 265, 3) := by decide +kernel
theorem d_Need_cheapest_69 : decode m_Need_cheapest.2.1 69 = .ok (.ireturn, 1) := by decide +kernel
theorem d_Need_keep_0 : decode m_Need_keep.2.1 0 = .ok (.iload_n 1, 1) := by decide +kernel
theorem d_Need_keep_1 : decode m_Need_keep.2.1 1 = .ok (.ifCond .lt 8, 3) := by decide +kernel
theorem d_Need_keep_4 : decode m_Need_keep.2.1 4 = .ok (.iload_n 1, 1) := by decide +kernel
theorem d_Need_keep_5 : decode m_Need_keep.2.1 5 = .ok (.iconst 1, 1) := by decide +kernel
theorem d_Need_keep_6 : decode m_Need_keep.2.1 6 = .ok (.if_icmp .le 5, 3) := by decide +kernel
theorem d_Need_keep_9 : decode m_Need_keep.2.1 9 = .ok (.iconst (-1), 1) := by decide +kernel
theorem d_Need_keep_10 : decode m_Need_keep.2.1 10 = .ok (.ireturn, 1) := by decide +kernel
theorem d_Need_keep_11 : decode m_Need_keep.2.1 11 = .ok (.aload_n 0, 1) := by decide +kernel
theorem d_Need_keep_12 : decode m_Need_keep.2.1 12 = .ok (.getfield 28, 3) := by decide +kernel
theorem d_Need_keep_15 : decode m_Need_keep.2.1 15 = .ok (.getfield 101, 3) := by decide +kernel
theorem d_Need_keep_18 : decode m_Need_keep.2.1 18 = .ok (.invokevirtual 177, 3) := by decide +kernel
theorem d_Need_keep_21 : decode m_Need_keep.2.1 21 = .ok (.ifCond .eq 6, 3) := by decide +kernel
theorem d_Need_keep_24 : decode m_Need_keep.2.1 24 = .ok (.bipush (-2), 2) := by decide +kernel
theorem d_Need_keep_26 : decode m_Need_keep.2.1 26 = .ok (.ireturn, 1) := by decide +kernel
theorem d_Need_keep_27 : decode m_Need_keep.2.1 27 = .ok (.aload_n 0, 1) := by decide +kernel
theorem d_Need_keep_28 : decode m_Need_keep.2.1 28 = .ok (.iload_n 1, 1) := by decide +kernel
theorem d_Need_keep_29 : decode m_Need_keep.2.1 29 = .ok (.invokevirtual 268, 3) := by decide +kernel
theorem d_Need_keep_32 : decode m_Need_keep.2.1 32 = .ok (.astore_n 2, 1) := by decide +kernel
theorem d_Need_keep_33 : decode m_Need_keep.2.1 33 = .ok (.aload_n 2, 1) := by decide +kernel
theorem d_Need_keep_34 : decode m_Need_keep.2.1 34 = .ok (.aload_n 0, 1) := by decide +kernel
theorem d_Need_keep_35 : decode m_Need_keep.2.1 35 = .ok (.getfield 28, 3) := by decide +kernel
theorem d_Need_keep_38 : decode m_Need_keep.2.1 38 = .ok (.invokevirtual 272, 3) := by decide +kernel
theorem d_Need_keep_41 : decode m_Need_keep.2.1 41 = .ok (.aload_n 2, 1) := by decide +kernel
theorem d_Need_keep_42 : decode m_Need_keep.2.1 42 = .ok (.iconst 1, 1) := by decide +kernel
theorem d_Need_keep_43 : decode m_Need_keep.2.1 43 = .ok (.putfield 108, 3) := by decide +kernel
theorem d_Need_keep_46 : decode m_Need_keep.2.1 46 = .ok (.aload_n 0, 1) := by decide +kernel
theorem d_Need_keep_47 : decode m_Need_keep.2.1 47 = .ok (.getfield 28, 3) := by decide +kernel
theorem d_Need_keep_50 : decode m_Need_keep.2.1 50 = .ok (.getfield 101, 3) := by decide +kernel
theorem d_Need_keep_53 : decode m_Need_keep.2.1 53 = .ok (.getfield 118, 3) := by decide +kernel
theorem d_Need_keep_56 : decode m_Need_keep.2.1 56 = .ok (.ireturn, 1) := by decide +kernel
theorem d_Need_imageOf_0 : decode m_Need_imageOf.2.1 0 = .ok (.iload_n 1, 1) := by decide +kernel
theorem d_Need_imageOf_1 : decode m_Need_imageOf.2.1 1 = .ok (.ifCond .ne 10, 3) := by decide +kernel
theorem d_Need_imageOf_4 : decode m_Need_imageOf.2.1 4 = .ok (.aload_n 0, 1) := by decide +kernel
theorem d_Need_imageOf_5 : decode m_Need_imageOf.2.1 5 = .ok (.getfield 32, 3) := by decide +kernel
theorem d_Need_imageOf_8 : decode m_Need_imageOf.2.1 8 = .ok (.goto 7, 3) := by decide +kernel
theorem d_Need_imageOf_11 : decode m_Need_imageOf.2.1 11 = .ok (.aload_n 0, 1) := by decide +kernel
theorem d_Need_imageOf_12 : decode m_Need_imageOf.2.1 12 = .ok (.getfield 35, 3) := by decide +kernel
theorem d_Need_imageOf_15 : decode m_Need_imageOf.2.1 15 = .ok (.areturn, 1) := by decide +kernel
theorem d_Need_back_0 : decode m_Need_back.2.1 0 = .ok (.iload_n 1, 1) := by decide +kernel
theorem d_Need_back_1 : decode m_Need_back.2.1 1 = .ok (.ifCond .lt 8, 3) := by decide +kernel
theorem d_Need_back_4 : decode m_Need_back.2.1 4 = .ok (.iload_n 1, 1) := by decide +kernel
theorem d_Need_back_5 : decode m_Need_back.2.1 5 = .ok (.iconst 1, 1) := by decide +kernel
theorem d_Need_back_6 : decode m_Need_back.2.1 6 = .ok (.if_icmp .le 5, 3) := by decide +kernel
theorem d_Need_back_9 : decode m_Need_back.2.1 9 = .ok (.iconst (-1), 1) := by decide +kernel
theorem d_Need_back_10 : decode m_Need_back.2.1 10 = .ok (.ireturn, 1) := by decide +kernel
theorem d_Need_back_11 : decode m_Need_back.2.1 11 = .ok (.aload_n 0, 1) := by decide +kernel
theorem d_Need_back_12 : decode m_Need_back.2.1 12 = .ok (.iload_n 1, 1) := by decide +kernel
theorem d_Need_back_13 : decode m_Need_back.2.1 13 = .ok (.invokevirtual 268, 3) := by decide +kernel
theorem d_Need_back_16 : decode m_Need_back.2.1 16 = .ok (.astore_n 2, 1) := by decide +kernel
theorem d_Need_back_17 : decode m_Need_back.2.1 17 = .ok (.aload_n 2, 1) := by decide +kernel
theorem d_Need_back_18 : decode m_Need_back.2.1 18 = .ok (.getfield 108, 3) := by decide +kernel
theorem d_Need_back_21 : decode m_Need_back.2.1 21 = .ok (.ifCond .ne 6, 3) := by decide +kernel
theorem d_Need_back_24 : decode m_Need_back.2.1 24 = .ok (.bipush (-2), 2) := by decide +kernel
theorem d_Need_back_26 : decode m_Need_back.2.1 26 = .ok (.ireturn, 1) := by decide +kernel
theorem d_Need_back_27 : decode m_Need_back.2.1 27 = .ok (.aload_n 0, 1) := by decide +kernel
theorem d_Need_back_28 : decode m_Need_back.2.1 28 = .ok (.getfield 28, 3) := by decide +kernel
theorem d_Need_back_31 : decode m_Need_back.2.1 31 = .ok (.aload_n 2, 1) := by decide +kernel
theorem d_Need_back_32 : decode m_Need_back.2.1 32 = .ok (.invokevirtual 272, 3) := by decide +kernel
theorem d_Need_back_35 : decode m_Need_back.2.1 35 = .ok (.aload_n 0, 1) := by decide +kernel
theorem d_Need_back_36 : decode m_Need_back.2.1 36 = .ok (.getfield 48, 3) := by decide +kernel
theorem d_Need_back_39 : decode m_Need_back.2.1 39 = .ok (.invokevirtual 112, 3) := by decide +kernel
theorem d_Need_back_42 : decode m_Need_back.2.1 42 = .ok (.aload_n 0, 1) := by decide +kernel
theorem d_Need_back_43 : decode m_Need_back.2.1 43 = .ok (.invokevirtual 115, 3) := by decide +kernel
theorem d_Need_back_46 : decode m_Need_back.2.1 46 = .ok (.aload_n 0, 1) := by decide +kernel
theorem d_Need_back_47 : decode m_Need_back.2.1 47 = .ok (.getfield 28, 3) := by decide +kernel
theorem d_Need_back_50 : decode m_Need_back.2.1 50 = .ok (.getfield 101, 3) := by decide +kernel
theorem d_Need_back_53 : decode m_Need_back.2.1 53 = .ok (.getfield 118, 3) := by decide +kernel
theorem d_Need_back_56 : decode m_Need_back.2.1 56 = .ok (.ireturn, 1) := by decide +kernel
theorem d_Need_asked_0 : decode m_Need_asked.2.1 0 = .ok (.aload_n 0, 1) := by decide +kernel
theorem d_Need_asked_1 : decode m_Need_asked.2.1 1 = .ok (.getfield 218, 3) := by decide +kernel
theorem d_Need_asked_4 : decode m_Need_asked.2.1 4 = .ok (.ireturn, 1) := by decide +kernel
theorem d_Need_trapped_0 : decode m_Need_trapped.2.1 0 = .ok (.aload_n 0, 1) := by decide +kernel
theorem d_Need_trapped_1 : decode m_Need_trapped.2.1 1 = .ok (.getfield 80, 3) := by decide +kernel
theorem d_Need_trapped_4 : decode m_Need_trapped.2.1 4 = .ok (.ireturn, 1) := by decide +kernel
theorem d_Need_count_0 : decode m_Need_count.2.1 0 = .ok (.iload_n 1, 1) := by decide +kernel
theorem d_Need_count_1 : decode m_Need_count.2.1 1 = .ok (.tableswitch 143 0 8 #[51, 62, 74, 86, 98, 110, 122, 130, 135], 51) := by decide +kernel
theorem d_Need_count_52 : decode m_Need_count.2.1 52 = .ok (.aload_n 0, 1) := by decide +kernel
theorem d_Need_count_53 : decode m_Need_count.2.1 53 = .ok (.getfield 28, 3) := by decide +kernel
theorem d_Need_count_56 : decode m_Need_count.2.1 56 = .ok (.getfield 101, 3) := by decide +kernel
theorem d_Need_count_59 : decode m_Need_count.2.1 59 = .ok (.getfield 118, 3) := by decide +kernel
theorem d_Need_count_62 : decode m_Need_count.2.1 62 = .ok (.ireturn, 1) := by decide +kernel
theorem d_Need_count_63 : decode m_Need_count.2.1 63 = .ok (.aload_n 0, 1) := by decide +kernel
theorem d_Need_count_64 : decode m_Need_count.2.1 64 = .ok (.getfield 28, 3) := by decide +kernel
theorem d_Need_count_67 : decode m_Need_count.2.1 67 = .ok (.getfield 84, 3) := by decide +kernel
theorem d_Need_count_70 : decode m_Need_count.2.1 70 = .ok (.iconst 0, 1) := by decide +kernel
theorem d_Need_count_71 : decode m_Need_count.2.1 71 = .ok (.invokevirtual 128, 3) := by decide +kernel
theorem d_Need_count_74 : decode m_Need_count.2.1 74 = .ok (.ireturn, 1) := by decide +kernel
theorem d_Need_count_75 : decode m_Need_count.2.1 75 = .ok (.aload_n 0, 1) := by decide +kernel
theorem d_Need_count_76 : decode m_Need_count.2.1 76 = .ok (.getfield 28, 3) := by decide +kernel
theorem d_Need_count_79 : decode m_Need_count.2.1 79 = .ok (.getfield 84, 3) := by decide +kernel
theorem d_Need_count_82 : decode m_Need_count.2.1 82 = .ok (.iconst 1, 1) := by decide +kernel
theorem d_Need_count_83 : decode m_Need_count.2.1 83 = .ok (.invokevirtual 128, 3) := by decide +kernel
theorem d_Need_count_86 : decode m_Need_count.2.1 86 = .ok (.ireturn, 1) := by decide +kernel
theorem d_Need_count_87 : decode m_Need_count.2.1 87 = .ok (.aload_n 0, 1) := by decide +kernel
theorem d_Need_count_88 : decode m_Need_count.2.1 88 = .ok (.getfield 28, 3) := by decide +kernel
theorem d_Need_count_91 : decode m_Need_count.2.1 91 = .ok (.getfield 84, 3) := by decide +kernel
theorem d_Need_count_94 : decode m_Need_count.2.1 94 = .ok (.iconst 2, 1) := by decide +kernel
theorem d_Need_count_95 : decode m_Need_count.2.1 95 = .ok (.invokevirtual 128, 3) := by decide +kernel
theorem d_Need_count_98 : decode m_Need_count.2.1 98 = .ok (.ireturn, 1) := by decide +kernel
theorem d_Need_count_99 : decode m_Need_count.2.1 99 = .ok (.aload_n 0, 1) := by decide +kernel
theorem d_Need_count_100 : decode m_Need_count.2.1 100 = .ok (.getfield 28, 3) := by decide +kernel
theorem d_Need_count_103 : decode m_Need_count.2.1 103 = .ok (.getfield 84, 3) := by decide +kernel
theorem d_Need_count_106 : decode m_Need_count.2.1 106 = .ok (.iconst 3, 1) := by decide +kernel
theorem d_Need_count_107 : decode m_Need_count.2.1 107 = .ok (.invokevirtual 128, 3) := by decide +kernel
theorem d_Need_count_110 : decode m_Need_count.2.1 110 = .ok (.ireturn, 1) := by decide +kernel
theorem d_Need_count_111 : decode m_Need_count.2.1 111 = .ok (.aload_n 0, 1) := by decide +kernel
theorem d_Need_count_112 : decode m_Need_count.2.1 112 = .ok (.getfield 28, 3) := by decide +kernel
theorem d_Need_count_115 : decode m_Need_count.2.1 115 = .ok (.getfield 84, 3) := by decide +kernel
theorem d_Need_count_118 : decode m_Need_count.2.1 118 = .ok (.iconst 4, 1) := by decide +kernel
theorem d_Need_count_119 : decode m_Need_count.2.1 119 = .ok (.invokevirtual 128, 3) := by decide +kernel
theorem d_Need_count_122 : decode m_Need_count.2.1 122 = .ok (.ireturn, 1) := by decide +kernel
theorem d_Need_count_123 : decode m_Need_count.2.1 123 = .ok (.aload_n 0, 1) := by decide +kernel
theorem d_Need_count_124 : decode m_Need_count.2.1 124 = .ok (.getfield 76, 3) := by decide +kernel
theorem d_Need_count_127 : decode m_Need_count.2.1 127 = .ok (.getfield 249, 3) := by decide +kernel
theorem d_Need_count_130 : decode m_Need_count.2.1 130 = .ok (.ireturn, 1) := by decide +kernel
theorem d_Need_count_131 : decode m_Need_count.2.1 131 = .ok (.aload_n 0, 1) := by decide +kernel
theorem d_Need_count_132 : decode m_Need_count.2.1 132 = .ok (.getfield 91, 3) := by decide +kernel
theorem d_Need_count_135 : decode m_Need_count.2.1 135 = .ok (.ireturn, 1) := by decide +kernel
theorem d_Need_count_136 : decode m_Need_count.2.1 136 = .ok (.aload_n 0, 1) := by decide +kernel
theorem d_Need_count_137 : decode m_Need_count.2.1 137 = .ok (.getfield 48, 3) := by decide +kernel
theorem d_Need_count_140 : decode m_Need_count.2.1 140 = .ok (.getfield 231, 3) := by decide +kernel
theorem d_Need_count_143 : decode m_Need_count.2.1 143 = .ok (.ireturn, 1) := by decide +kernel
theorem d_Need_count_144 : decode m_Need_count.2.1 144 = .ok (.iconst (-1), 1) := by decide +kernel
theorem d_Need_count_145 : decode m_Need_count.2.1 145 = .ok (.ireturn, 1) := by decide +kernel
theorem d_Model_init_0 : decode m_Model_init.2.1 0 = .ok (.aload_n 0, 1) := by decide +kernel
theorem d_Model_init_1 : decode m_Model_init.2.1 1 = .ok (.invokespecial 1, 3) := by decide +kernel
theorem d_Model_init_4 : decode m_Model_init.2.1 4 = .ok (.aload_n 0, 1) := by decide +kernel
theorem d_Model_init_5 : decode m_Model_init.2.1 5 = .ok (.bipush 60, 2) := by decide +kernel
theorem d_Model_init_7 : decode m_Model_init.2.1 7 = .ok (.newarray .int, 2) := by decide +kernel
theorem d_Model_init_9 : decode m_Model_init.2.1 9 = .ok (.putfield 7, 3) := by decide +kernel
theorem d_Model_init_12 : decode m_Model_init.2.1 12 = .ok (.aload_n 0, 1) := by decide +kernel
theorem d_Model_init_13 : decode m_Model_init.2.1 13 = .ok (.sipush 138, 3) := by decide +kernel
theorem d_Model_init_16 : decode m_Model_init.2.1 16 = .ok (.newarray .int, 2) := by decide +kernel
theorem d_Model_init_18 : decode m_Model_init.2.1 18 = .ok (.putfield 13, 3) := by decide +kernel
theorem d_Model_init_21 : decode m_Model_init.2.1 21 = .ok (.aload_n 0, 1) := by decide +kernel
theorem d_Model_init_22 : decode m_Model_init.2.1 22 = .ok (.sipush 138, 3) := by decide +kernel
theorem d_Model_init_25 : decode m_Model_init.2.1 25 = .ok (.newarray .int, 2) := by decide +kernel
theorem d_Model_init_27 : decode m_Model_init.2.1 27 = .ok (.putfield 16, 3) := by decide +kernel
theorem d_Model_init_30 : decode m_Model_init.2.1 30 = .ok (.aload_n 0, 1) := by decide +kernel
theorem d_Model_init_31 : decode m_Model_init.2.1 31 = .ok (.sipush 138, 3) := by decide +kernel
theorem d_Model_init_34 : decode m_Model_init.2.1 34 = .ok (.newarray .int, 2) := by decide +kernel
theorem d_Model_init_36 : decode m_Model_init.2.1 36 = .ok (.putfield 19, 3) := by decide +kernel
theorem d_Model_init_39 : decode m_Model_init.2.1 39 = .ok (.aload_n 0, 1) := by decide +kernel
theorem d_Model_init_40 : decode m_Model_init.2.1 40 = .ok (.sipush 1380, 3) := by decide +kernel
theorem d_Model_init_43 : decode m_Model_init.2.1 43 = .ok (.newarray .int, 2) := by decide +kernel
theorem d_Model_init_45 : decode m_Model_init.2.1 45 = .ok (.putfield 22, 3) := by decide +kernel
theorem d_Model_init_48 : decode m_Model_init.2.1 48 = .ok (.aload_n 0, 1) := by decide +kernel
theorem d_Model_init_49 : decode m_Model_init.2.1 49 = .ok (.sipush 276, 3) := by decide +kernel
theorem d_Model_init_52 : decode m_Model_init.2.1 52 = .ok (.newarray .int, 2) := by decide +kernel
theorem d_Model_init_54 : decode m_Model_init.2.1 54 = .ok (.putfield 25, 3) := by decide +kernel
theorem d_Model_init_57 : decode m_Model_init.2.1 57 = .ok (.aload_n 0, 1) := by decide +kernel
theorem d_Model_init_58 : decode m_Model_init.2.1 58 = .ok (.iconst 2, 1) := by decide +kernel
theorem d_Model_init_59 : decode m_Model_init.2.1 59 = .ok (.newarray .boolean, 2) := by decide +kernel
theorem d_Model_init_61 : decode m_Model_init.2.1 61 = .ok (.putfield 28, 3) := by decide +kernel
theorem d_Model_init_64 : decode m_Model_init.2.1 64 = .ok (.aload_n 0, 1) := by decide +kernel
theorem d_Model_init_65 : decode m_Model_init.2.1 65 = .ok (.bipush 64, 2) := by decide +kernel
theorem d_Model_init_67 : decode m_Model_init.2.1 67 = .ok (.newarray .int, 2) := by decide +kernel
theorem d_Model_init_69 : decode m_Model_init.2.1 69 = .ok (.putfield 32, 3) := by decide +kernel
theorem d_Model_init_72 : decode m_Model_init.2.1 72 = .ok (.aload_n 0, 1) := by decide +kernel
theorem d_Model_init_73 : decode m_Model_init.2.1 73 = .ok (.bipush 64, 2) := by decide +kernel
theorem d_Model_init_75 : decode m_Model_init.2.1 75 = .ok (.newarray .int, 2) := by decide +kernel
theorem d_Model_init_77 : decode m_Model_init.2.1 77 = .ok (.putfield 35, 3) := by decide +kernel
theorem d_Model_init_80 : decode m_Model_init.2.1 80 = .ok (.aload_n 0, 1) := by decide +kernel
theorem d_Model_init_81 : decode m_Model_init.2.1 81 = .ok (.bipush 64, 2) := by decide +kernel
theorem d_Model_init_83 : decode m_Model_init.2.1 83 = .ok (.newarray .int, 2) := by decide +kernel
theorem d_Model_init_85 : decode m_Model_init.2.1 85 = .ok (.putfield 38, 3) := by decide +kernel
theorem d_Model_init_88 : decode m_Model_init.2.1 88 = .ok (.aload_n 0, 1) := by decide +kernel
theorem d_Model_init_89 : decode m_Model_init.2.1 89 = .ok (.bipush 31, 2) := by decide +kernel
theorem d_Model_init_91 : decode m_Model_init.2.1 91 = .ok (.newarray .boolean, 2) := by decide +kernel
theorem d_Model_init_93 : decode m_Model_init.2.1 93 = .ok (.putfield 41, 3) := by decide +kernel
theorem d_Model_init_96 : decode m_Model_init.2.1 96 = .ok (.aload_n 0, 1) := by decide +kernel
theorem d_Model_init_97 : decode m_Model_init.2.1 97 = .ok (.sipush 217, 3) := by decide +kernel
theorem d_Model_init_100 : decode m_Model_init.2.1 100 = .ok (.newarray .int, 2) := by decide +kernel
theorem d_Model_init_102 : decode m_Model_init.2.1 102 = .ok (.putfield 44, 3) := by decide +kernel
theorem d_Model_init_105 : decode m_Model_init.2.1 105 = .ok (.aload_n 0, 1) := by decide +kernel
theorem d_Model_init_106 : decode m_Model_init.2.1 106 = .ok (.sipush 217, 3) := by decide +kernel
theorem d_Model_init_109 : decode m_Model_init.2.1 109 = .ok (.newarray .int, 2) := by decide +kernel
theorem d_Model_init_111 : decode m_Model_init.2.1 111 = .ok (.putfield 47, 3) := by decide +kernel
theorem d_Model_init_114 : decode m_Model_init.2.1 114 = .ok (.aload_n 0, 1) := by decide +kernel
theorem d_Model_init_115 : decode m_Model_init.2.1 115 = .ok (.bipush 31, 2) := by decide +kernel
theorem d_Model_init_117 : decode m_Model_init.2.1 117 = .ok (.newarray .int, 2) := by decide +kernel
theorem d_Model_init_119 : decode m_Model_init.2.1 119 = .ok (.putfield 50, 3) := by decide +kernel
theorem d_Model_init_122 : decode m_Model_init.2.1 122 = .ok (.aload_n 0, 1) := by decide +kernel
theorem d_Model_init_123 : decode m_Model_init.2.1 123 = .ok (.sipush 1280, 3) := by decide +kernel
theorem d_Model_init_126 : decode m_Model_init.2.1 126 = .ok (.newarray .int, 2) := by decide +kernel
theorem d_Model_init_128 : decode m_Model_init.2.1 128 = .ok (.putfield 53, 3) := by decide +kernel
theorem d_Model_init_131 : decode m_Model_init.2.1 131 = .ok (.aload_n 0, 1) := by decide +kernel
theorem d_Model_init_132 : decode m_Model_init.2.1 132 = .ok (.sipush 640, 3) := by decide +kernel
theorem d_Model_init_135 : decode m_Model_init.2.1 135 = .ok (.newarray .int, 2) := by decide +kernel
theorem d_Model_init_137 : decode m_Model_init.2.1 137 = .ok (.putfield 56, 3) := by decide +kernel
theorem d_Model_init_140 : decode m_Model_init.2.1 140 = .ok (.aload_n 0, 1) := by decide +kernel
theorem d_Model_init_141 : decode m_Model_init.2.1 141 = .ok (.bipush 31, 2) := by decide +kernel
theorem d_Model_init_143 : decode m_Model_init.2.1 143 = .ok (.newarray .int, 2) := by decide +kernel
theorem d_Model_init_145 : decode m_Model_init.2.1 145 = .ok (.putfield 59, 3) := by decide +kernel
theorem d_Model_init_148 : decode m_Model_init.2.1 148 = .ok (.aload_n 0, 1) := by decide +kernel
theorem d_Model_init_149 : decode m_Model_init.2.1 149 = .ok (.bipush 8, 2) := by decide +kernel
theorem d_Model_init_151 : decode m_Model_init.2.1 151 = .ok (.newarray .int, 2) := by decide +kernel
theorem d_Model_init_153 : decode m_Model_init.2.1 153 = .ok (.putfield 62, 3) := by decide +kernel
theorem d_Model_init_156 : decode m_Model_init.2.1 156 = .ok (.aload_n 0, 1) := by decide +kernel
theorem d_Model_init_157 : decode m_Model_init.2.1 157 = .ok (.bipush 32, 2) := by decide +kernel
theorem d_Model_init_159 : decode m_Model_init.2.1 159 = .ok (.newarray .int, 2) := by decide +kernel
theorem d_Model_init_161 : decode m_Model_init.2.1 161 = .ok (.putfield 65, 3) := by decide +kernel
theorem d_Model_init_164 : decode m_Model_init.2.1 164 = .ok (.aload_n 0, 1) := by decide +kernel
theorem d_Model_init_165 : decode m_Model_init.2.1 165 = .ok (.bipush 31, 2) := by decide +kernel
theorem d_Model_init_167 : decode m_Model_init.2.1 167 = .ok (.newarray .int, 2) := by decide +kernel
theorem d_Model_init_169 : decode m_Model_init.2.1 169 = .ok (.putfield 68, 3) := by decide +kernel
theorem d_Model_init_172 : decode m_Model_init.2.1 172 = .ok (.aload_n 0, 1) := by decide +kernel
theorem d_Model_init_173 : decode m_Model_init.2.1 173 = .ok (.bipush (-9), 2) := by decide +kernel
theorem d_Model_init_175 : decode m_Model_init.2.1 175 = .ok (.putfield 71, 3) := by decide +kernel
theorem d_Model_init_178 : decode m_Model_init.2.1 178 = .ok (.aload_n 0, 1) := by decide +kernel
theorem d_Model_init_179 : decode m_Model_init.2.1 179 = .ok (.getfield 16, 3) := by decide +kernel
theorem d_Model_init_182 : decode m_Model_init.2.1 182 = .ok (.sipush 133, 3) := by decide +kernel
theorem d_Model_init_185 : decode m_Model_init.2.1 185 = .ok (.iconst 3, 1) := by decide +kernel
theorem d_Model_init_186 : decode m_Model_init.2.1 186 = .ok (.iastore, 1) := by decide +kernel
theorem d_Model_init_187 : decode m_Model_init.2.1 187 = .ok (.aload_n 0, 1) := by decide +kernel
theorem d_Model_init_188 : decode m_Model_init.2.1 188 = .ok (.getfield 16, 3) := by decide +kernel
theorem d_Model_init_191 : decode m_Model_init.2.1 191 = .ok (.sipush 134, 3) := by decide +kernel
theorem d_Model_init_194 : decode m_Model_init.2.1 194 = .ok (.iconst 3, 1) := by decide +kernel
theorem d_Model_init_195 : decode m_Model_init.2.1 195 = .ok (.iastore, 1) := by decide +kernel
theorem d_Model_init_196 : decode m_Model_init.2.1 196 = .ok (.aload_n 0, 1) := by decide +kernel
theorem d_Model_init_197 : decode m_Model_init.2.1 197 = .ok (.getfield 16, 3) := by decide +kernel
theorem d_Model_init_200 : decode m_Model_init.2.1 200 = .ok (.sipush 135, 3) := by decide +kernel
theorem d_Model_init_203 : decode m_Model_init.2.1 203 = .ok (.iconst 3, 1) := by decide +kernel
theorem d_Model_init_204 : decode m_Model_init.2.1 204 = .ok (.iastore, 1) := by decide +kernel
theorem d_Model_init_205 : decode m_Model_init.2.1 205 = .ok (.aload_n 0, 1) := by decide +kernel
theorem d_Model_init_206 : decode m_Model_init.2.1 206 = .ok (.getfield 16, 3) := by decide +kernel
theorem d_Model_init_209 : decode m_Model_init.2.1 209 = .ok (.sipush 136, 3) := by decide +kernel
theorem d_Model_init_212 : decode m_Model_init.2.1 212 = .ok (.iconst 1, 1) := by decide +kernel
theorem d_Model_init_213 : decode m_Model_init.2.1 213 = .ok (.iastore, 1) := by decide +kernel
theorem d_Model_init_214 : decode m_Model_init.2.1 214 = .ok (.aload_n 0, 1) := by decide +kernel
theorem d_Model_init_215 : decode m_Model_init.2.1 215 = .ok (.getfield 16, 3) := by decide +kernel
theorem d_Model_init_218 : decode m_Model_init.2.1 218 = .ok (.sipush 137, 3) := by decide +kernel
theorem d_Model_init_221 : decode m_Model_init.2.1 221 = .ok (.iconst 2, 1) := by decide +kernel
theorem d_Model_init_222 : decode m_Model_init.2.1 222 = .ok (.iastore, 1) := by decide +kernel
theorem d_Model_init_223 : decode m_Model_init.2.1 223 = .ok (.return_, 1) := by decide +kernel
theorem d_Model_type_0 : decode m_Model_type.2.1 0 = .ok (.aload_n 0, 1) := by decide +kernel
theorem d_Model_type_1 : decode m_Model_type.2.1 1 = .ok (.iconst 0, 1) := by decide +kernel
theorem d_Model_type_2 : decode m_Model_type.2.1 2 = .ok (.putfield 75, 3) := by decide +kernel
theorem d_Model_type_5 : decode m_Model_type.2.1 5 = .ok (.iload_n 1, 1) := by decide +kernel
theorem d_Model_type_6 : decode m_Model_type.2.1 6 = .ok (.iconst 0, 1) := by decide +kernel
theorem d_Model_type_7 : decode m_Model_type.2.1 7 = .ok (.sipush 255, 3) := by decide +kernel
theorem d_Model_type_10 : decode m_Model_type.2.1 10 = .ok (.invokestatic 78, 3) := by decide +kernel
theorem d_Model_type_13 : decode m_Model_type.2.1 13 = .ok (.ifCond .ne 5, 3) := by decide +kernel
theorem d_Model_type_16 : decode m_Model_type.2.1 16 = .ok (.iconst (-1), 1) := by decide +kernel
theorem d_Model_type_17 : decode m_Model_type.2.1 17 = .ok (.ireturn, 1) := by decide +kernel
theorem d_Model_type_18 : decode m_Model_type.2.1 18 = .ok (.aload_n 0, 1) := by decide +kernel
theorem d_Model_type_19 : decode m_Model_type.2.1 19 = .ok (.getfield 82, 3) := by decide +kernel
theorem d_Model_type_22 : decode m_Model_type.2.1 22 = .ok (.bipush 60, 2) := by decide +kernel
theorem d_Model_type_24 : decode m_Model_type.2.1 24 = .ok (.if_icmp .ne 6, 3) := by decide +kernel
theorem d_Model_type_27 : decode m_Model_type.2.1 27 = .ok (.bipush (-3), 2) := by decide +kernel
theorem d_Model_type_29 : decode m_Model_type.2.1 29 = .ok (.ireturn, 1) := by decide +kernel
theorem d_Model_type_30 : decode m_Model_type.2.1 30 = .ok (.aload_n 0, 1) := by decide +kernel
theorem d_Model_type_31 : decode m_Model_type.2.1 31 = .ok (.getfield 7, 3) := by decide +kernel
theorem d_Model_type_34 : decode m_Model_type.2.1 34 = .ok (.aload_n 0, 1) := by decide +kernel
theorem d_Model_type_35 : decode m_Model_type.2.1 35 = .ok (.getfield 82, 3) := by decide +kernel
theorem d_Model_type_38 : decode m_Model_type.2.1 38 = .ok (.iload_n 1, 1) := by decide +kernel
theorem d_Model_type_39 : decode m_Model_type.2.1 39 = .ok (.iastore, 1) := by decide +kernel
theorem d_Model_type_40 : decode m_Model_type.2.1 40 = .ok (.aload_n 0, 1) := by decide +kernel
theorem d_Model_type_41 : decode m_Model_type.2.1 41 = .ok (.dup, 1) := by decide +kernel
theorem d_Model_type_42 : decode m_Model_type.2.1 42 = .ok (.getfield 82, 3) := by decide +kernel
theorem d_Model_type_45 : decode m_Model_type.2.1 45 = .ok (.iconst 1, 1) := by decide +kernel
theorem d_Model_type_46 : decode m_Model_type.2.1 46 = .ok (.iadd, 1) := by decide +kernel
theorem d_Model_type_47 : decode m_Model_type.2.1 47 = .ok (.putfield 82, 3) := by decide +kernel
theorem d_Model_type_50 : decode m_Model_type.2.1 50 = .ok (.aload_n 0, 1) := by decide +kernel
theorem d_Model_type_51 : decode m_Model_type.2.1 51 = .ok (.getfield 82, 3) := by decide +kernel
theorem d_Model_type_54 : decode m_Model_type.2.1 54 = .ok (.ireturn, 1) := by decide +kernel
theorem d_Model_in_0 : decode m_Model_in.2.1 0 = .ok (.iload_n 0, 1) := by decide +kernel
theorem d_Model_in_1 : decode m_Model_in.2.1 1 = .ok (.iload_n 1, 1) := by decide +kernel
theorem d_Model_in_2 : decode m_Model_in.2.1 2 = .ok (.if_icmp .lt 12, 3) := by decide +kernel
theorem d_Model_in_5 : decode m_Model_in.2.1 5 = .ok (.iload_n 0, 1) := by decide +kernel
theorem d_Model_in_6 : decode m_Model_in.2.1 6 = .ok (.iload_n 2, 1) := by decide +kernel
theorem d_Model_in_7 : decode m_Model_in.2.1 7 = .ok (.if_icmp .gt 7, 3) := by decide +kernel
theorem d_Model_in_10 : decode m_Model_in.2.1 10 = .ok (.iconst 1, 1) := by decide +kernel
theorem d_Model_in_11 : decode m_Model_in.2.1 11 = .ok (.goto 4, 3) := by decide +kernel
theorem d_Model_in_14 : decode m_Model_in.2.1 14 = .ok (.iconst 0, 1) := by decide +kernel
theorem d_Model_in_15 : decode m_Model_in.2.1 15 = .ok (.ireturn, 1) := by decide +kernel
theorem d_Model_clear_0 : decode m_Model_clear.2.1 0 = .ok (.aload_n 0, 1) := by decide +kernel
theorem d_Model_clear_1 : decode m_Model_clear.2.1 1 = .ok (.iconst 0, 1) := by decide +kernel
theorem d_Model_clear_2 : decode m_Model_clear.2.1 2 = .ok (.putfield 75, 3) := by decide +kernel
theorem d_Model_clear_5 : decode m_Model_clear.2.1 5 = .ok (.aload_n 0, 1) := by decide +kernel
theorem d_Model_clear_6 : decode m_Model_clear.2.1 6 = .ok (.getfield 82, 3) := by decide +kernel
theorem d_Model_clear_9 : decode m_Model_clear.2.1 9 = .ok (.istore_n 1, 1) := by decide +kernel
theorem d_Model_clear_10 : decode m_Model_clear.2.1 10 = .ok (.aload_n 0, 1) := by decide +kernel
theorem d_Model_clear_11 : decode m_Model_clear.2.1 11 = .ok (.iconst 0, 1) := by decide +kernel
theorem d_Model_clear_12 : decode m_Model_clear.2.1 12 = .ok (.putfield 82, 3) := by decide +kernel
theorem d_Model_clear_15 : decode m_Model_clear.2.1 15 = .ok (.iload_n 1, 1) := by decide +kernel
theorem d_Model_clear_16 : decode m_Model_clear.2.1 16 = .ok (.ireturn, 1) := by decide +kernel
theorem d_Model_tree_0 : decode m_Model_tree.2.1 0 = .ok (.aload_n 0, 1) := by decide +kernel
theorem d_Model_tree_1 : decode m_Model_tree.2.1 1 = .ok (.iconst 0, 1) := by decide +kernel
theorem d_Model_tree_2 : decode m_Model_tree.2.1 2 = .ok (.putfield 75, 3) := by decide +kernel
theorem d_Model_tree_5 : decode m_Model_tree.2.1 5 = .ok (.aload_n 0, 1) := by decide +kernel
theorem d_Model_tree_6 : decode m_Model_tree.2.1 6 = .ok (.iconst (-1), 1) := by decide +kernel
theorem d_Model_tree_7 : decode m_Model_tree.2.1 7 = .ok (.putfield 92, 3) := by decide +kernel
theorem d_Model_tree_10 : decode m_Model_tree.2.1 10 = .ok (.aload_n 0, 1) := by decide +kernel
theorem d_Model_tree_11 : decode m_Model_tree.2.1 11 = .ok (.iconst 0, 1) := by decide +kernel
theorem d_Model_tree_12 : decode m_Model_tree.2.1 12 = .ok (.putfield 85, 3) := by decide +kernel
theorem d_Model_tree_15 : decode m_Model_tree.2.1 15 = .ok (.aload_n 0, 1) := by decide +kernel
theorem d_Model_tree_16 : decode m_Model_tree.2.1 16 = .ok (.iconst 0, 1) := by decide +kernel
theorem d_Model_tree_17 : decode m_Model_tree.2.1 17 = .ok (.putfield 95, 3) := by decide +kernel
theorem d_Model_tree_20 : decode m_Model_tree.2.1 20 = .ok (.aload_n 0, 1) := by decide +kernel
theorem d_Model_tree_21 : decode m_Model_tree.2.1 21 = .ok (.iconst 0, 1) := by decide +kernel
theorem d_Model_tree_22 : decode m_Model_tree.2.1 22 = .ok (.putfield 98, 3) := by decide +kernel
theorem d_Model_tree_25 : decode m_Model_tree.2.1 25 = .ok (.aload_n 0, 1) := by decide +kernel
theorem d_Model_tree_26 : decode m_Model_tree.2.1 26 = .ok (.getfield 13, 3) := by decide +kernel
theorem d_Model_tree_29 : decode m_Model_tree.2.1 29 = .ok (.iconst 0, 1) := by decide +kernel
theorem d_Model_tree_30 : decode m_Model_tree.2.1 30 = .ok (.iconst 0, 1) := by decide +kernel
theorem d_Model_tree_31 : decode m_Model_tree.2.1 31 = .ok (.iastore, 1) := by decide +kernel
theorem d_Model_tree_32 : decode m_Model_tree.2.1 32 = .ok (.iconst 1, 1) := by decide +kernel
theorem d_Model_tree_33 : decode m_Model_tree.2.1 33 = .ok (.istore_n 1, 1) := by decide +kernel
theorem d_Model_tree_34 : decode m_Model_tree.2.1 34 = .ok (.iconst 1, 1) := by decide +kernel
theorem d_Model_tree_35 : decode m_Model_tree.2.1 35 = .ok (.istore_n 2, 1) := by decide +kernel
theorem d_Model_tree_36 : decode m_Model_tree.2.1 36 = .ok (.aload_n 0, 1) := by decide +kernel
theorem d_Model_tree_37 : decode m_Model_tree.2.1 37 = .ok (.invokevirtual 105, 3) := by decide +kernel
theorem d_Model_tree_40 : decode m_Model_tree.2.1 40 = .ok (.ifCond .eq 77, 3) := by decide +kernel
theorem d_Model_tree_43 : decode m_Model_tree.2.1 43 = .ok (.iload_n 2, 1) := by decide +kernel
theorem d_Model_tree_44 : decode m_Model_tree.2.1 44 = .ok (.ifCond .eq 73, 3) := by decide +kernel
theorem d_Model_tree_47 : decode m_Model_tree.2.1 47 = .ok (.aload_n 0, 1) := by decide +kernel
theorem d_Model_tree_48 : decode m_Model_tree.2.1 48 = .ok (.invokevirtual 133, 3) := by decide +kernel
theorem d_Model_tree_51 : decode m_Model_tree.2.1 51 = .ok (.iload_n 1, 1) := by decide +kernel
theorem d_Model_tree_52 : decode m_Model_tree.2.1 52 = .ok (.ifCond .eq 34, 3) := by decide +kernel
theorem d_Model_tree_55 : decode m_Model_tree.2.1 55 = .ok (.aload_n 0, 1) := by decide +kernel
theorem d_Model_tree_56 : decode m_Model_tree.2.1 56 = .ok (.invokevirtual 136, 3) := by decide +kernel
theorem d_Model_tree_59 : decode m_Model_tree.2.1 59 = .ok (.ifCond .ne 7, 3) := by decide +kernel
theorem d_Model_tree_62 : decode m_Model_tree.2.1 62 = .ok (.iconst 1, 1) := by decide +kernel
theorem d_Model_tree_63 : decode m_Model_tree.2.1 63 = .ok (.goto 4, 3) := by decide +kernel
theorem d_Model_tree_66 : decode m_Model_tree.2.1 66 = .ok (.iconst 0, 1) := by decide +kernel
theorem d_Model_tree_67 : decode m_Model_tree.2.1 67 = .ok (.istore_n 1, 1) := by decide +kernel
theorem d_Model_tree_68 : decode m_Model_tree.2.1 68 = .ok (.iload_n 1, 1) := by decide +kernel
theorem d_Model_tree_69 : decode m_Model_tree.2.1 69 = .ok (.ifCond .ne (-33), 3) := by decide +kernel
theorem d_Model_tree_72 : decode m_Model_tree.2.1 72 = .ok (.aload_n 0, 1) := by decide +kernel
theorem d_Model_tree_73 : decode m_Model_tree.2.1 73 = .ok (.invokevirtual 105, 3) := by decide +kernel
theorem d_Model_tree_76 : decode m_Model_tree.2.1 76 = .ok (.ifCond .eq (-40), 3) := by decide +kernel
theorem d_Model_tree_79 : decode m_Model_tree.2.1 79 = .ok (.aload_n 0, 1) := by decide +kernel
theorem d_Model_tree_80 : decode m_Model_tree.2.1 80 = .ok (.invokevirtual 130, 3) := by decide +kernel
theorem d_Model_tree_83 : decode m_Model_tree.2.1 83 = .ok (.goto (-47), 3) := by decide +kernel
theorem d_Model_tree_86 : decode m_Model_tree.2.1 86 = .ok (.aload_n 0, 1) := by decide +kernel
theorem d_Model_tree_87 : decode m_Model_tree.2.1 87 = .ok (.getfield 85, 3) := by decide +kernel
theorem d_Model_tree_90 : decode m_Model_tree.2.1 90 = .ok (.istore_n 3, 1) := by decide +kernel
theorem d_Model_tree_91 : decode m_Model_tree.2.1 91 = .ok (.aload_n 0, 1) := by decide +kernel
theorem d_Model_tree_92 : decode m_Model_tree.2.1 92 = .ok (.invokevirtual 139, 3) := by decide +kernel
theorem d_Model_tree_95 : decode m_Model_tree.2.1 95 = .ok (.istore_n 1, 1) := by decide +kernel
theorem d_Model_tree_96 : decode m_Model_tree.2.1 96 = .ok (.iload_n 1, 1) := by decide +kernel
theorem d_Model_tree_97 : decode m_Model_tree.2.1 97 = .ok (.ifCond .ne 11, 3) := by decide +kernel
theorem d_Model_tree_100 : decode m_Model_tree.2.1 100 = .ok (.aload_n 0, 1) := by decide +kernel
theorem d_Model_tree_101 : decode m_Model_tree.2.1 101 = .ok (.getfield 85, 3) := by decide +kernel
theorem d_Model_tree_104 : decode m_Model_tree.2.1 104 = .ok (.iload_n 3, 1) := by decide +kernel
theorem d_Model_tree_105 : decode m_Model_tree.2.1 105 = .ok (.if_icmp .le 7, 3) := by decide +kernel
theorem d_Model_tree_108 : decode m_Model_tree.2.1 108 = .ok (.iconst 1, 1) := by decide +kernel
theorem d_Model_tree_109 : decode m_Model_tree.2.1 109 = .ok (.goto 4, 3) := by decide +kernel
theorem d_Model_tree_112 : decode m_Model_tree.2.1 112 = .ok (.iconst 0, 1) := by decide +kernel
theorem d_Model_tree_113 : decode m_Model_tree.2.1 113 = .ok (.istore_n 2, 1) := by decide +kernel
theorem d_Model_tree_114 : decode m_Model_tree.2.1 114 = .ok (.goto (-78), 3) := by decide +kernel
theorem d_Model_tree_117 : decode m_Model_tree.2.1 117 = .ok (.aload_n 0, 1) := by decide +kernel
theorem d_Model_tree_118 : decode m_Model_tree.2.1 118 = .ok (.invokevirtual 105, 3) := by decide +kernel
theorem d_Model_tree_121 : decode m_Model_tree.2.1 121 = .ok (.ifCond .ne 11, 3) := by decide +kernel
theorem d_Model_tree_124 : decode m_Model_tree.2.1 124 = .ok (.bipush (-10), 2) := by decide +kernel
theorem d_Model_tree_126 : decode m_Model_tree.2.1 126 = .ok (.aload_n 0, 1) := by decide +kernel
theorem d_Model_tree_127 : decode m_Model_tree.2.1 127 = .ok (.getfield 92, 3) := by decide +kernel
theorem d_Model_tree_130 : decode m_Model_tree.2.1 130 = .ok (.isub, 1) := by decide +kernel
theorem d_Model_tree_131 : decode m_Model_tree.2.1 131 = .ok (.ireturn, 1) := by decide +kernel
theorem d_Model_tree_132 : decode m_Model_tree.2.1 132 = .ok (.iconst 0, 1) := by decide +kernel
theorem d_Model_tree_133 : decode m_Model_tree.2.1 133 = .ok (.istore_n 3, 1) := by decide +kernel
theorem d_Model_tree_134 : decode m_Model_tree.2.1 134 = .ok (.iload_n 3, 1) := by decide +kernel
theorem d_Model_tree_135 : decode m_Model_tree.2.1 135 = .ok (.bipush 125, 2) := by decide +kernel
theorem d_Model_tree_137 : decode m_Model_tree.2.1 137 = .ok (.if_icmp .ge 21, 3) := by decide +kernel
theorem d_Model_tree_140 : decode m_Model_tree.2.1 140 = .ok (.aload_n 0, 1) := by decide +kernel
theorem d_Model_tree_141 : decode m_Model_tree.2.1 141 = .ok (.getfield 16, 3) := by decide +kernel
theorem d_Model_tree_144 : decode m_Model_tree.2.1 144 = .ok (.iload_n 3, 1) := by decide +kernel
theorem d_Model_tree_145 : decode m_Model_tree.2.1 145 = .ok (.aload_n 0, 1) := by decide +kernel
theorem d_Model_tree_146 : decode m_Model_tree.2.1 146 = .ok (.getfield 13, 3) := by decide +kernel
theorem d_Model_tree_149 : decode m_Model_tree.2.1 149 = .ok (.iload_n 3, 1) := by decide +kernel
theorem d_Model_tree_150 : decode m_Model_tree.2.1 150 = .ok (.iaload, 1) := by decide +kernel
theorem d_Model_tree_151 : decode m_Model_tree.2.1 151 = .ok (.iastore, 1) := by decide +kernel
theorem d_Model_tree_152 : decode m_Model_tree.2.1 152 = .ok (.iinc 3 1, 3) := by decide +kernel
theorem d_Model_tree_155 : decode m_Model_tree.2.1 155 = .ok (.goto (-21), 3) := by decide +kernel
theorem d_Model_tree_158 : decode m_Model_tree.2.1 158 = .ok (.aload_n 0, 1) := by decide +kernel
theorem d_Model_tree_159 : decode m_Model_tree.2.1 159 = .ok (.iconst 0, 1) := by decide +kernel
theorem d_Model_tree_160 : decode m_Model_tree.2.1 160 = .ok (.putfield 82, 3) := by decide +kernel
theorem d_Model_tree_163 : decode m_Model_tree.2.1 163 = .ok (.aload_n 0, 1) := by decide +kernel
theorem d_Model_tree_164 : decode m_Model_tree.2.1 164 = .ok (.iconst 0, 1) := by decide +kernel
theorem d_Model_tree_165 : decode m_Model_tree.2.1 165 = .ok (.putfield 142, 3) := by decide +kernel
theorem d_Model_tree_168 : decode m_Model_tree.2.1 168 = .ok (.aload_n 0, 1) := by decide +kernel
theorem d_Model_tree_169 : decode m_Model_tree.2.1 169 = .ok (.getfield 28, 3) := by decide +kernel
theorem d_Model_tree_172 : decode m_Model_tree.2.1 172 = .ok (.iconst 0, 1) := by decide +kernel
theorem d_Model_tree_173 : decode m_Model_tree.2.1 173 = .ok (.iconst 0, 1) := by decide +kernel
theorem d_Model_tree_174 : decode m_Model_tree.2.1 174 = .ok (.bastore, 1) := by decide +kernel
theorem d_Model_tree_175 : decode m_Model_tree.2.1 175 = .ok (.aload_n 0, 1) := by decide +kernel
theorem d_Model_tree_176 : decode m_Model_tree.2.1 176 = .ok (.getfield 28, 3) := by decide +kernel
theorem d_Model_tree_179 : decode m_Model_tree.2.1 179 = .ok (.iconst 1, 1) := by decide +kernel
theorem d_Model_tree_180 : decode m_Model_tree.2.1 180 = .ok (.iconst 0, 1) := by decide +kernel
theorem d_Model_tree_181 : decode m_Model_tree.2.1 181 = .ok (.bastore, 1) := by decide +kernel
theorem d_Model_tree_182 : decode m_Model_tree.2.1 182 = .ok (.aload_n 0, 1) := by decide +kernel
theorem d_Model_tree_183 : decode m_Model_tree.2.1 183 = .ok (.getfield 16, 3) := by decide +kernel
theorem d_Model_tree_186 : decode m_Model_tree.2.1 186 = .ok (.iconst 0, 1) := by decide +kernel
theorem d_Model_tree_187 : decode m_Model_tree.2.1 187 = .ok (.iaload, 1) := by decide +kernel
theorem d_Model_tree_188 : decode m_Model_tree.2.1 188 = .ok (.ireturn, 1) := by decide +kernel
theorem d_Model_isWell_0 : decode m_Model_isWell.2.1 0 = .ok (.aload_n 0, 1) := by decide +kernel
theorem d_Model_isWell_1 : decode m_Model_isWell.2.1 1 = .ok (.getfield 92, 3) := by decide +kernel
theorem d_Model_isWell_4 : decode m_Model_isWell.2.1 4 = .ok (.ifCond .ge 7, 3) := by decide +kernel
theorem d_Model_isWell_7 : decode m_Model_isWell.2.1 7 = .ok (.iconst 1, 1) := by decide +kernel
theorem d_Model_isWell_8 : decode m_Model_isWell.2.1 8 = .ok (.goto 4, 3) := by decide +kernel
theorem d_Model_isWell_11 : decode m_Model_isWell.2.1 11 = .ok (.iconst 0, 1) := by decide +kernel
theorem d_Model_isWell_12 : decode m_Model_isWell.2.1 12 = .ok (.ireturn, 1) := by decide +kernel
theorem d_Model_blanks_0 : decode m_Model_blanks.2.1 0 = .ok (.aload_n 0, 1) := by decide +kernel
theorem d_Model_blanks_1 : decode m_Model_blanks.2.1 1 = .ok (.aload_n 0, 1) := by decide +kernel
theorem d_Model_blanks_2 : decode m_Model_blanks.2.1 2 = .ok (.getfield 85, 3) := by decide +kernel
theorem d_Model_blanks_5 : decode m_Model_blanks.2.1 5 = .ok (.invokevirtual 88, 3) := by decide +kernel
theorem d_Model_blanks_8 : decode m_Model_blanks.2.1 8 = .ok (.bipush 32, 2) := by decide +kernel
theorem d_Model_blanks_10 : decode m_Model_blanks.2.1 10 = .ok (.if_icmp .ne 16, 3) := by decide +kernel
theorem d_Model_blanks_13 : decode m_Model_blanks.2.1 13 = .ok (.aload_n 0, 1) := by decide +kernel
theorem d_Model_blanks_14 : decode m_Model_blanks.2.1 14 = .ok (.dup, 1) := by decide +kernel
theorem d_Model_blanks_15 : decode m_Model_blanks.2.1 15 = .ok (.getfield 85, 3) := by decide +kernel
theorem d_Model_blanks_18 : decode m_Model_blanks.2.1 18 = .ok (.iconst 1, 1) := by decide +kernel
theorem d_Model_blanks_19 : decode m_Model_blanks.2.1 19 = .ok (.iadd, 1) := by decide +kernel
theorem d_Model_blanks_20 : decode m_Model_blanks.2.1 20 = .ok (.putfield 85, 3) := by decide +kernel
theorem d_Model_blanks_23 : decode m_Model_blanks.2.1 23 = .ok (.goto (-23), 3) := by decide +kernel
theorem d_Model_blanks_26 : decode m_Model_blanks.2.1 26 = .ok (.return_, 1) := by decide +kernel
theorem d_Model_letterAt_0 : decode m_Model_letterAt.2.1 0 = .ok (.iload_n 1, 1) := by decide +kernel
theorem d_Model_letterAt_1 : decode m_Model_letterAt.2.1 1 = .ok (.aload_n 0, 1) := by decide +kernel
theorem d_Model_letterAt_2 : decode m_Model_letterAt.2.1 2 = .ok (.getfield 82, 3) := by decide +kernel
theorem d_Model_letterAt_5 : decode m_Model_letterAt.2.1 5 = .ok (.if_icmp .ge 12, 3) := by decide +kernel
theorem d_Model_letterAt_8 : decode m_Model_letterAt.2.1 8 = .ok (.aload_n 0, 1) := by decide +kernel
theorem d_Model_letterAt_9 : decode m_Model_letterAt.2.1 9 = .ok (.getfield 7, 3) := by decide +kernel
theorem d_Model_letterAt_12 : decode m_Model_letterAt.2.1 12 = .ok (.iload_n 1, 1) := by decide +kernel
theorem d_Model_letterAt_13 : decode m_Model_letterAt.2.1 13 = .ok (.iaload, 1) := by decide +kernel
theorem d_Model_letterAt_14 : decode m_Model_letterAt.2.1 14 = .ok (.goto 4, 3) := by decide +kernel
theorem d_Model_letterAt_17 : decode m_Model_letterAt.2.1 17 = .ok (.iconst (-1), 1) := by decide +kernel
theorem d_Model_letterAt_18 : decode m_Model_letterAt.2.1 18 = .ok (.ireturn, 1) := by decide +kernel
theorem d_Model_readsPart_0 : decode m_Model_readsPart.2.1 0 = .ok (.aload_n 0, 1) := by decide +kernel
theorem d_Model_readsPart_1 : decode m_Model_readsPart.2.1 1 = .ok (.aload_n 0, 1) := by decide +kernel
theorem d_Model_readsPart_2 : decode m_Model_readsPart.2.1 2 = .ok (.getfield 85, 3) := by decide +kernel
theorem d_Model_readsPart_5 : decode m_Model_readsPart.2.1 5 = .ok (.invokevirtual 88, 3) := by decide +kernel
theorem d_Model_readsPart_8 : decode m_Model_readsPart.2.1 8 = .ok (.istore_n 1, 1) := by decide +kernel
theorem d_Model_readsPart_9 : decode m_Model_readsPart.2.1 9 = .ok (.iload_n 1, 1) := by decide +kernel
theorem d_Model_readsPart_10 : decode m_Model_readsPart.2.1 10 = .ok (.bipush 40, 2) := by decide +kernel
theorem d_Model_readsPart_12 : decode m_Model_readsPart.2.1 12 = .ok (.if_icmp .eq 9, 3) := by decide +kernel
theorem d_Model_readsPart_15 : decode m_Model_readsPart.2.1 15 = .ok (.iload_n 1, 1) := by decide +kernel
theorem d_Model_readsPart_16 : decode m_Model_readsPart.2.1 16 = .ok (.bipush 126, 2) := by decide +kernel
theorem d_Model_readsPart_18 : decode m_Model_readsPart.2.1 18 = .ok (.if_icmp .ne 20, 3) := by decide +kernel
theorem d_Model_readsPart_21 : decode m_Model_readsPart.2.1 21 = .ok (.aload_n 0, 1) := by decide +kernel
theorem d_Model_readsPart_22 : decode m_Model_readsPart.2.1 22 = .ok (.iload_n 1, 1) := by decide +kernel
theorem d_Model_readsPart_23 : decode m_Model_readsPart.2.1 23 = .ok (.bipush 40, 2) := by decide +kernel
theorem d_Model_readsPart_25 : decode m_Model_readsPart.2.1 25 = .ok (.if_icmp .ne 7, 3) := by decide +kernel
theorem d_Model_readsPart_28 : decode m_Model_readsPart.2.1 28 = .ok (.iconst 0, 1) := by decide +kernel
theorem d_Model_readsPart_29 : decode m_Model_readsPart.2.1 29 = .ok (.goto 4, 3) := by decide +kernel
theorem d_Model_readsPart_32 : decode m_Model_readsPart.2.1 32 = .ok (.iload_n 1, 1) := by decide +kernel
theorem d_Model_readsPart_33 : decode m_Model_readsPart.2.1 33 = .ok (.invokevirtual 120, 3) := by decide +kernel
theorem d_Model_readsPart_36 : decode m_Model_readsPart.2.1 36 = .ok (.iconst 0, 1) := by decide +kernel
theorem d_Model_readsPart_37 : decode m_Model_readsPart.2.1 37 = .ok (.ireturn, 1) := by decide +kernel
theorem d_Model_readsPart_38 : decode m_Model_readsPart.2.1 38 = .ok (.iload_n 1, 1) := by decide +kernel
theorem d_Model_readsPart_39 : decode m_Model_readsPart.2.1 39 = .ok (.bipush 48, 2) := by decide +kernel
theorem d_Model_readsPart_41 : decode m_Model_readsPart.2.1 41 = .ok (.bipush 57, 2) := by decide +kernel
theorem d_Model_readsPart_43 : decode m_Model_readsPart.2.1 43 = .ok (.invokestatic 78, 3) := by decide +kernel
theorem d_Model_readsPart_46 : decode m_Model_readsPart.2.1 46 = .ok (.ifCond .eq 10, 3) := by decide +kernel
theorem d_Model_readsPart_49 : decode m_Model_readsPart.2.1 49 = .ok (.aload_n 0, 1) := by decide +kernel
theorem d_Model_readsPart_50 : decode m_Model_readsPart.2.1 50 = .ok (.invokevirtual 124, 3) := by decide +kernel
theorem d_Model_readsPart_53 : decode m_Model_readsPart.2.1 53 = .ok (.goto 52, 3) := by decide +kernel
theorem d_Model_readsPart_56 : decode m_Model_readsPart.2.1 56 = .ok (.iload_n 1, 1) := by decide +kernel
theorem d_Model_readsPart_57 : decode m_Model_readsPart.2.1 57 = .ok (.bipush 97, 2) := by decide +kernel
theorem d_Model_readsPart_59 : decode m_Model_readsPart.2.1 59 = .ok (.bipush 104, 2) := by decide +kernel
theorem d_Model_readsPart_61 : decode m_Model_readsPart.2.1 61 = .ok (.invokestatic 78, 3) := by decide +kernel
theorem d_Model_readsPart_64 : decode m_Model_readsPart.2.1 64 = .ok (.ifCond .eq 33, 3) := by decide +kernel
theorem d_Model_readsPart_67 : decode m_Model_readsPart.2.1 67 = .ok (.aload_n 0, 1) := by decide +kernel
theorem d_Model_readsPart_68 : decode m_Model_readsPart.2.1 68 = .ok (.iload_n 1, 1) := by decide +kernel
theorem d_Model_readsPart_69 : decode m_Model_readsPart.2.1 69 = .ok (.iload_n 1, 1) := by decide +kernel
theorem d_Model_readsPart_70 : decode m_Model_readsPart.2.1 70 = .ok (.bipush 97, 2) := by decide +kernel
theorem d_Model_readsPart_72 : decode m_Model_readsPart.2.1 72 = .ok (.isub, 1) := by decide +kernel
theorem d_Model_readsPart_73 : decode m_Model_readsPart.2.1 73 = .ok (.bipush (-9), 2) := by decide +kernel
theorem d_Model_readsPart_75 : decode m_Model_readsPart.2.1 75 = .ok (.bipush (-9), 2) := by decide +kernel
theorem d_Model_readsPart_77 : decode m_Model_readsPart.2.1 77 = .ok (.aload_n 0, 1) := by decide +kernel
theorem d_Model_readsPart_78 : decode m_Model_readsPart.2.1 78 = .ok (.getfield 85, 3) := by decide +kernel
theorem d_Model_readsPart_81 : decode m_Model_readsPart.2.1 81 = .ok (.invokevirtual 101, 3) := by decide +kernel
theorem d_Model_readsPart_84 : decode m_Model_readsPart.2.1 84 = .ok (.aload_n 0, 1) := by decide +kernel
theorem d_Model_readsPart_85 : decode m_Model_readsPart.2.1 85 = .ok (.dup, 1) := by decide +kernel
theorem d_Model_readsPart_86 : decode m_Model_readsPart.2.1 86 = .ok (.getfield 85, 3) := by decide +kernel
theorem d_Model_readsPart_89 : decode m_Model_readsPart.2.1 89 = .ok (.iconst 1, 1) := by decide +kernel
theorem d_Model_readsPart_90 : decode m_Model_readsPart.2.1 90 = .ok (.iadd, 1) := by decide +kernel
theorem d_Model_readsPart_91 : decode m_Model_readsPart.2.1 91 = .ok (.putfield 85, 3) := by decide +kernel
theorem d_Model_readsPart_94 : decode m_Model_readsPart.2.1 94 = .ok (.goto 11, 3) := by decide +kernel
theorem d_Model_readsPart_97 : decode m_Model_readsPart.2.1 97 = .ok (.aload_n 0, 1) := by decide +kernel
theorem d_Model_readsPart_98 : decode m_Model_readsPart.2.1 98 = .ok (.aload_n 0, 1) := by decide +kernel
theorem d_Model_readsPart_99 : decode m_Model_readsPart.2.1 99 = .ok (.getfield 85, 3) := by decide +kernel
theorem d_Model_readsPart_102 : decode m_Model_readsPart.2.1 102 = .ok (.putfield 92, 3) := by decide +kernel
theorem d_Model_readsPart_105 : decode m_Model_readsPart.2.1 105 = .ok (.iconst 1, 1) := by decide +kernel
theorem d_Model_readsPart_106 : decode m_Model_readsPart.2.1 106 = .ok (.ireturn, 1) := by decide +kernel
theorem d_Model_waits_0 : decode m_Model_waits.2.1 0 = .ok (.aload_n 0, 1) := by decide +kernel
theorem d_Model_waits_1 : decode m_Model_waits.2.1 1 = .ok (.getfield 35, 3) := by decide +kernel
theorem d_Model_waits_4 : decode m_Model_waits.2.1 4 = .ok (.aload_n 0, 1) := by decide +kernel
theorem d_Model_waits_5 : decode m_Model_waits.2.1 5 = .ok (.getfield 98, 3) := by decide +kernel
theorem d_Model_waits_8 : decode m_Model_waits.2.1 8 = .ok (.iload_n 1, 1) := by decide +kernel
theorem d_Model_waits_9 : decode m_Model_waits.2.1 9 = .ok (.iastore, 1) := by decide +kernel
theorem d_Model_waits_10 : decode m_Model_waits.2.1 10 = .ok (.aload_n 0, 1) := by decide +kernel
theorem d_Model_waits_11 : decode m_Model_waits.2.1 11 = .ok (.getfield 38, 3) := by decide +kernel
theorem d_Model_waits_14 : decode m_Model_waits.2.1 14 = .ok (.aload_n 0, 1) := by decide +kernel
theorem d_Model_waits_15 : decode m_Model_waits.2.1 15 = .ok (.getfield 98, 3) := by decide +kernel
theorem d_Model_waits_18 : decode m_Model_waits.2.1 18 = .ok (.aload_n 0, 1) := by decide +kernel
theorem d_Model_waits_19 : decode m_Model_waits.2.1 19 = .ok (.getfield 85, 3) := by decide +kernel
theorem d_Model_waits_22 : decode m_Model_waits.2.1 22 = .ok (.iastore, 1) := by decide +kernel
theorem d_Model_waits_23 : decode m_Model_waits.2.1 23 = .ok (.aload_n 0, 1) := by decide +kernel
theorem d_Model_waits_24 : decode m_Model_waits.2.1 24 = .ok (.dup, 1) := by decide +kernel
theorem d_Model_waits_25 : decode m_Model_waits.2.1 25 = .ok (.getfield 98, 3) := by decide +kernel
theorem d_Model_waits_28 : decode m_Model_waits.2.1 28 = .ok (.iconst 1, 1) := by decide +kernel
theorem d_Model_waits_29 : decode m_Model_waits.2.1 29 = .ok (.iadd, 1) := by decide +kernel
theorem d_Model_waits_30 : decode m_Model_waits.2.1 30 = .ok (.putfield 98, 3) := by decide +kernel
theorem d_Model_waits_33 : decode m_Model_waits.2.1 33 = .ok (.aload_n 0, 1) := by decide +kernel
theorem d_Model_waits_34 : decode m_Model_waits.2.1 34 = .ok (.dup, 1) := by decide +kernel
theorem d_Model_waits_35 : decode m_Model_waits.2.1 35 = .ok (.getfield 85, 3) := by decide +kernel
theorem d_Model_waits_38 : decode m_Model_waits.2.1 38 = .ok (.iconst 1, 1) := by decide +kernel
theorem d_Model_waits_39 : decode m_Model_waits.2.1 39 = .ok (.iadd, 1) := by decide +kernel
theorem d_Model_waits_40 : decode m_Model_waits.2.1 40 = .ok (.putfield 85, 3) := by decide +kernel
theorem d_Model_waits_43 : decode m_Model_waits.2.1 43 = .ok (.return_, 1) := by decide +kernel
theorem d_Model_readsNumber_0 : decode m_Model_readsNumber.2.1 0 = .ok (.aload_n 0, 1) := by decide +kernel
theorem d_Model_readsNumber_1 : decode m_Model_readsNumber.2.1 1 = .ok (.getfield 85, 3) := by decide +kernel
theorem d_Model_readsNumber_4 : decode m_Model_readsNumber.2.1 4 = .ok (.istore_n 1, 1) := by decide +kernel
theorem d_Model_readsNumber_5 : decode m_Model_readsNumber.2.1 5 = .ok (.iconst 0, 1) := by decide +kernel
theorem d_Model_readsNumber_6 : decode m_Model_readsNumber.2.1 6 = .ok (.istore_n 2, 1) := by decide +kernel
theorem d_Model_readsNumber_7 : decode m_Model_readsNumber.2.1 7 = .ok (.aload_n 0, 1) := by decide +kernel
theorem d_Model_readsNumber_8 : decode m_Model_readsNumber.2.1 8 = .ok (.aload_n 0, 1) := by decide +kernel
theorem d_Model_readsNumber_9 : decode m_Model_readsNumber.2.1 9 = .ok (.getfield 85, 3) := by decide +kernel
theorem d_Model_readsNumber_12 : decode m_Model_readsNumber.2.1 12 = .ok (.invokevirtual 88, 3) := by decide +kernel
theorem d_Model_readsNumber_15 : decode m_Model_readsNumber.2.1 15 = .ok (.bipush 48, 2) := by decide +kernel
theorem d_Model_readsNumber_17 : decode m_Model_readsNumber.2.1 17 = .ok (.bipush 57, 2) := by decide +kernel
theorem d_Model_readsNumber_19 : decode m_Model_readsNumber.2.1 19 = .ok (.invokestatic 78, 3) := by decide +kernel
theorem d_Model_readsNumber_22 : decode m_Model_readsNumber.2.1 22 = .ok (.ifCond .eq 43, 3) := by decide +kernel
theorem d_Model_readsNumber_25 : decode m_Model_readsNumber.2.1 25 = .ok (.iload_n 2, 1) := by decide +kernel
theorem d_Model_readsNumber_26 : decode m_Model_readsNumber.2.1 26 = .ok (.bipush 99, 2) := by decide +kernel
theorem d_Model_readsNumber_28 : decode m_Model_readsNumber.2.1 28 = .ok (.if_icmp .le 7, 3) := by decide +kernel
theorem d_Model_readsNumber_31 : decode m_Model_readsNumber.2.1 31 = .ok (.iload_n 2, 1) := by decide +kernel
theorem d_Model_readsNumber_32 : decode m_Model_readsNumber.2.1 32 = .ok (.goto 19, 3) := by decide +kernel
theorem d_Model_readsNumber_35 : decode m_Model_readsNumber.2.1 35 = .ok (.bipush 10, 2) := by decide +kernel
theorem d_Model_readsNumber_37 : decode m_Model_readsNumber.2.1 37 = .ok (.iload_n 2, 1) := by decide +kernel
theorem d_Model_readsNumber_38 : decode m_Model_readsNumber.2.1 38 = .ok (.imul, 1) := by decide +kernel
theorem d_Model_readsNumber_39 : decode m_Model_readsNumber.2.1 39 = .ok (.aload_n 0, 1) := by decide +kernel
theorem d_Model_readsNumber_40 : decode m_Model_readsNumber.2.1 40 = .ok (.aload_n 0, 1) := by decide +kernel
theorem d_Model_readsNumber_41 : decode m_Model_readsNumber.2.1 41 = .ok (.getfield 85, 3) := by decide +kernel
theorem d_Model_readsNumber_44 : decode m_Model_readsNumber.2.1 44 = .ok (.invokevirtual 88, 3) := by decide +kernel
theorem d_Model_readsNumber_47 : decode m_Model_readsNumber.2.1 47 = .ok (.iadd, 1) := by decide +kernel
theorem d_Model_readsNumber_48 : decode m_Model_readsNumber.2.1 48 = .ok (.bipush 48, 2) := by decide +kernel
theorem d_Model_readsNumber_50 : decode m_Model_readsNumber.2.1 50 = .ok (.isub, 1) := by decide +kernel
theorem d_Model_readsNumber_51 : decode m_Model_readsNumber.2.1 51 = .ok (.istore_n 2, 1) := by decide +kernel
theorem d_Model_readsNumber_52 : decode m_Model_readsNumber.2.1 52 = .ok (.aload_n 0, 1) := by decide +kernel
theorem d_Model_readsNumber_53 : decode m_Model_readsNumber.2.1 53 = .ok (.dup, 1) := by decide +kernel
theorem d_Model_readsNumber_54 : decode m_Model_readsNumber.2.1 54 = .ok (.getfield 85, 3) := by decide +kernel
theorem d_Model_readsNumber_57 : decode m_Model_readsNumber.2.1 57 = .ok (.iconst 1, 1) := by decide +kernel
theorem d_Model_readsNumber_58 : decode m_Model_readsNumber.2.1 58 = .ok (.iadd, 1) := by decide +kernel
theorem d_Model_readsNumber_59 : decode m_Model_readsNumber.2.1 59 = .ok (.putfield 85, 3) := by decide +kernel
theorem d_Model_readsNumber_62 : decode m_Model_readsNumber.2.1 62 = .ok (.goto (-55), 3) := by decide +kernel
theorem d_Model_readsNumber_65 : decode m_Model_readsNumber.2.1 65 = .ok (.iload_n 2, 1) := by decide +kernel
theorem d_Model_readsNumber_66 : decode m_Model_readsNumber.2.1 66 = .ok (.bipush 99, 2) := by decide +kernel
theorem d_Model_readsNumber_68 : decode m_Model_readsNumber.2.1 68 = .ok (.if_icmp .gt 23, 3) := by decide +kernel
theorem d_Model_readsNumber_71 : decode m_Model_readsNumber.2.1 71 = .ok (.aload_n 0, 1) := by decide +kernel
theorem d_Model_readsNumber_72 : decode m_Model_readsNumber.2.1 72 = .ok (.getfield 85, 3) := by decide +kernel
theorem d_Model_readsNumber_75 : decode m_Model_readsNumber.2.1 75 = .ok (.iload_n 1, 1) := by decide +kernel
theorem d_Model_readsNumber_76 : decode m_Model_readsNumber.2.1 76 = .ok (.isub, 1) := by decide +kernel
theorem d_Model_readsNumber_77 : decode m_Model_readsNumber.2.1 77 = .ok (.iconst 1, 1) := by decide +kernel
theorem d_Model_readsNumber_78 : decode m_Model_readsNumber.2.1 78 = .ok (.if_icmp .le 21, 3) := by decide +kernel
theorem d_Model_readsNumber_81 : decode m_Model_readsNumber.2.1 81 = .ok (.aload_n 0, 1) := by decide +kernel
theorem d_Model_readsNumber_82 : decode m_Model_readsNumber.2.1 82 = .ok (.iload_n 1, 1) := by decide +kernel
theorem d_Model_readsNumber_83 : decode m_Model_readsNumber.2.1 83 = .ok (.invokevirtual 88, 3) := by decide +kernel
theorem d_Model_readsNumber_86 : decode m_Model_readsNumber.2.1 86 = .ok (.bipush 48, 2) := by decide +kernel
theorem d_Model_readsNumber_88 : decode m_Model_readsNumber.2.1 88 = .ok (.if_icmp .ne 11, 3) := by decide +kernel
theorem d_Model_readsNumber_91 : decode m_Model_readsNumber.2.1 91 = .ok (.aload_n 0, 1) := by decide +kernel
theorem d_Model_readsNumber_92 : decode m_Model_readsNumber.2.1 92 = .ok (.iload_n 1, 1) := by decide +kernel
theorem d_Model_readsNumber_93 : decode m_Model_readsNumber.2.1 93 = .ok (.putfield 92, 3) := by decide +kernel
theorem d_Model_readsNumber_96 : decode m_Model_readsNumber.2.1 96 = .ok (.goto 15, 3) := by decide +kernel
theorem d_Model_readsNumber_99 : decode m_Model_readsNumber.2.1 99 = .ok (.aload_n 0, 1) := by decide +kernel
theorem d_Model_readsNumber_100 : decode m_Model_readsNumber.2.1 100 = .ok (.bipush 48, 2) := by decide +kernel
theorem d_Model_readsNumber_102 : decode m_Model_readsNumber.2.1 102 = .ok (.iload_n 2, 1) := by decide +kernel
theorem d_Model_readsNumber_103 : decode m_Model_readsNumber.2.1 103 = .ok (.bipush (-9), 2) := by decide +kernel
theorem d_Model_readsNumber_105 : decode m_Model_readsNumber.2.1 105 = .ok (.bipush (-9), 2) := by decide +kernel
theorem d_Model_readsNumber_107 : decode m_Model_readsNumber.2.1 107 = .ok (.iload_n 1, 1) := by decide +kernel
theorem d_Model_readsNumber_108 : decode m_Model_readsNumber.2.1 108 = .ok (.invokevirtual 101, 3) := by decide +kernel
theorem d_Model_readsNumber_111 : decode m_Model_readsNumber.2.1 111 = .ok (.return_, 1) := by decide +kernel
theorem d_Model_makes_0 : decode m_Model_makes.2.1 0 = .ok (.aload_n 0, 1) := by decide +kernel
theorem d_Model_makes_1 : decode m_Model_makes.2.1 1 = .ok (.getfield 13, 3) := by decide +kernel
theorem d_Model_makes_4 : decode m_Model_makes.2.1 4 = .ok (.iconst 0, 1) := by decide +kernel
theorem d_Model_makes_5 : decode m_Model_makes.2.1 5 = .ok (.iaload, 1) := by decide +kernel
theorem d_Model_makes_6 : decode m_Model_makes.2.1 6 = .ok (.istore 6, 2) := by decide +kernel
theorem d_Model_makes_8 : decode m_Model_makes.2.1 8 = .ok (.iload 6, 2) := by decide +kernel
theorem d_Model_makes_10 : decode m_Model_makes.2.1 10 = .ok (.bipush 31, 2) := by decide +kernel
theorem d_Model_makes_12 : decode m_Model_makes.2.1 12 = .ok (.if_icmp .ne 10, 3) := by decide +kernel
theorem d_Model_makes_15 : decode m_Model_makes.2.1 15 = .ok (.aload_n 0, 1) := by decide +kernel
theorem d_Model_makes_16 : decode m_Model_makes.2.1 16 = .ok (.iload 5, 2) := by decide +kernel
theorem d_Model_makes_18 : decode m_Model_makes.2.1 18 = .ok (.putfield 92, 3) := by decide +kernel
theorem d_Model_makes_21 : decode m_Model_makes.2.1 21 = .ok (.return_, 1) := by decide +kernel
theorem d_Model_makes_22 : decode m_Model_makes.2.1 22 = .ok (.aload_n 0, 1) := by decide +kernel
theorem d_Model_makes_23 : decode m_Model_makes.2.1 23 = .ok (.getfield 13, 3) := by decide +kernel
theorem d_Model_makes_26 : decode m_Model_makes.2.1 26 = .ok (.iconst 1, 1) := by decide +kernel
theorem d_Model_makes_27 : decode m_Model_makes.2.1 27 = .ok (.iload 6, 2) := by decide +kernel
theorem d_Model_makes_29 : decode m_Model_makes.2.1 29 = .ok (.iadd, 1) := by decide +kernel
theorem d_Model_makes_30 : decode m_Model_makes.2.1 30 = .ok (.iload_n 1, 1) := by decide +kernel
theorem d_Model_makes_31 : decode m_Model_makes.2.1 31 = .ok (.iastore, 1) := by decide +kernel
theorem d_Model_makes_32 : decode m_Model_makes.2.1 32 = .ok (.aload_n 0, 1) := by decide +kernel
theorem d_Model_makes_33 : decode m_Model_makes.2.1 33 = .ok (.getfield 13, 3) := by decide +kernel
theorem d_Model_makes_36 : decode m_Model_makes.2.1 36 = .ok (.bipush 32, 2) := by decide +kernel
theorem d_Model_makes_38 : decode m_Model_makes.2.1 38 = .ok (.iload 6, 2) := by decide +kernel
theorem d_Model_makes_40 : decode m_Model_makes.2.1 40 = .ok (.iadd, 1) := by decide +kernel
theorem d_Model_makes_41 : decode m_Model_makes.2.1 41 = .ok (.iload_n 2, 1) := by decide +kernel
theorem d_Model_makes_42 : decode m_Model_makes.2.1 42 = .ok (.iastore, 1) := by decide +kernel
theorem d_Model_makes_43 : decode m_Model_makes.2.1 43 = .ok (.aload_n 0, 1) := by decide +kernel
theorem d_Model_makes_44 : decode m_Model_makes.2.1 44 = .ok (.getfield 13, 3) := by decide +kernel
theorem d_Model_makes_47 : decode m_Model_makes.2.1 47 = .ok (.bipush 63, 2) := by decide +kernel
theorem d_Model_makes_49 : decode m_Model_makes.2.1 49 = .ok (.iload 6, 2) := by decide +kernel
theorem d_Model_makes_51 : decode m_Model_makes.2.1 51 = .ok (.iadd, 1) := by decide +kernel
theorem d_Model_makes_52 : decode m_Model_makes.2.1 52 = .ok (.iload_n 3, 1) := by decide +kernel
theorem d_Model_makes_53 : decode m_Model_makes.2.1 53 = .ok (.iastore, 1) := by decide +kernel
theorem d_Model_makes_54 : decode m_Model_makes.2.1 54 = .ok (.aload_n 0, 1) := by decide +kernel
theorem d_Model_makes_55 : decode m_Model_makes.2.1 55 = .ok (.getfield 13, 3) := by decide +kernel
theorem d_Model_makes_58 : decode m_Model_makes.2.1 58 = .ok (.bipush 94, 2) := by decide +kernel
theorem d_Model_makes_60 : decode m_Model_makes.2.1 60 = .ok (.iload 6, 2) := by decide +kernel
theorem d_Model_makes_62 : decode m_Model_makes.2.1 62 = .ok (.iadd, 1) := by decide +kernel
theorem d_Model_makes_63 : decode m_Model_makes.2.1 63 = .ok (.iload 4, 2) := by decide +kernel
theorem d_Model_makes_65 : decode m_Model_makes.2.1 65 = .ok (.iastore, 1) := by decide +kernel
theorem d_Model_makes_66 : decode m_Model_makes.2.1 66 = .ok (.aload_n 0, 1) := by decide +kernel
theorem d_Model_makes_67 : decode m_Model_makes.2.1 67 = .ok (.getfield 13, 3) := by decide +kernel
theorem d_Model_makes_70 : decode m_Model_makes.2.1 70 = .ok (.iconst 0, 1) := by decide +kernel
theorem d_Model_makes_71 : decode m_Model_makes.2.1 71 = .ok (.dup2, 1) := by decide +kernel
theorem d_Model_makes_72 : decode m_Model_makes.2.1 72 = .ok (.iaload, 1) := by decide +kernel
theorem d_Model_makes_73 : decode m_Model_makes.2.1 73 = .ok (.iconst 1, 1) := by decide +kernel
theorem d_Model_makes_74 : decode m_Model_makes.2.1 74 = .ok (.iadd, 1) := by decide +kernel
theorem d_Model_makes_75 : decode m_Model_makes.2.1 75 = .ok (.iastore, 1) := by decide +kernel
theorem d_Model_makes_76 : decode m_Model_makes.2.1 76 = .ok (.aload_n 0, 1) := by decide +kernel
theorem d_Model_makes_77 : decode m_Model_makes.2.1 77 = .ok (.getfield 32, 3) := by decide +kernel
theorem d_Model_makes_80 : decode m_Model_makes.2.1 80 = .ok (.aload_n 0, 1) := by decide +kernel
theorem d_Model_makes_81 : decode m_Model_makes.2.1 81 = .ok (.getfield 95, 3) := by decide +kernel
theorem d_Model_makes_84 : decode m_Model_makes.2.1 84 = .ok (.iload 6, 2) := by decide +kernel
theorem d_Model_makes_86 : decode m_Model_makes.2.1 86 = .ok (.iastore, 1) := by decide +kernel
theorem d_Model_makes_87 : decode m_Model_makes.2.1 87 = .ok (.aload_n 0, 1) := by decide +kernel
theorem d_Model_makes_88 : decode m_Model_makes.2.1 88 = .ok (.dup, 1) := by decide +kernel
theorem d_Model_makes_89 : decode m_Model_makes.2.1 89 = .ok (.getfield 95, 3) := by decide +kernel
theorem d_Model_makes_92 : decode m_Model_makes.2.1 92 = .ok (.iconst 1, 1) := by decide +kernel
theorem d_Model_makes_93 : decode m_Model_makes.2.1 93 = .ok (.iadd, 1) := by decide +kernel
theorem d_Model_makes_94 : decode m_Model_makes.2.1 94 = .ok (.putfield 95, 3) := by decide +kernel
theorem d_Model_makes_97 : decode m_Model_makes.2.1 97 = .ok (.return_, 1) := by decide +kernel
theorem d_Model_partDone_0 : decode m_Model_partDone.2.1 0 = .ok (.aload_n 0, 1) := by decide +kernel
theorem d_Model_partDone_1 : decode m_Model_partDone.2.1 1 = .ok (.invokevirtual 105, 3) := by decide +kernel
theorem d_Model_partDone_4 : decode m_Model_partDone.2.1 4 = .ok (.ifCond .eq 29, 3) := by decide +kernel
theorem d_Model_partDone_7 : decode m_Model_partDone.2.1 7 = .ok (.aload_n 0, 1) := by decide +kernel
theorem d_Model_partDone_8 : decode m_Model_partDone.2.1 8 = .ok (.invokevirtual 109, 3) := by decide +kernel
theorem d_Model_partDone_11 : decode m_Model_partDone.2.1 11 = .ok (.bipush 126, 2) := by decide +kernel
theorem d_Model_partDone_13 : decode m_Model_partDone.2.1 13 = .ok (.if_icmp .eq 13, 3) := by decide +kernel
theorem d_Model_partDone_16 : decode m_Model_partDone.2.1 16 = .ok (.aload_n 0, 1) := by decide +kernel
theorem d_Model_partDone_17 : decode m_Model_partDone.2.1 17 = .ok (.invokevirtual 109, 3) := by decide +kernel
theorem d_Model_partDone_20 : decode m_Model_partDone.2.1 20 = .ok (.invokestatic 113, 3) := by decide +kernel
theorem d_Model_partDone_23 : decode m_Model_partDone.2.1 23 = .ok (.ifCond .eq 10, 3) := by decide +kernel
theorem d_Model_partDone_26 : decode m_Model_partDone.2.1 26 = .ok (.aload_n 0, 1) := by decide +kernel
theorem d_Model_partDone_27 : decode m_Model_partDone.2.1 27 = .ok (.invokevirtual 117, 3) := by decide +kernel
theorem d_Model_partDone_30 : decode m_Model_partDone.2.1 30 = .ok (.goto (-30), 3) := by decide +kernel
theorem d_Model_partDone_33 : decode m_Model_partDone.2.1 33 = .ok (.return_, 1) := by decide +kernel
theorem d_Model_lastWaiting_0 : decode m_Model_lastWaiting.2.1 0 = .ok (.aload_n 0, 1) := by decide +kernel
theorem d_Model_lastWaiting_1 : decode m_Model_lastWaiting.2.1 1 = .ok (.getfield 98, 3) := by decide +kernel
theorem d_Model_lastWaiting_4 : decode m_Model_lastWaiting.2.1 4 = .ok (.ifCond .ne 7, 3) := by decide +kernel
theorem d_Model_lastWaiting_7 : decode m_Model_lastWaiting.2.1 7 = .ok (.iconst 0, 1) := by decide +kernel
theorem d_Model_lastWaiting_8 : decode m_Model_lastWaiting.2.1 8 = .ok (.goto 14, 3) := by decide +kernel
theorem d_Model_lastWaiting_11 : decode m_Model_lastWaiting.2.1 11 = .ok (.aload_n 0, 1) := by decide +kernel
theorem d_Model_lastWaiting_12 : decode m_Model_lastWaiting.2.1 12 = .ok (.getfield 35, 3) := by decide +kernel
theorem d_Model_lastWaiting_15 : decode m_Model_lastWaiting.2.1 15 = .ok (.aload_n 0, 1) := by decide +kernel
theorem d_Model_lastWaiting_16 : decode m_Model_lastWaiting.2.1 16 = .ok (.getfield 98, 3) := by decide +kernel
theorem d_Model_lastWaiting_19 : decode m_Model_lastWaiting.2.1 19 = .ok (.iconst 1, 1) := by decide +kernel
theorem d_Model_lastWaiting_20 : decode m_Model_lastWaiting.2.1 20 = .ok (.isub, 1) := by decide +kernel
theorem d_Model_lastWaiting_21 : decode m_Model_lastWaiting.2.1 21 = .ok (.iaload, 1) := by decide +kernel
theorem d_Model_lastWaiting_22 : decode m_Model_lastWaiting.2.1 22 = .ok (.ireturn, 1) := by decide +kernel
theorem d_Model_isProduct_0 : decode m_Model_isProduct.2.1 0 = .ok (.iload_n 0, 1) := by decide +kernel
theorem d_Model_isProduct_1 : decode m_Model_isProduct.2.1 1 = .ok (.bipush 42, 2) := by decide +kernel
theorem d_Model_isProduct_3 : decode m_Model_isProduct.2.1 3 = .ok (.if_icmp .eq 9, 3) := by decide +kernel
theorem d_Model_isProduct_6 : decode m_Model_isProduct.2.1 6 = .ok (.iload_n 0, 1) := by decide +kernel
theorem d_Model_isProduct_7 : decode m_Model_isProduct.2.1 7 = .ok (.bipush 47, 2) := by decide +kernel
theorem d_Model_isProduct_9 : decode m_Model_isProduct.2.1 9 = .ok (.if_icmp .ne 7, 3) := by decide +kernel
theorem d_Model_isProduct_12 : decode m_Model_isProduct.2.1 12 = .ok (.iconst 1, 1) := by decide +kernel
theorem d_Model_isProduct_13 : decode m_Model_isProduct.2.1 13 = .ok (.goto 4, 3) := by decide +kernel
theorem d_Model_isProduct_16 : decode m_Model_isProduct.2.1 16 = .ok (.iconst 0, 1) := by decide +kernel
theorem d_Model_isProduct_17 : decode m_Model_isProduct.2.1 17 = .ok (.ireturn, 1) := by decide +kernel
theorem d_Model_doesLast_0 : decode m_Model_doesLast.2.1 0 = .ok (.aload_n 0, 1) := by decide +kernel
theorem d_Model_doesLast_1 : decode m_Model_doesLast.2.1 1 = .ok (.dup, 1) := by decide +kernel
theorem d_Model_doesLast_2 : decode m_Model_doesLast.2.1 2 = .ok (.getfield 98, 3) := by decide +kernel
theorem d_Model_doesLast_5 : decode m_Model_doesLast.2.1 5 = .ok (.iconst 1, 1) := by decide +kernel
theorem d_Model_doesLast_6 : decode m_Model_doesLast.2.1 6 = .ok (.isub, 1) := by decide +kernel
theorem d_Model_doesLast_7 : decode m_Model_doesLast.2.1 7 = .ok (.putfield 98, 3) := by decide +kernel
theorem d_Model_doesLast_10 : decode m_Model_doesLast.2.1 10 = .ok (.aload_n 0, 1) := by decide +kernel
theorem d_Model_doesLast_11 : decode m_Model_doesLast.2.1 11 = .ok (.getfield 35, 3) := by decide +kernel
theorem d_Model_doesLast_14 : decode m_Model_doesLast.2.1 14 = .ok (.aload_n 0, 1) := by decide +kernel
theorem d_Model_doesLast_15 : decode m_Model_doesLast.2.1 15 = .ok (.getfield 98, 3) := by decide +kernel
theorem d_Model_doesLast_18 : decode m_Model_doesLast.2.1 18 = .ok (.iaload, 1) := by decide +kernel
theorem d_Model_doesLast_19 : decode m_Model_doesLast.2.1 19 = .ok (.istore_n 1, 1) := by decide +kernel
theorem d_Model_doesLast_20 : decode m_Model_doesLast.2.1 20 = .ok (.aload_n 0, 1) := by decide +kernel
theorem d_Model_doesLast_21 : decode m_Model_doesLast.2.1 21 = .ok (.dup, 1) := by decide +kernel
theorem d_Model_doesLast_22 : decode m_Model_doesLast.2.1 22 = .ok (.getfield 95, 3) := by decide +kernel
theorem d_Model_doesLast_25 : decode m_Model_doesLast.2.1 25 = .ok (.iload_n 1, 1) := by decide +kernel
theorem d_Model_doesLast_26 : decode m_Model_doesLast.2.1 26 = .ok (.bipush 126, 2) := by decide +kernel
theorem d_Model_doesLast_28 : decode m_Model_doesLast.2.1 28 = .ok (.if_icmp .ne 7, 3) := by decide +kernel
theorem d_Model_doesLast_31 : decode m_Model_doesLast.2.1 31 = .ok (.iconst 1, 1) := by decide +kernel
theorem d_Model_doesLast_32 : decode m_Model_doesLast.2.1 32 = .ok (.goto 4, 3) := by decide +kernel
theorem d_Model_doesLast_35 : decode m_Model_doesLast.2.1 35 = .ok (.iconst 2, 1) := by decide +kernel
theorem d_Model_doesLast_36 : decode m_Model_doesLast.2.1 36 = .ok (.isub, 1) := by decide +kernel
theorem d_Model_doesLast_37 : decode m_Model_doesLast.2.1 37 = .ok (.putfield 95, 3) := by decide +kernel
theorem d_Model_doesLast_40 : decode m_Model_doesLast.2.1 40 = .ok (.aload_n 0, 1) := by decide +kernel
theorem d_Model_doesLast_41 : decode m_Model_doesLast.2.1 41 = .ok (.getfield 32, 3) := by decide +kernel
theorem d_Model_doesLast_44 : decode m_Model_doesLast.2.1 44 = .ok (.aload_n 0, 1) := by decide +kernel
theorem d_Model_doesLast_45 : decode m_Model_doesLast.2.1 45 = .ok (.getfield 95, 3) := by decide +kernel
theorem d_Model_doesLast_48 : decode m_Model_doesLast.2.1 48 = .ok (.iaload, 1) := by decide +kernel
theorem d_Model_doesLast_49 : decode m_Model_doesLast.2.1 49 = .ok (.istore_n 2, 1) := by decide +kernel
theorem d_Model_doesLast_50 : decode m_Model_doesLast.2.1 50 = .ok (.iload_n 1, 1) := by decide +kernel
theorem d_Model_doesLast_51 : decode m_Model_doesLast.2.1 51 = .ok (.bipush 126, 2) := by decide +kernel
theorem d_Model_doesLast_53 : decode m_Model_doesLast.2.1 53 = .ok (.if_icmp .ne 8, 3) := by decide +kernel
theorem d_Model_doesLast_56 : decode m_Model_doesLast.2.1 56 = .ok (.bipush (-9), 2) := by decide +kernel
theorem d_Model_doesLast_58 : decode m_Model_doesLast.2.1 58 = .ok (.goto 14, 3) := by decide +kernel
theorem d_Model_doesLast_61 : decode m_Model_doesLast.2.1 61 = .ok (.aload_n 0, 1) := by decide +kernel
theorem d_Model_doesLast_62 : decode m_Model_doesLast.2.1 62 = .ok (.getfield 32, 3) := by decide +kernel
theorem d_Model_doesLast_65 : decode m_Model_doesLast.2.1 65 = .ok (.aload_n 0, 1) := by decide +kernel
theorem d_Model_doesLast_66 : decode m_Model_doesLast.2.1 66 = .ok (.getfield 95, 3) := by decide +kernel
theorem d_Model_doesLast_69 : decode m_Model_doesLast.2.1 69 = .ok (.iconst 1, 1) := by decide +kernel
theorem d_Model_doesLast_70 : decode m_Model_doesLast.2.1 70 = .ok (.iadd, 1) := by decide +kernel
theorem d_Model_doesLast_71 : decode m_Model_doesLast.2.1 71 = .ok (.iaload, 1) := by decide +kernel
theorem d_Model_doesLast_72 : decode m_Model_doesLast.2.1 72 = .ok (.istore_n 3, 1) := by decide +kernel
theorem d_Model_doesLast_73 : decode m_Model_doesLast.2.1 73 = .ok (.aload_n 0, 1) := by decide +kernel
theorem d_Model_doesLast_74 : decode m_Model_doesLast.2.1 74 = .ok (.iload_n 1, 1) := by decide +kernel
theorem d_Model_doesLast_75 : decode m_Model_doesLast.2.1 75 = .ok (.iconst 0, 1) := by decide +kernel
theorem d_Model_doesLast_76 : decode m_Model_doesLast.2.1 76 = .ok (.iload_n 2, 1) := by decide +kernel
theorem d_Model_doesLast_77 : decode m_Model_doesLast.2.1 77 = .ok (.iload_n 3, 1) := by decide +kernel
theorem d_Model_doesLast_78 : decode m_Model_doesLast.2.1 78 = .ok (.aload_n 0, 1) := by decide +kernel
theorem d_Model_doesLast_79 : decode m_Model_doesLast.2.1 79 = .ok (.getfield 38, 3) := by decide +kernel
theorem d_Model_doesLast_82 : decode m_Model_doesLast.2.1 82 = .ok (.aload_n 0, 1) := by decide +kernel
theorem d_Model_doesLast_83 : decode m_Model_doesLast.2.1 83 = .ok (.getfield 98, 3) := by decide +kernel
theorem d_Model_doesLast_86 : decode m_Model_doesLast.2.1 86 = .ok (.iaload, 1) := by decide +kernel
theorem d_Model_doesLast_87 : decode m_Model_doesLast.2.1 87 = .ok (.invokevirtual 101, 3) := by decide +kernel
theorem d_Model_doesLast_90 : decode m_Model_doesLast.2.1 90 = .ok (.return_, 1) := by decide +kernel
theorem d_Model_readsBehind_0 : decode m_Model_readsBehind.2.1 0 = .ok (.aload_n 0, 1) := by decide +kernel
theorem d_Model_readsBehind_1 : decode m_Model_readsBehind.2.1 1 = .ok (.aload_n 0, 1) := by decide +kernel
theorem d_Model_readsBehind_2 : decode m_Model_readsBehind.2.1 2 = .ok (.getfield 85, 3) := by decide +kernel
theorem d_Model_readsBehind_5 : decode m_Model_readsBehind.2.1 5 = .ok (.invokevirtual 88, 3) := by decide +kernel
theorem d_Model_readsBehind_8 : decode m_Model_readsBehind.2.1 8 = .ok (.istore_n 1, 1) := by decide +kernel
theorem d_Model_readsBehind_9 : decode m_Model_readsBehind.2.1 9 = .ok (.iload_n 1, 1) := by decide +kernel
theorem d_Model_readsBehind_10 : decode m_Model_readsBehind.2.1 10 = .ok (.invokestatic 113, 3) := by decide +kernel
theorem d_Model_readsBehind_13 : decode m_Model_readsBehind.2.1 13 = .ok (.ifCond .eq 10, 3) := by decide +kernel
theorem d_Model_readsBehind_16 : decode m_Model_readsBehind.2.1 16 = .ok (.aload_n 0, 1) := by decide +kernel
theorem d_Model_readsBehind_17 : decode m_Model_readsBehind.2.1 17 = .ok (.iload_n 1, 1) := by decide +kernel
theorem d_Model_readsBehind_18 : decode m_Model_readsBehind.2.1 18 = .ok (.invokevirtual 120, 3) := by decide +kernel
theorem d_Model_readsBehind_21 : decode m_Model_readsBehind.2.1 21 = .ok (.iconst 1, 1) := by decide +kernel
theorem d_Model_readsBehind_22 : decode m_Model_readsBehind.2.1 22 = .ok (.ireturn, 1) := by decide +kernel
theorem d_Model_readsBehind_23 : decode m_Model_readsBehind.2.1 23 = .ok (.aload_n 0, 1) := by decide +kernel
theorem d_Model_readsBehind_24 : decode m_Model_readsBehind.2.1 24 = .ok (.invokevirtual 105, 3) := by decide +kernel
theorem d_Model_readsBehind_27 : decode m_Model_readsBehind.2.1 27 = .ok (.ifCond .eq 20, 3) := by decide +kernel
theorem d_Model_readsBehind_30 : decode m_Model_readsBehind.2.1 30 = .ok (.aload_n 0, 1) := by decide +kernel
theorem d_Model_readsBehind_31 : decode m_Model_readsBehind.2.1 31 = .ok (.invokevirtual 109, 3) := by decide +kernel
theorem d_Model_readsBehind_34 : decode m_Model_readsBehind.2.1 34 = .ok (.invokestatic 127, 3) := by decide +kernel
theorem d_Model_readsBehind_37 : decode m_Model_readsBehind.2.1 37 = .ok (.ifCond .eq 10, 3) := by decide +kernel
theorem d_Model_readsBehind_40 : decode m_Model_readsBehind.2.1 40 = .ok (.aload_n 0, 1) := by decide +kernel
theorem d_Model_readsBehind_41 : decode m_Model_readsBehind.2.1 41 = .ok (.invokevirtual 117, 3) := by decide +kernel
theorem d_Model_readsBehind_44 : decode m_Model_readsBehind.2.1 44 = .ok (.goto (-21), 3) := by decide +kernel
theorem d_Model_readsBehind_47 : decode m_Model_readsBehind.2.1 47 = .ok (.aload_n 0, 1) := by decide +kernel
theorem d_Model_readsBehind_48 : decode m_Model_readsBehind.2.1 48 = .ok (.invokevirtual 105, 3) := by decide +kernel
theorem d_Model_readsBehind_51 : decode m_Model_readsBehind.2.1 51 = .ok (.ifCond .ne 5, 3) := by decide +kernel
theorem d_Model_readsBehind_54 : decode m_Model_readsBehind.2.1 54 = .ok (.iconst 0, 1) := by decide +kernel
theorem d_Model_readsBehind_55 : decode m_Model_readsBehind.2.1 55 = .ok (.ireturn, 1) := by decide +kernel
theorem d_Model_readsBehind_56 : decode m_Model_readsBehind.2.1 56 = .ok (.iload_n 1, 1) := by decide +kernel
theorem d_Model_readsBehind_57 : decode m_Model_readsBehind.2.1 57 = .ok (.invokestatic 127, 3) := by decide +kernel
theorem d_Model_readsBehind_60 : decode m_Model_readsBehind.2.1 60 = .ok (.ifCond .eq 10, 3) := by decide +kernel
theorem d_Model_readsBehind_63 : decode m_Model_readsBehind.2.1 63 = .ok (.aload_n 0, 1) := by decide +kernel
theorem d_Model_readsBehind_64 : decode m_Model_readsBehind.2.1 64 = .ok (.iload_n 1, 1) := by decide +kernel
theorem d_Model_readsBehind_65 : decode m_Model_readsBehind.2.1 65 = .ok (.invokevirtual 120, 3) := by decide +kernel
theorem d_Model_readsBehind_68 : decode m_Model_readsBehind.2.1 68 = .ok (.iconst 1, 1) := by decide +kernel
theorem d_Model_readsBehind_69 : decode m_Model_readsBehind.2.1 69 = .ok (.ireturn, 1) := by decide +kernel
theorem d_Model_readsBehind_70 : decode m_Model_readsBehind.2.1 70 = .ok (.iload_n 1, 1) := by decide +kernel
theorem d_Model_readsBehind_71 : decode m_Model_readsBehind.2.1 71 = .ok (.bipush 41, 2) := by decide +kernel
theorem d_Model_readsBehind_73 : decode m_Model_readsBehind.2.1 73 = .ok (.if_icmp .ne 36, 3) := by decide +kernel
theorem d_Model_readsBehind_76 : decode m_Model_readsBehind.2.1 76 = .ok (.aload_n 0, 1) := by decide +kernel
theorem d_Model_readsBehind_77 : decode m_Model_readsBehind.2.1 77 = .ok (.getfield 98, 3) := by decide +kernel
theorem d_Model_readsBehind_80 : decode m_Model_readsBehind.2.1 80 = .ok (.ifCond .le 29, 3) := by decide +kernel
theorem d_Model_readsBehind_83 : decode m_Model_readsBehind.2.1 83 = .ok (.aload_n 0, 1) := by decide +kernel
theorem d_Model_readsBehind_84 : decode m_Model_readsBehind.2.1 84 = .ok (.dup, 1) := by decide +kernel
theorem d_Model_readsBehind_85 : decode m_Model_readsBehind.2.1 85 = .ok (.getfield 98, 3) := by decide +kernel
theorem d_Model_readsBehind_88 : decode m_Model_readsBehind.2.1 88 = .ok (.iconst 1, 1) := by decide +kernel
theorem d_Model_readsBehind_89 : decode m_Model_readsBehind.2.1 89 = .ok (.isub, 1) := by decide +kernel
theorem d_Model_readsBehind_90 : decode m_Model_readsBehind.2.1 90 = .ok (.putfield 98, 3) := by decide +kernel
theorem d_Model_readsBehind_93 : decode m_Model_readsBehind.2.1 93 = .ok (.aload_n 0, 1) := by decide +kernel
theorem d_Model_readsBehind_94 : decode m_Model_readsBehind.2.1 94 = .ok (.dup, 1) := by decide +kernel
theorem d_Model_readsBehind_95 : decode m_Model_readsBehind.2.1 95 = .ok (.getfield 85, 3) := by decide +kernel
theorem d_Model_readsBehind_98 : decode m_Model_readsBehind.2.1 98 = .ok (.iconst 1, 1) := by decide +kernel
theorem d_Model_readsBehind_99 : decode m_Model_readsBehind.2.1 99 = .ok (.iadd, 1) := by decide +kernel
theorem d_Model_readsBehind_100 : decode m_Model_readsBehind.2.1 100 = .ok (.putfield 85, 3) := by decide +kernel
theorem d_Model_readsBehind_103 : decode m_Model_readsBehind.2.1 103 = .ok (.aload_n 0, 1) := by decide +kernel
theorem d_Model_readsBehind_104 : decode m_Model_readsBehind.2.1 104 = .ok (.invokevirtual 130, 3) := by decide +kernel
theorem d_Model_readsBehind_107 : decode m_Model_readsBehind.2.1 107 = .ok (.iconst 0, 1) := by decide +kernel
theorem d_Model_readsBehind_108 : decode m_Model_readsBehind.2.1 108 = .ok (.ireturn, 1) := by decide +kernel
theorem d_Model_readsBehind_109 : decode m_Model_readsBehind.2.1 109 = .ok (.iload_n 1, 1) := by decide +kernel
theorem d_Model_readsBehind_110 : decode m_Model_readsBehind.2.1 110 = .ok (.iconst (-1), 1) := by decide +kernel
theorem d_Model_readsBehind_111 : decode m_Model_readsBehind.2.1 111 = .ok (.if_icmp .ne 10, 3) := by decide +kernel
theorem d_Model_readsBehind_114 : decode m_Model_readsBehind.2.1 114 = .ok (.aload_n 0, 1) := by decide +kernel
theorem d_Model_readsBehind_115 : decode m_Model_readsBehind.2.1 115 = .ok (.getfield 98, 3) := by decide +kernel
theorem d_Model_readsBehind_118 : decode m_Model_readsBehind.2.1 118 = .ok (.ifCond .le 11, 3) := by decide +kernel
theorem d_Model_readsBehind_121 : decode m_Model_readsBehind.2.1 121 = .ok (.aload_n 0, 1) := by decide +kernel
theorem d_Model_readsBehind_122 : decode m_Model_readsBehind.2.1 122 = .ok (.aload_n 0, 1) := by decide +kernel
theorem d_Model_readsBehind_123 : decode m_Model_readsBehind.2.1 123 = .ok (.getfield 85, 3) := by decide +kernel
theorem d_Model_readsBehind_126 : decode m_Model_readsBehind.2.1 126 = .ok (.putfield 92, 3) := by decide +kernel
theorem d_Model_readsBehind_129 : decode m_Model_readsBehind.2.1 129 = .ok (.iconst 0, 1) := by decide +kernel
theorem d_Model_readsBehind_130 : decode m_Model_readsBehind.2.1 130 = .ok (.ireturn, 1) := by decide +kernel
theorem d_Model_isSum_0 : decode m_Model_isSum.2.1 0 = .ok (.iload_n 0, 1) := by decide +kernel
theorem d_Model_isSum_1 : decode m_Model_isSum.2.1 1 = .ok (.bipush 43, 2) := by decide +kernel
theorem d_Model_isSum_3 : decode m_Model_isSum.2.1 3 = .ok (.if_icmp .eq 15, 3) := by decide +kernel
theorem d_Model_isSum_6 : decode m_Model_isSum.2.1 6 = .ok (.iload_n 0, 1) := by decide +kernel
theorem d_Model_isSum_7 : decode m_Model_isSum.2.1 7 = .ok (.bipush 45, 2) := by decide +kernel
theorem d_Model_isSum_9 : decode m_Model_isSum.2.1 9 = .ok (.if_icmp .eq 9, 3) := by decide +kernel
theorem d_Model_isSum_12 : decode m_Model_isSum.2.1 12 = .ok (.iload_n 0, 1) := by decide +kernel
theorem d_Model_isSum_13 : decode m_Model_isSum.2.1 13 = .ok (.bipush 35, 2) := by decide +kernel
theorem d_Model_isSum_15 : decode m_Model_isSum.2.1 15 = .ok (.if_icmp .ne 7, 3) := by decide +kernel
theorem d_Model_isSum_18 : decode m_Model_isSum.2.1 18 = .ok (.iconst 1, 1) := by decide +kernel
theorem d_Model_isSum_19 : decode m_Model_isSum.2.1 19 = .ok (.goto 4, 3) := by decide +kernel
theorem d_Model_isSum_22 : decode m_Model_isSum.2.1 22 = .ok (.iconst 0, 1) := by decide +kernel
theorem d_Model_isSum_23 : decode m_Model_isSum.2.1 23 = .ok (.ireturn, 1) := by decide +kernel
theorem d_Model_node_0 : decode m_Model_node.2.1 0 = .ok (.aload_n 0, 1) := by decide +kernel
theorem d_Model_node_1 : decode m_Model_node.2.1 1 = .ok (.iconst 0, 1) := by decide +kernel
theorem d_Model_node_2 : decode m_Model_node.2.1 2 = .ok (.putfield 75, 3) := by decide +kernel
theorem d_Model_node_5 : decode m_Model_node.2.1 5 = .ok (.aload_n 0, 1) := by decide +kernel
theorem d_Model_node_6 : decode m_Model_node.2.1 6 = .ok (.iload_n 1, 1) := by decide +kernel
theorem d_Model_node_7 : decode m_Model_node.2.1 7 = .ok (.invokevirtual 172, 3) := by decide +kernel
theorem d_Model_node_10 : decode m_Model_node.2.1 10 = .ok (.ifCond .eq 13, 3) := by decide +kernel
theorem d_Model_node_13 : decode m_Model_node.2.1 13 = .ok (.iload_n 2, 1) := by decide +kernel
theorem d_Model_node_14 : decode m_Model_node.2.1 14 = .ok (.iconst 0, 1) := by decide +kernel
theorem d_Model_node_15 : decode m_Model_node.2.1 15 = .ok (.bipush 8, 2) := by decide +kernel
theorem d_Model_node_17 : decode m_Model_node.2.1 17 = .ok (.invokestatic 78, 3) := by decide +kernel
theorem d_Model_node_20 : decode m_Model_node.2.1 20 = .ok (.ifCond .ne 5, 3) := by decide +kernel
theorem d_Model_node_23 : decode m_Model_node.2.1 23 = .ok (.iconst (-1), 1) := by decide +kernel
theorem d_Model_node_24 : decode m_Model_node.2.1 24 = .ok (.ireturn, 1) := by decide +kernel
theorem d_Model_node_25 : decode m_Model_node.2.1 25 = .ok (.iload_n 2, 1) := by decide +kernel
theorem d_Model_node_26 : decode m_Model_node.2.1 26 = .ok (.iconst 4, 1) := by decide +kernel
theorem d_Model_node_27 : decode m_Model_node.2.1 27 = .ok (.if_icmp .ge 62, 3) := by decide +kernel
theorem d_Model_node_30 : decode m_Model_node.2.1 30 = .ok (.iload_n 2, 1) := by decide +kernel
theorem d_Model_node_31 : decode m_Model_node.2.1 31 = .ok (.ifCond .ne 14, 3) := by decide +kernel
theorem d_Model_node_34 : decode m_Model_node.2.1 34 = .ok (.aload_n 0, 1) := by decide +kernel
theorem d_Model_node_35 : decode m_Model_node.2.1 35 = .ok (.getfield 16, 3) := by decide +kernel
theorem d_Model_node_38 : decode m_Model_node.2.1 38 = .ok (.iconst 1, 1) := by decide +kernel
theorem d_Model_node_39 : decode m_Model_node.2.1 39 = .ok (.iload_n 1, 1) := by decide +kernel
theorem d_Model_node_40 : decode m_Model_node.2.1 40 = .ok (.iadd, 1) := by decide +kernel
theorem d_Model_node_41 : decode m_Model_node.2.1 41 = .ok (.iaload, 1) := by decide +kernel
theorem d_Model_node_42 : decode m_Model_node.2.1 42 = .ok (.goto 46, 3) := by decide +kernel
theorem d_Model_node_45 : decode m_Model_node.2.1 45 = .ok (.iload_n 2, 1) := by decide +kernel
theorem d_Model_node_46 : decode m_Model_node.2.1 46 = .ok (.iconst 1, 1) := by decide +kernel
theorem d_Model_node_47 : decode m_Model_node.2.1 47 = .ok (.if_icmp .ne 15, 3) := by decide +kernel
theorem d_Model_node_50 : decode m_Model_node.2.1 50 = .ok (.aload_n 0, 1) := by decide +kernel
theorem d_Model_node_51 : decode m_Model_node.2.1 51 = .ok (.getfield 16, 3) := by decide +kernel
theorem d_Model_node_54 : decode m_Model_node.2.1 54 = .ok (.bipush 32, 2) := by decide +kernel
theorem d_Model_node_56 : decode m_Model_node.2.1 56 = .ok (.iload_n 1, 1) := by decide +kernel
theorem d_Model_node_57 : decode m_Model_node.2.1 57 = .ok (.iadd, 1) := by decide +kernel
theorem d_Model_node_58 : decode m_Model_node.2.1 58 = .ok (.iaload, 1) := by decide +kernel
theorem d_Model_node_59 : decode m_Model_node.2.1 59 = .ok (.goto 29, 3) := by decide +kernel
theorem d_Model_node_62 : decode m_Model_node.2.1 62 = .ok (.iload_n 2, 1) := by decide +kernel
theorem d_Model_node_63 : decode m_Model_node.2.1 63 = .ok (.iconst 2, 1) := by decide +kernel
theorem d_Model_node_64 : decode m_Model_node.2.1 64 = .ok (.if_icmp .ne 15, 3) := by decide +kernel
theorem d_Model_node_67 : decode m_Model_node.2.1 67 = .ok (.aload_n 0, 1) := by decide +kernel
theorem d_Model_node_68 : decode m_Model_node.2.1 68 = .ok (.getfield 16, 3) := by decide +kernel
theorem d_Model_node_71 : decode m_Model_node.2.1 71 = .ok (.bipush 63, 2) := by decide +kernel
theorem d_Model_node_73 : decode m_Model_node.2.1 73 = .ok (.iload_n 1, 1) := by decide +kernel
theorem d_Model_node_74 : decode m_Model_node.2.1 74 = .ok (.iadd, 1) := by decide +kernel
theorem d_Model_node_75 : decode m_Model_node.2.1 75 = .ok (.iaload, 1) := by decide +kernel
theorem d_Model_node_76 : decode m_Model_node.2.1 76 = .ok (.goto 12, 3) := by decide +kernel
theorem d_Model_node_79 : decode m_Model_node.2.1 79 = .ok (.aload_n 0, 1) := by decide +kernel
theorem d_Model_node_80 : decode m_Model_node.2.1 80 = .ok (.getfield 16, 3) := by decide +kernel
theorem d_Model_node_83 : decode m_Model_node.2.1 83 = .ok (.bipush 94, 2) := by decide +kernel
theorem d_Model_node_85 : decode m_Model_node.2.1 85 = .ok (.iload_n 1, 1) := by decide +kernel
theorem d_Model_node_86 : decode m_Model_node.2.1 86 = .ok (.iadd, 1) := by decide +kernel
theorem d_Model_node_87 : decode m_Model_node.2.1 87 = .ok (.iaload, 1) := by decide +kernel
theorem d_Model_node_88 : decode m_Model_node.2.1 88 = .ok (.ireturn, 1) := by decide +kernel
theorem d_Model_node_89 : decode m_Model_node.2.1 89 = .ok (.iload_n 2, 1) := by decide +kernel
theorem d_Model_node_90 : decode m_Model_node.2.1 90 = .ok (.bipush 6, 2) := by decide +kernel
theorem d_Model_node_92 : decode m_Model_node.2.1 92 = .ok (.if_icmp .ge 19, 3) := by decide +kernel
theorem d_Model_node_95 : decode m_Model_node.2.1 95 = .ok (.aload_n 0, 1) := by decide +kernel
theorem d_Model_node_96 : decode m_Model_node.2.1 96 = .ok (.iload_n 1, 1) := by decide +kernel
theorem d_Model_node_97 : decode m_Model_node.2.1 97 = .ok (.iload_n 2, 1) := by decide +kernel
theorem d_Model_node_98 : decode m_Model_node.2.1 98 = .ok (.iconst 5, 1) := by decide +kernel
theorem d_Model_node_99 : decode m_Model_node.2.1 99 = .ok (.if_icmp .ne 7, 3) := by decide +kernel
theorem d_Model_node_102 : decode m_Model_node.2.1 102 = .ok (.iconst 1, 1) := by decide +kernel
theorem d_Model_node_103 : decode m_Model_node.2.1 103 = .ok (.goto 4, 3) := by decide +kernel
theorem d_Model_node_106 : decode m_Model_node.2.1 106 = .ok (.iconst 0, 1) := by decide +kernel
theorem d_Model_node_107 : decode m_Model_node.2.1 107 = .ok (.invokevirtual 175, 3) := by decide +kernel
theorem d_Model_node_110 : decode m_Model_node.2.1 110 = .ok (.ireturn, 1) := by decide +kernel
theorem d_Model_node_111 : decode m_Model_node.2.1 111 = .ok (.iload_n 2, 1) := by decide +kernel
theorem d_Model_node_112 : decode m_Model_node.2.1 112 = .ok (.bipush 6, 2) := by decide +kernel
theorem d_Model_node_114 : decode m_Model_node.2.1 114 = .ok (.if_icmp .ne 19, 3) := by decide +kernel
