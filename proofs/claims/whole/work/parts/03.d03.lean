theorem d_Program_haveByWay_406 : decode m_Program_haveByWay.2.1 406 = .ok (.iconst 2, 1) := by decide +kernel
theorem d_Program_haveByWay_407 : decode m_Program_haveByWay.2.1 407 = .ok (.iload 4, 2) := by decide +kernel
theorem d_Program_haveByWay_409 : decode m_Program_haveByWay.2.1 409 = .ok (.iload_n 3, 1) := by decide +kernel
theorem d_Program_haveByWay_410 : decode m_Program_haveByWay.2.1 410 = .ok (.aload_n 1, 1) := by decide +kernel
theorem d_Program_haveByWay_411 : decode m_Program_haveByWay.2.1 411 = .ok (.iload 8, 2) := by decide +kernel
theorem d_Program_haveByWay_413 : decode m_Program_haveByWay.2.1 413 = .ok (.invokestatic 51, 3) := by decide +kernel
theorem d_Program_haveByWay_416 : decode m_Program_haveByWay.2.1 416 = .ok (.aload_n 0, 1) := by decide +kernel
theorem d_Program_haveByWay_417 : decode m_Program_haveByWay.2.1 417 = .ok (.aload_n 1, 1) := by decide +kernel
theorem d_Program_haveByWay_418 : decode m_Program_haveByWay.2.1 418 = .ok (.iload 8, 2) := by decide +kernel
theorem d_Program_haveByWay_420 : decode m_Program_haveByWay.2.1 420 = .ok (.invokevirtual 55, 3) := by decide +kernel
theorem d_Program_haveByWay_423 : decode m_Program_haveByWay.2.1 423 = .ok (.invokevirtual 58, 3) := by decide +kernel
theorem d_Program_haveByWay_426 : decode m_Program_haveByWay.2.1 426 = .ok (.return_, 1) := by decide +kernel
theorem d_Program_haveKept_0 : decode m_Program_haveKept.2.1 0 = .ok (.aload_n 1, 1) := by decide +kernel
theorem d_Program_haveKept_1 : decode m_Program_haveKept.2.1 1 = .ok (.iload_n 3, 1) := by decide +kernel
theorem d_Program_haveKept_2 : decode m_Program_haveKept.2.1 2 = .ok (.invokevirtual 47, 3) := by decide +kernel
theorem d_Program_haveKept_5 : decode m_Program_haveKept.2.1 5 = .ok (.ifCond .eq 4, 3) := by decide +kernel
theorem d_Program_haveKept_8 : decode m_Program_haveKept.2.1 8 = .ok (.return_, 1) := by decide +kernel
theorem d_Program_haveKept_9 : decode m_Program_haveKept.2.1 9 = .ok (.aload_n 0, 1) := by decide +kernel
theorem d_Program_haveKept_10 : decode m_Program_haveKept.2.1 10 = .ok (.aload_n 1, 1) := by decide +kernel
theorem d_Program_haveKept_11 : decode m_Program_haveKept.2.1 11 = .ok (.aload_n 2, 1) := by decide +kernel
theorem d_Program_haveKept_12 : decode m_Program_haveKept.2.1 12 = .ok (.iload_n 3, 1) := by decide +kernel
theorem d_Program_haveKept_13 : decode m_Program_haveKept.2.1 13 = .ok (.iload 4, 2) := by decide +kernel
theorem d_Program_haveKept_15 : decode m_Program_haveKept.2.1 15 = .ok (.iload 5, 2) := by decide +kernel
theorem d_Program_haveKept_17 : decode m_Program_haveKept.2.1 17 = .ok (.iload 6, 2) := by decide +kernel
theorem d_Program_haveKept_19 : decode m_Program_haveKept.2.1 19 = .ok (.invokevirtual 43, 3) := by decide +kernel
theorem d_Program_haveKept_22 : decode m_Program_haveKept.2.1 22 = .ok (.aload_n 0, 1) := by decide +kernel
theorem d_Program_haveKept_23 : decode m_Program_haveKept.2.1 23 = .ok (.getfield 20, 3) := by decide +kernel
theorem d_Program_haveKept_26 : decode m_Program_haveKept.2.1 26 = .ok (.iload_n 3, 1) := by decide +kernel
theorem d_Program_haveKept_27 : decode m_Program_haveKept.2.1 27 = .ok (.aload_n 0, 1) := by decide +kernel
theorem d_Program_haveKept_28 : decode m_Program_haveKept.2.1 28 = .ok (.getfield 34, 3) := by decide +kernel
theorem d_Program_haveKept_31 : decode m_Program_haveKept.2.1 31 = .ok (.invokevirtual 83, 3) := by decide +kernel
theorem d_Program_haveKept_34 : decode m_Program_haveKept.2.1 34 = .ok (.aload_n 0, 1) := by decide +kernel
theorem d_Program_haveKept_35 : decode m_Program_haveKept.2.1 35 = .ok (.iconst 3, 1) := by decide +kernel
theorem d_Program_haveKept_36 : decode m_Program_haveKept.2.1 36 = .ok (.iload 4, 2) := by decide +kernel
theorem d_Program_haveKept_38 : decode m_Program_haveKept.2.1 38 = .ok (.iload_n 3, 1) := by decide +kernel
theorem d_Program_haveKept_39 : decode m_Program_haveKept.2.1 39 = .ok (.iconst 2, 1) := by decide +kernel
theorem d_Program_haveKept_40 : decode m_Program_haveKept.2.1 40 = .ok (.aload_n 0, 1) := by decide +kernel
theorem d_Program_haveKept_41 : decode m_Program_haveKept.2.1 41 = .ok (.getfield 34, 3) := by decide +kernel
theorem d_Program_haveKept_44 : decode m_Program_haveKept.2.1 44 = .ok (.invokevirtual 58, 3) := by decide +kernel
theorem d_Program_haveKept_47 : decode m_Program_haveKept.2.1 47 = .ok (.aload_n 0, 1) := by decide +kernel
theorem d_Program_haveKept_48 : decode m_Program_haveKept.2.1 48 = .ok (.dup, 1) := by decide +kernel
theorem d_Program_haveKept_49 : decode m_Program_haveKept.2.1 49 = .ok (.getfield 34, 3) := by decide +kernel
theorem d_Program_haveKept_52 : decode m_Program_haveKept.2.1 52 = .ok (.iconst 1, 1) := by decide +kernel
theorem d_Program_haveKept_53 : decode m_Program_haveKept.2.1 53 = .ok (.iadd, 1) := by decide +kernel
theorem d_Program_haveKept_54 : decode m_Program_haveKept.2.1 54 = .ok (.putfield 34, 3) := by decide +kernel
theorem d_Program_haveKept_57 : decode m_Program_haveKept.2.1 57 = .ok (.return_, 1) := by decide +kernel
theorem d_Program_part_0 : decode m_Program_part.2.1 0 = .ok (.aload_n 0, 1) := by decide +kernel
theorem d_Program_part_1 : decode m_Program_part.2.1 1 = .ok (.getfield 14, 3) := by decide +kernel
theorem d_Program_part_4 : decode m_Program_part.2.1 4 = .ok (.iload_n 1, 1) := by decide +kernel
theorem d_Program_part_5 : decode m_Program_part.2.1 5 = .ok (.iconst 5, 1) := by decide +kernel
theorem d_Program_part_6 : decode m_Program_part.2.1 6 = .ok (.imul, 1) := by decide +kernel
theorem d_Program_part_7 : decode m_Program_part.2.1 7 = .ok (.iload_n 2, 1) := by decide +kernel
theorem d_Program_part_8 : decode m_Program_part.2.1 8 = .ok (.iadd, 1) := by decide +kernel
theorem d_Program_part_9 : decode m_Program_part.2.1 9 = .ok (.invokevirtual 23, 3) := by decide +kernel
theorem d_Program_part_12 : decode m_Program_part.2.1 12 = .ok (.ireturn, 1) := by decide +kernel
theorem d_Device_init_0 : decode m_Device_init.2.1 0 = .ok (.aload_n 0, 1) := by decide +kernel
theorem d_Device_init_1 : decode m_Device_init.2.1 1 = .ok (.invokespecial 3, 3) := by decide +kernel
theorem d_Device_init_4 : decode m_Device_init.2.1 4 = .ok (.aload_n 0, 1) := by decide +kernel
theorem d_Device_init_5 : decode m_Device_init.2.1 5 = .ok (.new 9, 3) := by decide +kernel
theorem d_Device_init_8 : decode m_Device_init.2.1 8 = .ok (.dup, 1) := by decide +kernel
theorem d_Device_init_9 : decode m_Device_init.2.1 9 = .ok (.bipush 31, 2) := by decide +kernel
theorem d_Device_init_11 : decode m_Device_init.2.1 11 = .ok (.invokespecial 11, 3) := by decide +kernel
theorem d_Device_init_14 : decode m_Device_init.2.1 14 = .ok (.putfield 14, 3) := by decide +kernel
theorem d_Device_init_17 : decode m_Device_init.2.1 17 = .ok (.aload_n 0, 1) := by decide +kernel
theorem d_Device_init_18 : decode m_Device_init.2.1 18 = .ok (.new 9, 3) := by decide +kernel
theorem d_Device_init_21 : decode m_Device_init.2.1 21 = .ok (.dup, 1) := by decide +kernel
theorem d_Device_init_22 : decode m_Device_init.2.1 22 = .ok (.bipush 6, 2) := by decide +kernel
theorem d_Device_init_24 : decode m_Device_init.2.1 24 = .ok (.invokespecial 11, 3) := by decide +kernel
theorem d_Device_init_27 : decode m_Device_init.2.1 27 = .ok (.putfield 20, 3) := by decide +kernel
theorem d_Device_init_30 : decode m_Device_init.2.1 30 = .ok (.aload_n 0, 1) := by decide +kernel
theorem d_Device_init_31 : decode m_Device_init.2.1 31 = .ok (.new 9, 3) := by decide +kernel
theorem d_Device_init_34 : decode m_Device_init.2.1 34 = .ok (.dup, 1) := by decide +kernel
theorem d_Device_init_35 : decode m_Device_init.2.1 35 = .ok (.bipush 31, 2) := by decide +kernel
theorem d_Device_init_37 : decode m_Device_init.2.1 37 = .ok (.invokespecial 11, 3) := by decide +kernel
theorem d_Device_init_40 : decode m_Device_init.2.1 40 = .ok (.putfield 23, 3) := by decide +kernel
theorem d_Device_init_43 : decode m_Device_init.2.1 43 = .ok (.aload_n 0, 1) := by decide +kernel
theorem d_Device_init_44 : decode m_Device_init.2.1 44 = .ok (.bipush (-9), 2) := by decide +kernel
theorem d_Device_init_46 : decode m_Device_init.2.1 46 = .ok (.putfield 26, 3) := by decide +kernel
theorem d_Device_init_49 : decode m_Device_init.2.1 49 = .ok (.return_, 1) := by decide +kernel
theorem d_Device_evaluate_0 : decode m_Device_evaluate.2.1 0 = .ok (.iload_n 3, 1) := by decide +kernel
theorem d_Device_evaluate_1 : decode m_Device_evaluate.2.1 1 = .ok (.aload_n 1, 1) := by decide +kernel
theorem d_Device_evaluate_2 : decode m_Device_evaluate.2.1 2 = .ok (.getfield 30, 3) := by decide +kernel
theorem d_Device_evaluate_5 : decode m_Device_evaluate.2.1 5 = .ok (.iload_n 3, 1) := by decide +kernel
theorem d_Device_evaluate_6 : decode m_Device_evaluate.2.1 6 = .ok (.invokevirtual 35, 3) := by decide +kernel
theorem d_Device_evaluate_9 : decode m_Device_evaluate.2.1 9 = .ok (.isub, 1) := by decide +kernel
theorem d_Device_evaluate_10 : decode m_Device_evaluate.2.1 10 = .ok (.iconst 1, 1) := by decide +kernel
theorem d_Device_evaluate_11 : decode m_Device_evaluate.2.1 11 = .ok (.iadd, 1) := by decide +kernel
theorem d_Device_evaluate_12 : decode m_Device_evaluate.2.1 12 = .ok (.istore 4, 2) := by decide +kernel
theorem d_Device_evaluate_14 : decode m_Device_evaluate.2.1 14 = .ok (.iload 4, 2) := by decide +kernel
theorem d_Device_evaluate_16 : decode m_Device_evaluate.2.1 16 = .ok (.iload_n 3, 1) := by decide +kernel
theorem d_Device_evaluate_17 : decode m_Device_evaluate.2.1 17 = .ok (.if_icmp .gt 143, 3) := by decide +kernel
theorem d_Device_evaluate_20 : decode m_Device_evaluate.2.1 20 = .ok (.aload_n 1, 1) := by decide +kernel
theorem d_Device_evaluate_21 : decode m_Device_evaluate.2.1 21 = .ok (.iload 4, 2) := by decide +kernel
theorem d_Device_evaluate_23 : decode m_Device_evaluate.2.1 23 = .ok (.invokevirtual 39, 3) := by decide +kernel
theorem d_Device_evaluate_26 : decode m_Device_evaluate.2.1 26 = .ok (.ifCond .ne 71, 3) := by decide +kernel
theorem d_Device_evaluate_29 : decode m_Device_evaluate.2.1 29 = .ok (.aload_n 0, 1) := by decide +kernel
theorem d_Device_evaluate_30 : decode m_Device_evaluate.2.1 30 = .ok (.getfield 14, 3) := by decide +kernel
theorem d_Device_evaluate_33 : decode m_Device_evaluate.2.1 33 = .ok (.aload_n 1, 1) := by decide +kernel
theorem d_Device_evaluate_34 : decode m_Device_evaluate.2.1 34 = .ok (.getfield 43, 3) := by decide +kernel
theorem d_Device_evaluate_37 : decode m_Device_evaluate.2.1 37 = .ok (.iload 4, 2) := by decide +kernel
theorem d_Device_evaluate_39 : decode m_Device_evaluate.2.1 39 = .ok (.invokevirtual 35, 3) := by decide +kernel
theorem d_Device_evaluate_42 : decode m_Device_evaluate.2.1 42 = .ok (.invokevirtual 35, 3) := by decide +kernel
theorem d_Device_evaluate_45 : decode m_Device_evaluate.2.1 45 = .ok (.istore 5, 2) := by decide +kernel
theorem d_Device_evaluate_47 : decode m_Device_evaluate.2.1 47 = .ok (.aload_n 0, 1) := by decide +kernel
theorem d_Device_evaluate_48 : decode m_Device_evaluate.2.1 48 = .ok (.getfield 14, 3) := by decide +kernel
theorem d_Device_evaluate_51 : decode m_Device_evaluate.2.1 51 = .ok (.aload_n 1, 1) := by decide +kernel
theorem d_Device_evaluate_52 : decode m_Device_evaluate.2.1 52 = .ok (.getfield 46, 3) := by decide +kernel
theorem d_Device_evaluate_55 : decode m_Device_evaluate.2.1 55 = .ok (.iload 4, 2) := by decide +kernel
theorem d_Device_evaluate_57 : decode m_Device_evaluate.2.1 57 = .ok (.invokevirtual 35, 3) := by decide +kernel
theorem d_Device_evaluate_60 : decode m_Device_evaluate.2.1 60 = .ok (.invokevirtual 35, 3) := by decide +kernel
theorem d_Device_evaluate_63 : decode m_Device_evaluate.2.1 63 = .ok (.istore 6, 2) := by decide +kernel
theorem d_Device_evaluate_65 : decode m_Device_evaluate.2.1 65 = .ok (.aload_n 0, 1) := by decide +kernel
theorem d_Device_evaluate_66 : decode m_Device_evaluate.2.1 66 = .ok (.aload_n 1, 1) := by decide +kernel
theorem d_Device_evaluate_67 : decode m_Device_evaluate.2.1 67 = .ok (.iload 4, 2) := by decide +kernel
theorem d_Device_evaluate_69 : decode m_Device_evaluate.2.1 69 = .ok (.iload 5, 2) := by decide +kernel
theorem d_Device_evaluate_71 : decode m_Device_evaluate.2.1 71 = .ok (.iload 6, 2) := by decide +kernel
theorem d_Device_evaluate_73 : decode m_Device_evaluate.2.1 73 = .ok (.invokevirtual 49, 3) := by decide +kernel
theorem d_Device_evaluate_76 : decode m_Device_evaluate.2.1 76 = .ok (.ifCond .ne 5, 3) := by decide +kernel
theorem d_Device_evaluate_79 : decode m_Device_evaluate.2.1 79 = .ok (.iconst 0, 1) := by decide +kernel
theorem d_Device_evaluate_80 : decode m_Device_evaluate.2.1 80 = .ok (.ireturn, 1) := by decide +kernel
theorem d_Device_evaluate_81 : decode m_Device_evaluate.2.1 81 = .ok (.aload_n 0, 1) := by decide +kernel
theorem d_Device_evaluate_82 : decode m_Device_evaluate.2.1 82 = .ok (.getfield 14, 3) := by decide +kernel
theorem d_Device_evaluate_85 : decode m_Device_evaluate.2.1 85 = .ok (.iload 4, 2) := by decide +kernel
theorem d_Device_evaluate_87 : decode m_Device_evaluate.2.1 87 = .ok (.aload_n 0, 1) := by decide +kernel
theorem d_Device_evaluate_88 : decode m_Device_evaluate.2.1 88 = .ok (.getfield 53, 3) := by decide +kernel
theorem d_Device_evaluate_91 : decode m_Device_evaluate.2.1 91 = .ok (.invokevirtual 56, 3) := by decide +kernel
theorem d_Device_evaluate_94 : decode m_Device_evaluate.2.1 94 = .ok (.goto 60, 3) := by decide +kernel
theorem d_Device_evaluate_97 : decode m_Device_evaluate.2.1 97 = .ok (.aload_n 1, 1) := by decide +kernel
theorem d_Device_evaluate_98 : decode m_Device_evaluate.2.1 98 = .ok (.getfield 60, 3) := by decide +kernel
theorem d_Device_evaluate_101 : decode m_Device_evaluate.2.1 101 = .ok (.iload 4, 2) := by decide +kernel
theorem d_Device_evaluate_103 : decode m_Device_evaluate.2.1 103 = .ok (.invokevirtual 35, 3) := by decide +kernel
theorem d_Device_evaluate_106 : decode m_Device_evaluate.2.1 106 = .ok (.bipush 48, 2) := by decide +kernel
theorem d_Device_evaluate_108 : decode m_Device_evaluate.2.1 108 = .ok (.if_icmp .ne 24, 3) := by decide +kernel
theorem d_Device_evaluate_111 : decode m_Device_evaluate.2.1 111 = .ok (.aload_n 0, 1) := by decide +kernel
theorem d_Device_evaluate_112 : decode m_Device_evaluate.2.1 112 = .ok (.getfield 14, 3) := by decide +kernel
theorem d_Device_evaluate_115 : decode m_Device_evaluate.2.1 115 = .ok (.iload 4, 2) := by decide +kernel
theorem d_Device_evaluate_117 : decode m_Device_evaluate.2.1 117 = .ok (.aload_n 1, 1) := by decide +kernel
theorem d_Device_evaluate_118 : decode m_Device_evaluate.2.1 118 = .ok (.getfield 63, 3) := by decide +kernel
theorem d_Device_evaluate_121 : decode m_Device_evaluate.2.1 121 = .ok (.iload 4, 2) := by decide +kernel
theorem d_Device_evaluate_123 : decode m_Device_evaluate.2.1 123 = .ok (.invokevirtual 35, 3) := by decide +kernel
theorem d_Device_evaluate_126 : decode m_Device_evaluate.2.1 126 = .ok (.invokevirtual 56, 3) := by decide +kernel
theorem d_Device_evaluate_129 : decode m_Device_evaluate.2.1 129 = .ok (.goto 25, 3) := by decide +kernel
theorem d_Device_evaluate_132 : decode m_Device_evaluate.2.1 132 = .ok (.aload_n 0, 1) := by decide +kernel
theorem d_Device_evaluate_133 : decode m_Device_evaluate.2.1 133 = .ok (.getfield 14, 3) := by decide +kernel
theorem d_Device_evaluate_136 : decode m_Device_evaluate.2.1 136 = .ok (.iload 4, 2) := by decide +kernel
theorem d_Device_evaluate_138 : decode m_Device_evaluate.2.1 138 = .ok (.aload_n 2, 1) := by decide +kernel
theorem d_Device_evaluate_139 : decode m_Device_evaluate.2.1 139 = .ok (.aload_n 1, 1) := by decide +kernel
theorem d_Device_evaluate_140 : decode m_Device_evaluate.2.1 140 = .ok (.getfield 63, 3) := by decide +kernel
theorem d_Device_evaluate_143 : decode m_Device_evaluate.2.1 143 = .ok (.iload 4, 2) := by decide +kernel
theorem d_Device_evaluate_145 : decode m_Device_evaluate.2.1 145 = .ok (.invokevirtual 35, 3) := by decide +kernel
theorem d_Device_evaluate_148 : decode m_Device_evaluate.2.1 148 = .ok (.invokevirtual 35, 3) := by decide +kernel
theorem d_Device_evaluate_151 : decode m_Device_evaluate.2.1 151 = .ok (.invokevirtual 56, 3) := by decide +kernel
theorem d_Device_evaluate_154 : decode m_Device_evaluate.2.1 154 = .ok (.iinc 4 1, 3) := by decide +kernel
theorem d_Device_evaluate_157 : decode m_Device_evaluate.2.1 157 = .ok (.goto (-143), 3) := by decide +kernel
theorem d_Device_evaluate_160 : decode m_Device_evaluate.2.1 160 = .ok (.aload_n 0, 1) := by decide +kernel
theorem d_Device_evaluate_161 : decode m_Device_evaluate.2.1 161 = .ok (.aload_n 0, 1) := by decide +kernel
theorem d_Device_evaluate_162 : decode m_Device_evaluate.2.1 162 = .ok (.getfield 14, 3) := by decide +kernel
theorem d_Device_evaluate_165 : decode m_Device_evaluate.2.1 165 = .ok (.iload_n 3, 1) := by decide +kernel
theorem d_Device_evaluate_166 : decode m_Device_evaluate.2.1 166 = .ok (.invokevirtual 35, 3) := by decide +kernel
theorem d_Device_evaluate_169 : decode m_Device_evaluate.2.1 169 = .ok (.putfield 53, 3) := by decide +kernel
theorem d_Device_evaluate_172 : decode m_Device_evaluate.2.1 172 = .ok (.iconst 1, 1) := by decide +kernel
theorem d_Device_evaluate_173 : decode m_Device_evaluate.2.1 173 = .ok (.ireturn, 1) := by decide +kernel
theorem d_Device_operate_0 : decode m_Device_operate.2.1 0 = .ok (.aload_n 1, 1) := by decide +kernel
theorem d_Device_operate_1 : decode m_Device_operate.2.1 1 = .ok (.getfield 60, 3) := by decide +kernel
theorem d_Device_operate_4 : decode m_Device_operate.2.1 4 = .ok (.iload_n 2, 1) := by decide +kernel
theorem d_Device_operate_5 : decode m_Device_operate.2.1 5 = .ok (.invokevirtual 35, 3) := by decide +kernel
theorem d_Device_operate_8 : decode m_Device_operate.2.1 8 = .ok (.istore 5, 2) := by decide +kernel
theorem d_Device_operate_10 : decode m_Device_operate.2.1 10 = .ok (.iload 5, 2) := by decide +kernel
theorem d_Device_operate_12 : decode m_Device_operate.2.1 12 = .ok (.iload_n 3, 1) := by decide +kernel
theorem d_Device_operate_13 : decode m_Device_operate.2.1 13 = .ok (.iload 4, 2) := by decide +kernel
theorem d_Device_operate_15 : decode m_Device_operate.2.1 15 = .ok (.invokestatic 83, 3) := by decide +kernel
theorem d_Device_operate_18 : decode m_Device_operate.2.1 18 = .ok (.ifCond .eq 10, 3) := by decide +kernel
theorem d_Device_operate_21 : decode m_Device_operate.2.1 21 = .ok (.aload_n 0, 1) := by decide +kernel
theorem d_Device_operate_22 : decode m_Device_operate.2.1 22 = .ok (.iload_n 2, 1) := by decide +kernel
theorem d_Device_operate_23 : decode m_Device_operate.2.1 23 = .ok (.putfield 26, 3) := by decide +kernel
theorem d_Device_operate_26 : decode m_Device_operate.2.1 26 = .ok (.iconst 0, 1) := by decide +kernel
theorem d_Device_operate_27 : decode m_Device_operate.2.1 27 = .ok (.ireturn, 1) := by decide +kernel
theorem d_Device_operate_28 : decode m_Device_operate.2.1 28 = .ok (.aload_n 0, 1) := by decide +kernel
theorem d_Device_operate_29 : decode m_Device_operate.2.1 29 = .ok (.iload 5, 2) := by decide +kernel
theorem d_Device_operate_31 : decode m_Device_operate.2.1 31 = .ok (.iload_n 3, 1) := by decide +kernel
theorem d_Device_operate_32 : decode m_Device_operate.2.1 32 = .ok (.iload 4, 2) := by decide +kernel
theorem d_Device_operate_34 : decode m_Device_operate.2.1 34 = .ok (.invokestatic 89, 3) := by decide +kernel
theorem d_Device_operate_37 : decode m_Device_operate.2.1 37 = .ok (.putfield 53, 3) := by decide +kernel
theorem d_Device_operate_40 : decode m_Device_operate.2.1 40 = .ok (.iconst 1, 1) := by decide +kernel
theorem d_Device_operate_41 : decode m_Device_operate.2.1 41 = .ok (.ireturn, 1) := by decide +kernel
theorem d_Device_goThrough_0 : decode m_Device_goThrough.2.1 0 = .ok (.aload_n 0, 1) := by decide +kernel
theorem d_Device_goThrough_1 : decode m_Device_goThrough.2.1 1 = .ok (.getfield 20, 3) := by decide +kernel
theorem d_Device_goThrough_4 : decode m_Device_goThrough.2.1 4 = .ok (.invokevirtual 66, 3) := by decide +kernel
theorem d_Device_goThrough_7 : decode m_Device_goThrough.2.1 7 = .ok (.aload_n 0, 1) := by decide +kernel
theorem d_Device_goThrough_8 : decode m_Device_goThrough.2.1 8 = .ok (.getfield 23, 3) := by decide +kernel
theorem d_Device_goThrough_11 : decode m_Device_goThrough.2.1 11 = .ok (.invokevirtual 66, 3) := by decide +kernel
theorem d_Device_goThrough_14 : decode m_Device_goThrough.2.1 14 = .ok (.iconst 0, 1) := by decide +kernel
theorem d_Device_goThrough_15 : decode m_Device_goThrough.2.1 15 = .ok (.istore 5, 2) := by decide +kernel
theorem d_Device_goThrough_17 : decode m_Device_goThrough.2.1 17 = .ok (.iload 5, 2) := by decide +kernel
theorem d_Device_goThrough_19 : decode m_Device_goThrough.2.1 19 = .ok (.iload_n 2, 1) := by decide +kernel
theorem d_Device_goThrough_20 : decode m_Device_goThrough.2.1 20 = .ok (.if_icmp .ge 24, 3) := by decide +kernel
theorem d_Device_goThrough_23 : decode m_Device_goThrough.2.1 23 = .ok (.aload_n 0, 1) := by decide +kernel
theorem d_Device_goThrough_24 : decode m_Device_goThrough.2.1 24 = .ok (.aload_n 1, 1) := by decide +kernel
theorem d_Device_goThrough_25 : decode m_Device_goThrough.2.1 25 = .ok (.iload 5, 2) := by decide +kernel
theorem d_Device_goThrough_27 : decode m_Device_goThrough.2.1 27 = .ok (.aload_n 3, 1) := by decide +kernel
theorem d_Device_goThrough_28 : decode m_Device_goThrough.2.1 28 = .ok (.aload 4, 2) := by decide +kernel
theorem d_Device_goThrough_30 : decode m_Device_goThrough.2.1 30 = .ok (.invokevirtual 69, 3) := by decide +kernel
theorem d_Device_goThrough_33 : decode m_Device_goThrough.2.1 33 = .ok (.ifCond .ne 5, 3) := by decide +kernel
theorem d_Device_goThrough_36 : decode m_Device_goThrough.2.1 36 = .ok (.iconst 0, 1) := by decide +kernel
theorem d_Device_goThrough_37 : decode m_Device_goThrough.2.1 37 = .ok (.ireturn, 1) := by decide +kernel
theorem d_Device_goThrough_38 : decode m_Device_goThrough.2.1 38 = .ok (.iinc 5 1, 3) := by decide +kernel
theorem d_Device_goThrough_41 : decode m_Device_goThrough.2.1 41 = .ok (.goto (-24), 3) := by decide +kernel
theorem d_Device_goThrough_44 : decode m_Device_goThrough.2.1 44 = .ok (.aload_n 0, 1) := by decide +kernel
theorem d_Device_goThrough_45 : decode m_Device_goThrough.2.1 45 = .ok (.aload_n 0, 1) := by decide +kernel
theorem d_Device_goThrough_46 : decode m_Device_goThrough.2.1 46 = .ok (.getfield 20, 3) := by decide +kernel
theorem d_Device_goThrough_49 : decode m_Device_goThrough.2.1 49 = .ok (.iconst 0, 1) := by decide +kernel
theorem d_Device_goThrough_50 : decode m_Device_goThrough.2.1 50 = .ok (.invokevirtual 35, 3) := by decide +kernel
theorem d_Device_goThrough_53 : decode m_Device_goThrough.2.1 53 = .ok (.putfield 53, 3) := by decide +kernel
theorem d_Device_goThrough_56 : decode m_Device_goThrough.2.1 56 = .ok (.iconst 1, 1) := by decide +kernel
theorem d_Device_goThrough_57 : decode m_Device_goThrough.2.1 57 = .ok (.ireturn, 1) := by decide +kernel
theorem d_Device_step_0 : decode m_Device_step.2.1 0 = .ok (.aload_n 1, 1) := by decide +kernel
theorem d_Device_step_1 : decode m_Device_step.2.1 1 = .ok (.iload_n 2, 1) := by decide +kernel
theorem d_Device_step_2 : decode m_Device_step.2.1 2 = .ok (.iconst 1, 1) := by decide +kernel
theorem d_Device_step_3 : decode m_Device_step.2.1 3 = .ok (.invokevirtual 73, 3) := by decide +kernel
theorem d_Device_step_6 : decode m_Device_step.2.1 6 = .ok (.istore 5, 2) := by decide +kernel
theorem d_Device_step_8 : decode m_Device_step.2.1 8 = .ok (.aload_n 1, 1) := by decide +kernel
theorem d_Device_step_9 : decode m_Device_step.2.1 9 = .ok (.iload_n 2, 1) := by decide +kernel
theorem d_Device_step_10 : decode m_Device_step.2.1 10 = .ok (.iconst 2, 1) := by decide +kernel
theorem d_Device_step_11 : decode m_Device_step.2.1 11 = .ok (.invokevirtual 73, 3) := by decide +kernel
theorem d_Device_step_14 : decode m_Device_step.2.1 14 = .ok (.istore 6, 2) := by decide +kernel
theorem d_Device_step_16 : decode m_Device_step.2.1 16 = .ok (.aload_n 1, 1) := by decide +kernel
theorem d_Device_step_17 : decode m_Device_step.2.1 17 = .ok (.iload_n 2, 1) := by decide +kernel
theorem d_Device_step_18 : decode m_Device_step.2.1 18 = .ok (.iconst 3, 1) := by decide +kernel
theorem d_Device_step_19 : decode m_Device_step.2.1 19 = .ok (.invokevirtual 73, 3) := by decide +kernel
theorem d_Device_step_22 : decode m_Device_step.2.1 22 = .ok (.istore 7, 2) := by decide +kernel
theorem d_Device_step_24 : decode m_Device_step.2.1 24 = .ok (.aload_n 1, 1) := by decide +kernel
theorem d_Device_step_25 : decode m_Device_step.2.1 25 = .ok (.iload_n 2, 1) := by decide +kernel
theorem d_Device_step_26 : decode m_Device_step.2.1 26 = .ok (.iconst 4, 1) := by decide +kernel
theorem d_Device_step_27 : decode m_Device_step.2.1 27 = .ok (.invokevirtual 73, 3) := by decide +kernel
theorem d_Device_step_30 : decode m_Device_step.2.1 30 = .ok (.istore 8, 2) := by decide +kernel
theorem d_Device_step_32 : decode m_Device_step.2.1 32 = .ok (.iconst 1, 1) := by decide +kernel
theorem d_Device_step_33 : decode m_Device_step.2.1 33 = .ok (.istore 9, 2) := by decide +kernel
theorem d_Device_step_35 : decode m_Device_step.2.1 35 = .ok (.aload_n 1, 1) := by decide +kernel
theorem d_Device_step_36 : decode m_Device_step.2.1 36 = .ok (.iload_n 2, 1) := by decide +kernel
theorem d_Device_step_37 : decode m_Device_step.2.1 37 = .ok (.iconst 0, 1) := by decide +kernel
theorem d_Device_step_38 : decode m_Device_step.2.1 38 = .ok (.invokevirtual 73, 3) := by decide +kernel
theorem d_Device_step_41 : decode m_Device_step.2.1 41 = .ok (.tableswitch 105 0 2 #[27, 44, 74], 27) := by decide +kernel
theorem d_Device_step_68 : decode m_Device_step.2.1 68 = .ok (.aload_n 0, 1) := by decide +kernel
theorem d_Device_step_69 : decode m_Device_step.2.1 69 = .ok (.aload_n 0, 1) := by decide +kernel
theorem d_Device_step_70 : decode m_Device_step.2.1 70 = .ok (.aload 4, 2) := by decide +kernel
theorem d_Device_step_72 : decode m_Device_step.2.1 72 = .ok (.iload 7, 2) := by decide +kernel
theorem d_Device_step_74 : decode m_Device_step.2.1 74 = .ok (.iload 8, 2) := by decide +kernel
theorem d_Device_step_76 : decode m_Device_step.2.1 76 = .ok (.invokevirtual 79, 3) := by decide +kernel
theorem d_Device_step_79 : decode m_Device_step.2.1 79 = .ok (.putfield 53, 3) := by decide +kernel
theorem d_Device_step_82 : decode m_Device_step.2.1 82 = .ok (.goto 90, 3) := by decide +kernel
theorem d_Device_step_85 : decode m_Device_step.2.1 85 = .ok (.aload_n 0, 1) := by decide +kernel
theorem d_Device_step_86 : decode m_Device_step.2.1 86 = .ok (.aload_n 3, 1) := by decide +kernel
theorem d_Device_step_87 : decode m_Device_step.2.1 87 = .ok (.iload 6, 2) := by decide +kernel
theorem d_Device_step_89 : decode m_Device_step.2.1 89 = .ok (.aload_n 0, 1) := by decide +kernel
theorem d_Device_step_90 : decode m_Device_step.2.1 90 = .ok (.getfield 20, 3) := by decide +kernel
theorem d_Device_step_93 : decode m_Device_step.2.1 93 = .ok (.iload 7, 2) := by decide +kernel
theorem d_Device_step_95 : decode m_Device_step.2.1 95 = .ok (.invokevirtual 35, 3) := by decide +kernel
theorem d_Device_step_98 : decode m_Device_step.2.1 98 = .ok (.aload_n 0, 1) := by decide +kernel
theorem d_Device_step_99 : decode m_Device_step.2.1 99 = .ok (.getfield 20, 3) := by decide +kernel
theorem d_Device_step_102 : decode m_Device_step.2.1 102 = .ok (.iload 8, 2) := by decide +kernel
theorem d_Device_step_104 : decode m_Device_step.2.1 104 = .ok (.invokevirtual 35, 3) := by decide +kernel
theorem d_Device_step_107 : decode m_Device_step.2.1 107 = .ok (.invokevirtual 49, 3) := by decide +kernel
theorem d_Device_step_110 : decode m_Device_step.2.1 110 = .ok (.istore 9, 2) := by decide +kernel
theorem d_Device_step_112 : decode m_Device_step.2.1 112 = .ok (.goto 60, 3) := by decide +kernel
theorem d_Device_step_115 : decode m_Device_step.2.1 115 = .ok (.aload_n 0, 1) := by decide +kernel
theorem d_Device_step_116 : decode m_Device_step.2.1 116 = .ok (.aload_n 3, 1) := by decide +kernel
theorem d_Device_step_117 : decode m_Device_step.2.1 117 = .ok (.iload 6, 2) := by decide +kernel
theorem d_Device_step_119 : decode m_Device_step.2.1 119 = .ok (.aload_n 0, 1) := by decide +kernel
theorem d_Device_step_120 : decode m_Device_step.2.1 120 = .ok (.getfield 20, 3) := by decide +kernel
theorem d_Device_step_123 : decode m_Device_step.2.1 123 = .ok (.iload 5, 2) := by decide +kernel
theorem d_Device_step_125 : decode m_Device_step.2.1 125 = .ok (.invokevirtual 35, 3) := by decide +kernel
theorem d_Device_step_128 : decode m_Device_step.2.1 128 = .ok (.aload_n 0, 1) := by decide +kernel
theorem d_Device_step_129 : decode m_Device_step.2.1 129 = .ok (.aload 4, 2) := by decide +kernel
theorem d_Device_step_131 : decode m_Device_step.2.1 131 = .ok (.iload 7, 2) := by decide +kernel
theorem d_Device_step_133 : decode m_Device_step.2.1 133 = .ok (.iload 8, 2) := by decide +kernel
theorem d_Device_step_135 : decode m_Device_step.2.1 135 = .ok (.invokevirtual 79, 3) := by decide +kernel
theorem d_Device_step_138 : decode m_Device_step.2.1 138 = .ok (.invokevirtual 49, 3) := by decide +kernel
theorem d_Device_step_141 : decode m_Device_step.2.1 141 = .ok (.istore 9, 2) := by decide +kernel
theorem d_Device_step_143 : decode m_Device_step.2.1 143 = .ok (.goto 29, 3) := by decide +kernel
theorem d_Device_step_146 : decode m_Device_step.2.1 146 = .ok (.aload_n 0, 1) := by decide +kernel
theorem d_Device_step_147 : decode m_Device_step.2.1 147 = .ok (.aload_n 0, 1) := by decide +kernel
theorem d_Device_step_148 : decode m_Device_step.2.1 148 = .ok (.getfield 20, 3) := by decide +kernel
theorem d_Device_step_151 : decode m_Device_step.2.1 151 = .ok (.iload 5, 2) := by decide +kernel
theorem d_Device_step_153 : decode m_Device_step.2.1 153 = .ok (.invokevirtual 35, 3) := by decide +kernel
theorem d_Device_step_156 : decode m_Device_step.2.1 156 = .ok (.putfield 53, 3) := by decide +kernel
theorem d_Device_step_159 : decode m_Device_step.2.1 159 = .ok (.aload_n 0, 1) := by decide +kernel
theorem d_Device_step_160 : decode m_Device_step.2.1 160 = .ok (.getfield 23, 3) := by decide +kernel
theorem d_Device_step_163 : decode m_Device_step.2.1 163 = .ok (.iload 8, 2) := by decide +kernel
theorem d_Device_step_165 : decode m_Device_step.2.1 165 = .ok (.aload_n 0, 1) := by decide +kernel
theorem d_Device_step_166 : decode m_Device_step.2.1 166 = .ok (.getfield 53, 3) := by decide +kernel
theorem d_Device_step_169 : decode m_Device_step.2.1 169 = .ok (.invokevirtual 56, 3) := by decide +kernel
theorem d_Device_step_172 : decode m_Device_step.2.1 172 = .ok (.iload 9, 2) := by decide +kernel
theorem d_Device_step_174 : decode m_Device_step.2.1 174 = .ok (.ifCond .eq 16, 3) := by decide +kernel
theorem d_Device_step_177 : decode m_Device_step.2.1 177 = .ok (.aload_n 0, 1) := by decide +kernel
theorem d_Device_step_178 : decode m_Device_step.2.1 178 = .ok (.getfield 20, 3) := by decide +kernel
theorem d_Device_step_181 : decode m_Device_step.2.1 181 = .ok (.iload 5, 2) := by decide +kernel
theorem d_Device_step_183 : decode m_Device_step.2.1 183 = .ok (.aload_n 0, 1) := by decide +kernel
theorem d_Device_step_184 : decode m_Device_step.2.1 184 = .ok (.getfield 53, 3) := by decide +kernel
theorem d_Device_step_187 : decode m_Device_step.2.1 187 = .ok (.invokevirtual 56, 3) := by decide +kernel
theorem d_Device_step_190 : decode m_Device_step.2.1 190 = .ok (.iload 9, 2) := by decide +kernel
theorem d_Device_step_192 : decode m_Device_step.2.1 192 = .ok (.ireturn, 1) := by decide +kernel
theorem d_Device_source_0 : decode m_Device_source.2.1 0 = .ok (.iload_n 2, 1) := by decide +kernel
theorem d_Device_source_1 : decode m_Device_source.2.1 1 = .ok (.ifCond .ne 5, 3) := by decide +kernel
theorem d_Device_source_4 : decode m_Device_source.2.1 4 = .ok (.iload_n 3, 1) := by decide +kernel
theorem d_Device_source_5 : decode m_Device_source.2.1 5 = .ok (.ireturn, 1) := by decide +kernel
theorem d_Device_source_6 : decode m_Device_source.2.1 6 = .ok (.iload_n 2, 1) := by decide +kernel
theorem d_Device_source_7 : decode m_Device_source.2.1 7 = .ok (.iconst 1, 1) := by decide +kernel
theorem d_Device_source_8 : decode m_Device_source.2.1 8 = .ok (.if_icmp .ne 11, 3) := by decide +kernel
theorem d_Device_source_11 : decode m_Device_source.2.1 11 = .ok (.aload_n 1, 1) := by decide +kernel
theorem d_Device_source_12 : decode m_Device_source.2.1 12 = .ok (.iload_n 3, 1) := by decide +kernel
theorem d_Device_source_13 : decode m_Device_source.2.1 13 = .ok (.invokevirtual 35, 3) := by decide +kernel
theorem d_Device_source_16 : decode m_Device_source.2.1 16 = .ok (.goto 11, 3) := by decide +kernel
theorem d_Device_source_19 : decode m_Device_source.2.1 19 = .ok (.aload_n 0, 1) := by decide +kernel
theorem d_Device_source_20 : decode m_Device_source.2.1 20 = .ok (.getfield 23, 3) := by decide +kernel
theorem d_Device_source_23 : decode m_Device_source.2.1 23 = .ok (.iload_n 3, 1) := by decide +kernel
theorem d_Device_source_24 : decode m_Device_source.2.1 24 = .ok (.invokevirtual 35, 3) := by decide +kernel
theorem d_Device_source_27 : decode m_Device_source.2.1 27 = .ok (.ireturn, 1) := by decide +kernel
theorem d_Shares_init_0 : decode m_Shares_init.2.1 0 = .ok (.aload_n 0, 1) := by decide +kernel
theorem d_Shares_init_1 : decode m_Shares_init.2.1 1 = .ok (.invokespecial 3, 3) := by decide +kernel
theorem d_Shares_init_4 : decode m_Shares_init.2.1 4 = .ok (.aload_n 0, 1) := by decide +kernel
theorem d_Shares_init_5 : decode m_Shares_init.2.1 5 = .ok (.new 9, 3) := by decide +kernel
theorem d_Shares_init_8 : decode m_Shares_init.2.1 8 = .ok (.dup, 1) := by decide +kernel
theorem d_Shares_init_9 : decode m_Shares_init.2.1 9 = .ok (.iconst 5, 1) := by decide +kernel
theorem d_Shares_init_10 : decode m_Shares_init.2.1 10 = .ok (.invokespecial 11, 3) := by decide +kernel
theorem d_Shares_init_13 : decode m_Shares_init.2.1 13 = .ok (.putfield 14, 3) := by decide +kernel
theorem d_Shares_init_16 : decode m_Shares_init.2.1 16 = .ok (.aload_n 0, 1) := by decide +kernel
theorem d_Shares_init_17 : decode m_Shares_init.2.1 17 = .ok (.new 9, 3) := by decide +kernel
theorem d_Shares_init_20 : decode m_Shares_init.2.1 20 = .ok (.dup, 1) := by decide +kernel
theorem d_Shares_init_21 : decode m_Shares_init.2.1 21 = .ok (.iconst 5, 1) := by decide +kernel
theorem d_Shares_init_22 : decode m_Shares_init.2.1 22 = .ok (.invokespecial 11, 3) := by decide +kernel
theorem d_Shares_init_25 : decode m_Shares_init.2.1 25 = .ok (.putfield 20, 3) := by decide +kernel
theorem d_Shares_init_28 : decode m_Shares_init.2.1 28 = .ok (.aload_n 0, 1) := by decide +kernel
theorem d_Shares_init_29 : decode m_Shares_init.2.1 29 = .ok (.new 23, 3) := by decide +kernel
theorem d_Shares_init_32 : decode m_Shares_init.2.1 32 = .ok (.dup, 1) := by decide +kernel
theorem d_Shares_init_33 : decode m_Shares_init.2.1 33 = .ok (.invokespecial 25, 3) := by decide +kernel
theorem d_Shares_init_36 : decode m_Shares_init.2.1 36 = .ok (.putfield 26, 3) := by decide +kernel
theorem d_Shares_init_39 : decode m_Shares_init.2.1 39 = .ok (.return_, 1) := by decide +kernel
theorem d_Shares_find_0 : decode m_Shares_find.2.1 0 = .ok (.aload_n 0, 1) := by decide +kernel
theorem d_Shares_find_1 : decode m_Shares_find.2.1 1 = .ok (.iconst 0, 1) := by decide +kernel
theorem d_Shares_find_2 : decode m_Shares_find.2.1 2 = .ok (.putfield 30, 3) := by decide +kernel
theorem d_Shares_find_5 : decode m_Shares_find.2.1 5 = .ok (.aload_n 0, 1) := by decide +kernel
theorem d_Shares_find_6 : decode m_Shares_find.2.1 6 = .ok (.iconst 0, 1) := by decide +kernel
theorem d_Shares_find_7 : decode m_Shares_find.2.1 7 = .ok (.putfield 34, 3) := by decide +kernel
theorem d_Shares_find_10 : decode m_Shares_find.2.1 10 = .ok (.iconst 0, 1) := by decide +kernel
theorem d_Shares_find_11 : decode m_Shares_find.2.1 11 = .ok (.istore_n 2, 1) := by decide +kernel
theorem d_Shares_find_12 : decode m_Shares_find.2.1 12 = .ok (.iload_n 2, 1) := by decide +kernel
theorem d_Shares_find_13 : decode m_Shares_find.2.1 13 = .ok (.aload_n 1, 1) := by decide +kernel
theorem d_Shares_find_14 : decode m_Shares_find.2.1 14 = .ok (.getfield 38, 3) := by decide +kernel
theorem d_Shares_find_17 : decode m_Shares_find.2.1 17 = .ok (.if_icmp .ge 90, 3) := by decide +kernel
theorem d_Shares_find_20 : decode m_Shares_find.2.1 20 = .ok (.aload_n 0, 1) := by decide +kernel
theorem d_Shares_find_21 : decode m_Shares_find.2.1 21 = .ok (.getfield 30, 3) := by decide +kernel
theorem d_Shares_find_24 : decode m_Shares_find.2.1 24 = .ok (.iconst 5, 1) := by decide +kernel
theorem d_Shares_find_25 : decode m_Shares_find.2.1 25 = .ok (.if_icmp .ge 82, 3) := by decide +kernel
theorem d_Shares_find_28 : decode m_Shares_find.2.1 28 = .ok (.aload_n 1, 1) := by decide +kernel
theorem d_Shares_find_29 : decode m_Shares_find.2.1 29 = .ok (.getfield 43, 3) := by decide +kernel
theorem d_Shares_find_32 : decode m_Shares_find.2.1 32 = .ok (.iload_n 2, 1) := by decide +kernel
theorem d_Shares_find_33 : decode m_Shares_find.2.1 33 = .ok (.invokevirtual 46, 3) := by decide +kernel
theorem d_Shares_find_36 : decode m_Shares_find.2.1 36 = .ok (.iload_n 2, 1) := by decide +kernel
theorem d_Shares_find_37 : decode m_Shares_find.2.1 37 = .ok (.if_icmp .ne 64, 3) := by decide +kernel
theorem d_Shares_find_40 : decode m_Shares_find.2.1 40 = .ok (.aload_n 1, 1) := by decide +kernel
theorem d_Shares_find_41 : decode m_Shares_find.2.1 41 = .ok (.iload_n 2, 1) := by decide +kernel
theorem d_Shares_find_42 : decode m_Shares_find.2.1 42 = .ok (.invokevirtual 50, 3) := by decide +kernel
theorem d_Shares_find_45 : decode m_Shares_find.2.1 45 = .ok (.ifCond .ne 56, 3) := by decide +kernel
theorem d_Shares_find_48 : decode m_Shares_find.2.1 48 = .ok (.aload_n 1, 1) := by decide +kernel
theorem d_Shares_find_49 : decode m_Shares_find.2.1 49 = .ok (.iload_n 2, 1) := by decide +kernel
theorem d_Shares_find_50 : decode m_Shares_find.2.1 50 = .ok (.invokevirtual 54, 3) := by decide +kernel
theorem d_Shares_find_53 : decode m_Shares_find.2.1 53 = .ok (.ifCond .ne 48, 3) := by decide +kernel
theorem d_Shares_find_56 : decode m_Shares_find.2.1 56 = .ok (.aload_n 1, 1) := by decide +kernel
theorem d_Shares_find_57 : decode m_Shares_find.2.1 57 = .ok (.iload_n 2, 1) := by decide +kernel
theorem d_Shares_find_58 : decode m_Shares_find.2.1 58 = .ok (.invokestatic 57, 3) := by decide +kernel
theorem d_Shares_find_61 : decode m_Shares_find.2.1 61 = .ok (.istore_n 3, 1) := by decide +kernel
theorem d_Shares_find_62 : decode m_Shares_find.2.1 62 = .ok (.iload_n 3, 1) := by decide +kernel
theorem d_Shares_find_63 : decode m_Shares_find.2.1 63 = .ok (.iconst 2, 1) := by decide +kernel
theorem d_Shares_find_64 : decode m_Shares_find.2.1 64 = .ok (.if_icmp .lt 37, 3) := by decide +kernel
theorem d_Shares_find_67 : decode m_Shares_find.2.1 67 = .ok (.aload_n 0, 1) := by decide +kernel
theorem d_Shares_find_68 : decode m_Shares_find.2.1 68 = .ok (.getfield 14, 3) := by decide +kernel
theorem d_Shares_find_71 : decode m_Shares_find.2.1 71 = .ok (.aload_n 0, 1) := by decide +kernel
theorem d_Shares_find_72 : decode m_Shares_find.2.1 72 = .ok (.getfield 30, 3) := by decide +kernel
theorem d_Shares_find_75 : decode m_Shares_find.2.1 75 = .ok (.iload_n 2, 1) := by decide +kernel
theorem d_Shares_find_76 : decode m_Shares_find.2.1 76 = .ok (.invokevirtual 61, 3) := by decide +kernel
theorem d_Shares_find_79 : decode m_Shares_find.2.1 79 = .ok (.aload_n 0, 1) := by decide +kernel
theorem d_Shares_find_80 : decode m_Shares_find.2.1 80 = .ok (.getfield 20, 3) := by decide +kernel
theorem d_Shares_find_83 : decode m_Shares_find.2.1 83 = .ok (.aload_n 0, 1) := by decide +kernel
theorem d_Shares_find_84 : decode m_Shares_find.2.1 84 = .ok (.getfield 30, 3) := by decide +kernel
theorem d_Shares_find_87 : decode m_Shares_find.2.1 87 = .ok (.iload_n 3, 1) := by decide +kernel
theorem d_Shares_find_88 : decode m_Shares_find.2.1 88 = .ok (.invokevirtual 61, 3) := by decide +kernel
theorem d_Shares_find_91 : decode m_Shares_find.2.1 91 = .ok (.aload_n 0, 1) := by decide +kernel
theorem d_Shares_find_92 : decode m_Shares_find.2.1 92 = .ok (.dup, 1) := by decide +kernel
theorem d_Shares_find_93 : decode m_Shares_find.2.1 93 = .ok (.getfield 30, 3) := by decide +kernel
theorem d_Shares_find_96 : decode m_Shares_find.2.1 96 = .ok (.iconst 1, 1) := by decide +kernel
theorem d_Shares_find_97 : decode m_Shares_find.2.1 97 = .ok (.iadd, 1) := by decide +kernel
theorem d_Shares_find_98 : decode m_Shares_find.2.1 98 = .ok (.putfield 30, 3) := by decide +kernel
theorem d_Shares_find_101 : decode m_Shares_find.2.1 101 = .ok (.iinc 2 1, 3) := by decide +kernel
theorem d_Shares_find_104 : decode m_Shares_find.2.1 104 = .ok (.goto (-92), 3) := by decide +kernel
theorem d_Shares_find_107 : decode m_Shares_find.2.1 107 = .ok (.return_, 1) := by decide +kernel
theorem d_Shares_timesOf_0 : decode m_Shares_timesOf.2.1 0 = .ok (.iconst 0, 1) := by decide +kernel
theorem d_Shares_timesOf_1 : decode m_Shares_timesOf.2.1 1 = .ok (.istore_n 2, 1) := by decide +kernel
theorem d_Shares_timesOf_2 : decode m_Shares_timesOf.2.1 2 = .ok (.iload_n 1, 1) := by decide +kernel
theorem d_Shares_timesOf_3 : decode m_Shares_timesOf.2.1 3 = .ok (.istore_n 3, 1) := by decide +kernel
theorem d_Shares_timesOf_4 : decode m_Shares_timesOf.2.1 4 = .ok (.iload_n 3, 1) := by decide +kernel
theorem d_Shares_timesOf_5 : decode m_Shares_timesOf.2.1 5 = .ok (.aload_n 0, 1) := by decide +kernel
theorem d_Shares_timesOf_6 : decode m_Shares_timesOf.2.1 6 = .ok (.getfield 38, 3) := by decide +kernel
theorem d_Shares_timesOf_9 : decode m_Shares_timesOf.2.1 9 = .ok (.if_icmp .ge 24, 3) := by decide +kernel
theorem d_Shares_timesOf_12 : decode m_Shares_timesOf.2.1 12 = .ok (.aload_n 0, 1) := by decide +kernel
theorem d_Shares_timesOf_13 : decode m_Shares_timesOf.2.1 13 = .ok (.getfield 43, 3) := by decide +kernel
theorem d_Shares_timesOf_16 : decode m_Shares_timesOf.2.1 16 = .ok (.iload_n 3, 1) := by decide +kernel
theorem d_Shares_timesOf_17 : decode m_Shares_timesOf.2.1 17 = .ok (.invokevirtual 46, 3) := by decide +kernel
theorem d_Shares_timesOf_20 : decode m_Shares_timesOf.2.1 20 = .ok (.iload_n 1, 1) := by decide +kernel
theorem d_Shares_timesOf_21 : decode m_Shares_timesOf.2.1 21 = .ok (.if_icmp .ne 6, 3) := by decide +kernel
theorem d_Shares_timesOf_24 : decode m_Shares_timesOf.2.1 24 = .ok (.iinc 2 1, 3) := by decide +kernel
theorem d_Shares_timesOf_27 : decode m_Shares_timesOf.2.1 27 = .ok (.iinc 3 1, 3) := by decide +kernel
theorem d_Shares_timesOf_30 : decode m_Shares_timesOf.2.1 30 = .ok (.goto (-26), 3) := by decide +kernel
theorem d_Shares_timesOf_33 : decode m_Shares_timesOf.2.1 33 = .ok (.iload_n 2, 1) := by decide +kernel
theorem d_Shares_timesOf_34 : decode m_Shares_timesOf.2.1 34 = .ok (.ireturn, 1) := by decide +kernel
theorem d_Shares_weigh_0 : decode m_Shares_weigh.2.1 0 = .ok (.aload_n 0, 1) := by decide +kernel
theorem d_Shares_weigh_1 : decode m_Shares_weigh.2.1 1 = .ok (.getfield 34, 3) := by decide +kernel
theorem d_Shares_weigh_4 : decode m_Shares_weigh.2.1 4 = .ok (.ifCond .eq 4, 3) := by decide +kernel
theorem d_Shares_weigh_7 : decode m_Shares_weigh.2.1 7 = .ok (.return_, 1) := by decide +kernel
theorem d_Shares_weigh_8 : decode m_Shares_weigh.2.1 8 = .ok (.aload_n 0, 1) := by decide +kernel
theorem d_Shares_weigh_9 : decode m_Shares_weigh.2.1 9 = .ok (.iconst 1, 1) := by decide +kernel
theorem d_Shares_weigh_10 : decode m_Shares_weigh.2.1 10 = .ok (.putfield 34, 3) := by decide +kernel
theorem d_Shares_weigh_13 : decode m_Shares_weigh.2.1 13 = .ok (.aload_n 0, 1) := by decide +kernel
theorem d_Shares_weigh_14 : decode m_Shares_weigh.2.1 14 = .ok (.iconst 0, 1) := by decide +kernel
theorem d_Shares_weigh_15 : decode m_Shares_weigh.2.1 15 = .ok (.putfield 65, 3) := by decide +kernel
theorem d_Shares_weigh_18 : decode m_Shares_weigh.2.1 18 = .ok (.aload_n 0, 1) := by decide +kernel
theorem d_Shares_weigh_19 : decode m_Shares_weigh.2.1 19 = .ok (.aload_n 0, 1) := by decide +kernel
theorem d_Shares_weigh_20 : decode m_Shares_weigh.2.1 20 = .ok (.iconst 0, 1) := by decide +kernel
theorem d_Shares_weigh_21 : decode m_Shares_weigh.2.1 21 = .ok (.aload_n 1, 1) := by decide +kernel
theorem d_Shares_weigh_22 : decode m_Shares_weigh.2.1 22 = .ok (.aload_n 2, 1) := by decide +kernel
theorem d_Shares_weigh_23 : decode m_Shares_weigh.2.1 23 = .ok (.invokevirtual 68, 3) := by decide +kernel
theorem d_Shares_weigh_26 : decode m_Shares_weigh.2.1 26 = .ok (.putfield 72, 3) := by decide +kernel
theorem d_Shares_weigh_29 : decode m_Shares_weigh.2.1 29 = .ok (.iconst 1, 1) := by decide +kernel
theorem d_Shares_weigh_30 : decode m_Shares_weigh.2.1 30 = .ok (.istore_n 3, 1) := by decide +kernel
theorem d_Shares_weigh_31 : decode m_Shares_weigh.2.1 31 = .ok (.iload_n 3, 1) := by decide +kernel
theorem d_Shares_weigh_32 : decode m_Shares_weigh.2.1 32 = .ok (.iconst 1, 1) := by decide +kernel
theorem d_Shares_weigh_33 : decode m_Shares_weigh.2.1 33 = .ok (.aload_n 0, 1) := by decide +kernel
theorem d_Shares_weigh_34 : decode m_Shares_weigh.2.1 34 = .ok (.getfield 30, 3) := by decide +kernel
theorem d_Shares_weigh_37 : decode m_Shares_weigh.2.1 37 = .ok (.ishl, 1) := by decide +kernel
theorem d_Shares_weigh_38 : decode m_Shares_weigh.2.1 38 = .ok (.if_icmp .ge 38, 3) := by decide +kernel
theorem d_Shares_weigh_41 : decode m_Shares_weigh.2.1 41 = .ok (.aload_n 0, 1) := by decide +kernel
theorem d_Shares_weigh_42 : decode m_Shares_weigh.2.1 42 = .ok (.iload_n 3, 1) := by decide +kernel
theorem d_Shares_weigh_43 : decode m_Shares_weigh.2.1 43 = .ok (.aload_n 1, 1) := by decide +kernel
theorem d_Shares_weigh_44 : decode m_Shares_weigh.2.1 44 = .ok (.aload_n 2, 1) := by decide +kernel
theorem d_Shares_weigh_45 : decode m_Shares_weigh.2.1 45 = .ok (.invokevirtual 68, 3) := by decide +kernel
theorem d_Shares_weigh_48 : decode m_Shares_weigh.2.1 48 = .ok (.istore 4, 2) := by decide +kernel
theorem d_Shares_weigh_50 : decode m_Shares_weigh.2.1 50 = .ok (.iload 4, 2) := by decide +kernel
theorem d_Shares_weigh_52 : decode m_Shares_weigh.2.1 52 = .ok (.aload_n 0, 1) := by decide +kernel
theorem d_Shares_weigh_53 : decode m_Shares_weigh.2.1 53 = .ok (.getfield 72, 3) := by decide +kernel
theorem d_Shares_weigh_56 : decode m_Shares_weigh.2.1 56 = .ok (.if_icmp .ge 14, 3) := by decide +kernel
theorem d_Shares_weigh_59 : decode m_Shares_weigh.2.1 59 = .ok (.aload_n 0, 1) := by decide +kernel
theorem d_Shares_weigh_60 : decode m_Shares_weigh.2.1 60 = .ok (.iload 4, 2) := by decide +kernel
theorem d_Shares_weigh_62 : decode m_Shares_weigh.2.1 62 = .ok (.putfield 72, 3) := by decide +kernel
theorem d_Shares_weigh_65 : decode m_Shares_weigh.2.1 65 = .ok (.aload_n 0, 1) := by decide +kernel
theorem d_Shares_weigh_66 : decode m_Shares_weigh.2.1 66 = .ok (.iload_n 3, 1) := by decide +kernel
theorem d_Shares_weigh_67 : decode m_Shares_weigh.2.1 67 = .ok (.putfield 65, 3) := by decide +kernel
theorem d_Shares_weigh_70 : decode m_Shares_weigh.2.1 70 = .ok (.iinc 3 1, 3) := by decide +kernel
theorem d_Shares_weigh_73 : decode m_Shares_weigh.2.1 73 = .ok (.goto (-42), 3) := by decide +kernel
theorem d_Shares_weigh_76 : decode m_Shares_weigh.2.1 76 = .ok (.return_, 1) := by decide +kernel
theorem d_Shares_sumBy_0 : decode m_Shares_sumBy.2.1 0 = .ok (.iconst 0, 1) := by decide +kernel
theorem d_Shares_sumBy_1 : decode m_Shares_sumBy.2.1 1 = .ok (.istore 4, 2) := by decide +kernel
theorem d_Shares_sumBy_3 : decode m_Shares_sumBy.2.1 3 = .ok (.aload_n 3, 1) := by decide +kernel
theorem d_Shares_sumBy_4 : decode m_Shares_sumBy.2.1 4 = .ok (.iconst 0, 1) := by decide +kernel
theorem d_Shares_sumBy_5 : decode m_Shares_sumBy.2.1 5 = .ok (.invokevirtual 46, 3) := by decide +kernel
theorem d_Shares_sumBy_8 : decode m_Shares_sumBy.2.1 8 = .ok (.istore 5, 2) := by decide +kernel
theorem d_Shares_sumBy_10 : decode m_Shares_sumBy.2.1 10 = .ok (.iconst 0, 1) := by decide +kernel
theorem d_Shares_sumBy_11 : decode m_Shares_sumBy.2.1 11 = .ok (.istore 6, 2) := by decide +kernel
theorem d_Shares_sumBy_13 : decode m_Shares_sumBy.2.1 13 = .ok (.iload 6, 2) := by decide +kernel
theorem d_Shares_sumBy_15 : decode m_Shares_sumBy.2.1 15 = .ok (.aload_n 2, 1) := by decide +kernel
theorem d_Shares_sumBy_16 : decode m_Shares_sumBy.2.1 16 = .ok (.getfield 38, 3) := by decide +kernel
theorem d_Shares_sumBy_19 : decode m_Shares_sumBy.2.1 19 = .ok (.if_icmp .ge 78, 3) := by decide +kernel
theorem d_Shares_sumBy_22 : decode m_Shares_sumBy.2.1 22 = .ok (.aload_n 0, 1) := by decide +kernel
theorem d_Shares_sumBy_23 : decode m_Shares_sumBy.2.1 23 = .ok (.getfield 26, 3) := by decide +kernel
theorem d_Shares_sumBy_26 : decode m_Shares_sumBy.2.1 26 = .ok (.aload_n 2, 1) := by decide +kernel
theorem d_Shares_sumBy_27 : decode m_Shares_sumBy.2.1 27 = .ok (.aload_n 3, 1) := by decide +kernel
theorem d_Shares_sumBy_28 : decode m_Shares_sumBy.2.1 28 = .ok (.iload 6, 2) := by decide +kernel
theorem d_Shares_sumBy_30 : decode m_Shares_sumBy.2.1 30 = .ok (.invokevirtual 75, 3) := by decide +kernel
theorem d_Shares_sumBy_33 : decode m_Shares_sumBy.2.1 33 = .ok (.aload_n 0, 1) := by decide +kernel
theorem d_Shares_sumBy_34 : decode m_Shares_sumBy.2.1 34 = .ok (.iload_n 1, 1) := by decide +kernel
theorem d_Shares_sumBy_35 : decode m_Shares_sumBy.2.1 35 = .ok (.aload_n 2, 1) := by decide +kernel
theorem d_Shares_sumBy_36 : decode m_Shares_sumBy.2.1 36 = .ok (.getfield 43, 3) := by decide +kernel
theorem d_Shares_sumBy_39 : decode m_Shares_sumBy.2.1 39 = .ok (.iload 6, 2) := by decide +kernel
theorem d_Shares_sumBy_41 : decode m_Shares_sumBy.2.1 41 = .ok (.invokevirtual 46, 3) := by decide +kernel
theorem d_Shares_sumBy_44 : decode m_Shares_sumBy.2.1 44 = .ok (.invokevirtual 79, 3) := by decide +kernel
theorem d_Shares_sumBy_47 : decode m_Shares_sumBy.2.1 47 = .ok (.ifCond .eq 44, 3) := by decide +kernel
theorem d_Shares_sumBy_50 : decode m_Shares_sumBy.2.1 50 = .ok (.aload_n 2, 1) := by decide +kernel
theorem d_Shares_sumBy_51 : decode m_Shares_sumBy.2.1 51 = .ok (.getfield 43, 3) := by decide +kernel
theorem d_Shares_sumBy_54 : decode m_Shares_sumBy.2.1 54 = .ok (.iload 6, 2) := by decide +kernel
theorem d_Shares_sumBy_56 : decode m_Shares_sumBy.2.1 56 = .ok (.invokevirtual 46, 3) := by decide +kernel
theorem d_Shares_sumBy_59 : decode m_Shares_sumBy.2.1 59 = .ok (.iload 6, 2) := by decide +kernel
theorem d_Shares_sumBy_61 : decode m_Shares_sumBy.2.1 61 = .ok (.if_icmp .ne 20, 3) := by decide +kernel
theorem d_Shares_sumBy_64 : decode m_Shares_sumBy.2.1 64 = .ok (.iload 4, 2) := by decide +kernel
theorem d_Shares_sumBy_66 : decode m_Shares_sumBy.2.1 66 = .ok (.aload_n 0, 1) := by decide +kernel
theorem d_Shares_sumBy_67 : decode m_Shares_sumBy.2.1 67 = .ok (.getfield 26, 3) := by decide +kernel
theorem d_Shares_sumBy_70 : decode m_Shares_sumBy.2.1 70 = .ok (.aload_n 3, 1) := by decide +kernel
theorem d_Shares_sumBy_71 : decode m_Shares_sumBy.2.1 71 = .ok (.iload 6, 2) := by decide +kernel
theorem d_Shares_sumBy_73 : decode m_Shares_sumBy.2.1 73 = .ok (.iload 5, 2) := by decide +kernel
theorem d_Shares_sumBy_75 : decode m_Shares_sumBy.2.1 75 = .ok (.invokevirtual 83, 3) := by decide +kernel
theorem d_Shares_sumBy_78 : decode m_Shares_sumBy.2.1 78 = .ok (.iadd, 1) := by decide +kernel
theorem d_Shares_sumBy_79 : decode m_Shares_sumBy.2.1 79 = .ok (.istore 4, 2) := by decide +kernel
theorem d_Shares_sumBy_81 : decode m_Shares_sumBy.2.1 81 = .ok (.aload_n 0, 1) := by decide +kernel
theorem d_Shares_sumBy_82 : decode m_Shares_sumBy.2.1 82 = .ok (.getfield 26, 3) := by decide +kernel
theorem d_Shares_sumBy_85 : decode m_Shares_sumBy.2.1 85 = .ok (.aload_n 3, 1) := by decide +kernel
theorem d_Shares_sumBy_86 : decode m_Shares_sumBy.2.1 86 = .ok (.iload 6, 2) := by decide +kernel
theorem d_Shares_sumBy_88 : decode m_Shares_sumBy.2.1 88 = .ok (.invokevirtual 87, 3) := by decide +kernel
theorem d_Shares_sumBy_91 : decode m_Shares_sumBy.2.1 91 = .ok (.iinc 6 1, 3) := by decide +kernel
theorem d_Shares_sumBy_94 : decode m_Shares_sumBy.2.1 94 = .ok (.goto (-81), 3) := by decide +kernel
theorem d_Shares_sumBy_97 : decode m_Shares_sumBy.2.1 97 = .ok (.iload 4, 2) := by decide +kernel
theorem d_Shares_sumBy_99 : decode m_Shares_sumBy.2.1 99 = .ok (.aload_n 0, 1) := by decide +kernel
theorem d_Shares_sumBy_100 : decode m_Shares_sumBy.2.1 100 = .ok (.getfield 26, 3) := by decide +kernel
theorem d_Shares_sumBy_103 : decode m_Shares_sumBy.2.1 103 = .ok (.aload_n 2, 1) := by decide +kernel
theorem d_Shares_sumBy_104 : decode m_Shares_sumBy.2.1 104 = .ok (.invokevirtual 91, 3) := by decide +kernel
theorem d_Shares_sumBy_107 : decode m_Shares_sumBy.2.1 107 = .ok (.iload 5, 2) := by decide +kernel
theorem d_Shares_sumBy_109 : decode m_Shares_sumBy.2.1 109 = .ok (.invokevirtual 95, 3) := by decide +kernel
theorem d_Shares_sumBy_112 : decode m_Shares_sumBy.2.1 112 = .ok (.iadd, 1) := by decide +kernel
theorem d_Shares_sumBy_113 : decode m_Shares_sumBy.2.1 113 = .ok (.ireturn, 1) := by decide +kernel
theorem d_Shares_isOfSet_0 : decode m_Shares_isOfSet.2.1 0 = .ok (.iconst 0, 1) := by decide +kernel
theorem d_Shares_isOfSet_1 : decode m_Shares_isOfSet.2.1 1 = .ok (.istore_n 3, 1) := by decide +kernel
theorem d_Shares_isOfSet_2 : decode m_Shares_isOfSet.2.1 2 = .ok (.iload_n 3, 1) := by decide +kernel
theorem d_Shares_isOfSet_3 : decode m_Shares_isOfSet.2.1 3 = .ok (.aload_n 0, 1) := by decide +kernel
theorem d_Shares_isOfSet_4 : decode m_Shares_isOfSet.2.1 4 = .ok (.getfield 30, 3) := by decide +kernel
theorem d_Shares_isOfSet_7 : decode m_Shares_isOfSet.2.1 7 = .ok (.if_icmp .ge 36, 3) := by decide +kernel
theorem d_Shares_isOfSet_10 : decode m_Shares_isOfSet.2.1 10 = .ok (.aload_n 0, 1) := by decide +kernel
theorem d_Shares_isOfSet_11 : decode m_Shares_isOfSet.2.1 11 = .ok (.getfield 14, 3) := by decide +kernel
theorem d_Shares_isOfSet_14 : decode m_Shares_isOfSet.2.1 14 = .ok (.iload_n 3, 1) := by decide +kernel
theorem d_Shares_isOfSet_15 : decode m_Shares_isOfSet.2.1 15 = .ok (.invokevirtual 46, 3) := by decide +kernel
theorem d_Shares_isOfSet_18 : decode m_Shares_isOfSet.2.1 18 = .ok (.iload_n 2, 1) := by decide +kernel
theorem d_Shares_isOfSet_19 : decode m_Shares_isOfSet.2.1 19 = .ok (.if_icmp .ne 18, 3) := by decide +kernel
theorem d_Shares_isOfSet_22 : decode m_Shares_isOfSet.2.1 22 = .ok (.iload_n 1, 1) := by decide +kernel
theorem d_Shares_isOfSet_23 : decode m_Shares_isOfSet.2.1 23 = .ok (.iload_n 3, 1) := by decide +kernel
theorem d_Shares_isOfSet_24 : decode m_Shares_isOfSet.2.1 24 = .ok (.ishr, 1) := by decide +kernel
theorem d_Shares_isOfSet_25 : decode m_Shares_isOfSet.2.1 25 = .ok (.iconst 1, 1) := by decide +kernel
theorem d_Shares_isOfSet_26 : decode m_Shares_isOfSet.2.1 26 = .ok (.iand, 1) := by decide +kernel
theorem d_Shares_isOfSet_27 : decode m_Shares_isOfSet.2.1 27 = .ok (.iconst 1, 1) := by decide +kernel
theorem d_Shares_isOfSet_28 : decode m_Shares_isOfSet.2.1 28 = .ok (.if_icmp .ne 7, 3) := by decide +kernel
theorem d_Shares_isOfSet_31 : decode m_Shares_isOfSet.2.1 31 = .ok (.iconst 1, 1) := by decide +kernel
theorem d_Shares_isOfSet_32 : decode m_Shares_isOfSet.2.1 32 = .ok (.goto 4, 3) := by decide +kernel
theorem d_Shares_isOfSet_35 : decode m_Shares_isOfSet.2.1 35 = .ok (.iconst 0, 1) := by decide +kernel
theorem d_Shares_isOfSet_36 : decode m_Shares_isOfSet.2.1 36 = .ok (.ireturn, 1) := by decide +kernel
theorem d_Shares_isOfSet_37 : decode m_Shares_isOfSet.2.1 37 = .ok (.iinc 3 1, 3) := by decide +kernel
theorem d_Shares_isOfSet_40 : decode m_Shares_isOfSet.2.1 40 = .ok (.goto (-38), 3) := by decide +kernel
theorem d_Shares_isOfSet_43 : decode m_Shares_isOfSet.2.1 43 = .ok (.iconst 0, 1) := by decide +kernel
theorem d_Shares_isOfSet_44 : decode m_Shares_isOfSet.2.1 44 = .ok (.ireturn, 1) := by decide +kernel
theorem d_Need_init_0 : decode m_Need_init.2.1 0 = .ok (.aload_n 0, 1) := by decide +kernel
theorem d_Need_init_1 : decode m_Need_init.2.1 1 = .ok (.invokespecial 3, 3) := by decide +kernel
theorem d_Need_init_4 : decode m_Need_init.2.1 4 = .ok (.aload_n 0, 1) := by decide +kernel
theorem d_Need_init_5 : decode m_Need_init.2.1 5 = .ok (.new 9, 3) := by decide +kernel
theorem d_Need_init_8 : decode m_Need_init.2.1 8 = .ok (.dup, 1) := by decide +kernel
theorem d_Need_init_9 : decode m_Need_init.2.1 9 = .ok (.bipush 60, 2) := by decide +kernel
theorem d_Need_init_11 : decode m_Need_init.2.1 11 = .ok (.invokespecial 11, 3) := by decide +kernel
theorem d_Need_init_14 : decode m_Need_init.2.1 14 = .ok (.putfield 14, 3) := by decide +kernel
theorem d_Need_init_17 : decode m_Need_init.2.1 17 = .ok (.aload_n 0, 1) := by decide +kernel
theorem d_Need_init_18 : decode m_Need_init.2.1 18 = .ok (.new 18, 3) := by decide +kernel
theorem d_Need_init_21 : decode m_Need_init.2.1 21 = .ok (.dup, 1) := by decide +kernel
theorem d_Need_init_22 : decode m_Need_init.2.1 22 = .ok (.invokespecial 20, 3) := by decide +kernel
theorem d_Need_init_25 : decode m_Need_init.2.1 25 = .ok (.putfield 21, 3) := by decide +kernel
theorem d_Need_init_28 : decode m_Need_init.2.1 28 = .ok (.aload_n 0, 1) := by decide +kernel
theorem d_Need_init_29 : decode m_Need_init.2.1 29 = .ok (.new 25, 3) := by decide +kernel
theorem d_Need_init_32 : decode m_Need_init.2.1 32 = .ok (.dup, 1) := by decide +kernel
theorem d_Need_init_33 : decode m_Need_init.2.1 33 = .ok (.invokespecial 27, 3) := by decide +kernel
theorem d_Need_init_36 : decode m_Need_init.2.1 36 = .ok (.putfield 28, 3) := by decide +kernel
theorem d_Need_init_39 : decode m_Need_init.2.1 39 = .ok (.aload_n 0, 1) := by decide +kernel
theorem d_Need_init_40 : decode m_Need_init.2.1 40 = .ok (.new 25, 3) := by decide +kernel
theorem d_Need_init_43 : decode m_Need_init.2.1 43 = .ok (.dup, 1) := by decide +kernel
theorem d_Need_init_44 : decode m_Need_init.2.1 44 = .ok (.invokespecial 27, 3) := by decide +kernel
theorem d_Need_init_47 : decode m_Need_init.2.1 47 = .ok (.putfield 32, 3) := by decide +kernel
theorem d_Need_init_50 : decode m_Need_init.2.1 50 = .ok (.aload_n 0, 1) := by decide +kernel
theorem d_Need_init_51 : decode m_Need_init.2.1 51 = .ok (.new 25, 3) := by decide +kernel
theorem d_Need_init_54 : decode m_Need_init.2.1 54 = .ok (.dup, 1) := by decide +kernel
theorem d_Need_init_55 : decode m_Need_init.2.1 55 = .ok (.invokespecial 27, 3) := by decide +kernel
theorem d_Need_init_58 : decode m_Need_init.2.1 58 = .ok (.putfield 35, 3) := by decide +kernel
theorem d_Need_init_61 : decode m_Need_init.2.1 61 = .ok (.aload_n 0, 1) := by decide +kernel
theorem d_Need_init_62 : decode m_Need_init.2.1 62 = .ok (.new 38, 3) := by decide +kernel
theorem d_Need_init_65 : decode m_Need_init.2.1 65 = .ok (.dup, 1) := by decide +kernel
theorem d_Need_init_66 : decode m_Need_init.2.1 66 = .ok (.invokespecial 40, 3) := by decide +kernel
theorem d_Need_init_69 : decode m_Need_init.2.1 69 = .ok (.putfield 41, 3) := by decide +kernel
theorem d_Need_init_72 : decode m_Need_init.2.1 72 = .ok (.aload_n 0, 1) := by decide +kernel
theorem d_Need_init_73 : decode m_Need_init.2.1 73 = .ok (.new 45, 3) := by decide +kernel
theorem d_Need_init_76 : decode m_Need_init.2.1 76 = .ok (.dup, 1) := by decide +kernel
theorem d_Need_init_77 : decode m_Need_init.2.1 77 = .ok (.invokespecial 47, 3) := by decide +kernel
theorem d_Need_init_80 : decode m_Need_init.2.1 80 = .ok (.putfield 48, 3) := by decide +kernel
theorem d_Need_init_83 : decode m_Need_init.2.1 83 = .ok (.aload_n 0, 1) := by decide +kernel
theorem d_Need_init_84 : decode m_Need_init.2.1 84 = .ok (.new 52, 3) := by decide +kernel
theorem d_Need_init_87 : decode m_Need_init.2.1 87 = .ok (.dup, 1) := by decide +kernel
theorem d_Need_init_88 : decode m_Need_init.2.1 88 = .ok (.invokespecial 54, 3) := by decide +kernel
theorem d_Need_init_91 : decode m_Need_init.2.1 91 = .ok (.putfield 55, 3) := by decide +kernel
theorem d_Need_init_94 : decode m_Need_init.2.1 94 = .ok (.aload_n 0, 1) := by decide +kernel
theorem d_Need_init_95 : decode m_Need_init.2.1 95 = .ok (.new 59, 3) := by decide +kernel
theorem d_Need_init_98 : decode m_Need_init.2.1 98 = .ok (.dup, 1) := by decide +kernel
theorem d_Need_init_99 : decode m_Need_init.2.1 99 = .ok (.invokespecial 61, 3) := by decide +kernel
theorem d_Need_init_102 : decode m_Need_init.2.1 102 = .ok (.putfield 62, 3) := by decide +kernel
theorem d_Need_init_105 : decode m_Need_init.2.1 105 = .ok (.aload_n 0, 1) := by decide +kernel
theorem d_Need_init_106 : decode m_Need_init.2.1 106 = .ok (.new 66, 3) := by decide +kernel
theorem d_Need_init_109 : decode m_Need_init.2.1 109 = .ok (.dup, 1) := by decide +kernel
theorem d_Need_init_110 : decode m_Need_init.2.1 110 = .ok (.invokespecial 68, 3) := by decide +kernel
theorem d_Need_init_113 : decode m_Need_init.2.1 113 = .ok (.putfield 69, 3) := by decide +kernel
theorem d_Need_init_116 : decode m_Need_init.2.1 116 = .ok (.aload_n 0, 1) := by decide +kernel
theorem d_Need_init_117 : decode m_Need_init.2.1 117 = .ok (.new 73, 3) := by decide +kernel
theorem d_Need_init_120 : decode m_Need_init.2.1 120 = .ok (.dup, 1) := by decide +kernel
theorem d_Need_init_121 : decode m_Need_init.2.1 121 = .ok (.invokespecial 75, 3) := by decide +kernel
theorem d_Need_init_124 : decode m_Need_init.2.1 124 = .ok (.putfield 76, 3) := by decide +kernel
theorem d_Need_init_127 : decode m_Need_init.2.1 127 = .ok (.aload_n 0, 1) := by decide +kernel
theorem d_Need_init_128 : decode m_Need_init.2.1 128 = .ok (.bipush (-9), 2) := by decide +kernel
theorem d_Need_init_130 : decode m_Need_init.2.1 130 = .ok (.putfield 80, 3) := by decide +kernel
theorem d_Need_init_133 : decode m_Need_init.2.1 133 = .ok (.aload_n 0, 1) := by decide +kernel
theorem d_Need_init_134 : decode m_Need_init.2.1 134 = .ok (.getfield 28, 3) := by decide +kernel
theorem d_Need_init_137 : decode m_Need_init.2.1 137 = .ok (.getfield 84, 3) := by decide +kernel
theorem d_Need_init_140 : decode m_Need_init.2.1 140 = .ok (.iconst 0, 1) := by decide +kernel
theorem d_Need_init_141 : decode m_Need_init.2.1 141 = .ok (.iconst 3, 1) := by decide +kernel
theorem d_Need_init_142 : decode m_Need_init.2.1 142 = .ok (.invokevirtual 87, 3) := by decide +kernel
theorem d_Need_init_145 : decode m_Need_init.2.1 145 = .ok (.aload_n 0, 1) := by decide +kernel
theorem d_Need_init_146 : decode m_Need_init.2.1 146 = .ok (.getfield 28, 3) := by decide +kernel
theorem d_Need_init_149 : decode m_Need_init.2.1 149 = .ok (.getfield 84, 3) := by decide +kernel
theorem d_Need_init_152 : decode m_Need_init.2.1 152 = .ok (.iconst 1, 1) := by decide +kernel
theorem d_Need_init_153 : decode m_Need_init.2.1 153 = .ok (.iconst 3, 1) := by decide +kernel
theorem d_Need_init_154 : decode m_Need_init.2.1 154 = .ok (.invokevirtual 87, 3) := by decide +kernel
theorem d_Need_init_157 : decode m_Need_init.2.1 157 = .ok (.aload_n 0, 1) := by decide +kernel
theorem d_Need_init_158 : decode m_Need_init.2.1 158 = .ok (.getfield 28, 3) := by decide +kernel
theorem d_Need_init_161 : decode m_Need_init.2.1 161 = .ok (.getfield 84, 3) := by decide +kernel
theorem d_Need_init_164 : decode m_Need_init.2.1 164 = .ok (.iconst 2, 1) := by decide +kernel
theorem d_Need_init_165 : decode m_Need_init.2.1 165 = .ok (.iconst 3, 1) := by decide +kernel
theorem d_Need_init_166 : decode m_Need_init.2.1 166 = .ok (.invokevirtual 87, 3) := by decide +kernel
theorem d_Need_init_169 : decode m_Need_init.2.1 169 = .ok (.aload_n 0, 1) := by decide +kernel
theorem d_Need_init_170 : decode m_Need_init.2.1 170 = .ok (.getfield 28, 3) := by decide +kernel
theorem d_Need_init_173 : decode m_Need_init.2.1 173 = .ok (.getfield 84, 3) := by decide +kernel
theorem d_Need_init_176 : decode m_Need_init.2.1 176 = .ok (.iconst 3, 1) := by decide +kernel
theorem d_Need_init_177 : decode m_Need_init.2.1 177 = .ok (.iconst 1, 1) := by decide +kernel
theorem d_Need_init_178 : decode m_Need_init.2.1 178 = .ok (.invokevirtual 87, 3) := by decide +kernel
theorem d_Need_init_181 : decode m_Need_init.2.1 181 = .ok (.aload_n 0, 1) := by decide +kernel
theorem d_Need_init_182 : decode m_Need_init.2.1 182 = .ok (.getfield 28, 3) := by decide +kernel
theorem d_Need_init_185 : decode m_Need_init.2.1 185 = .ok (.getfield 84, 3) := by decide +kernel
theorem d_Need_init_188 : decode m_Need_init.2.1 188 = .ok (.iconst 4, 1) := by decide +kernel
theorem d_Need_init_189 : decode m_Need_init.2.1 189 = .ok (.iconst 2, 1) := by decide +kernel
theorem d_Need_init_190 : decode m_Need_init.2.1 190 = .ok (.invokevirtual 87, 3) := by decide +kernel
theorem d_Need_init_193 : decode m_Need_init.2.1 193 = .ok (.return_, 1) := by decide +kernel
theorem d_Need_type_0 : decode m_Need_type.2.1 0 = .ok (.iload_n 1, 1) := by decide +kernel
theorem d_Need_type_1 : decode m_Need_type.2.1 1 = .ok (.ifCond .lt 10, 3) := by decide +kernel
theorem d_Need_type_4 : decode m_Need_type.2.1 4 = .ok (.iload_n 1, 1) := by decide +kernel
theorem d_Need_type_5 : decode m_Need_type.2.1 5 = .ok (.sipush 255, 3) := by decide +kernel
theorem d_Need_type_8 : decode m_Need_type.2.1 8 = .ok (.if_icmp .le 5, 3) := by decide +kernel
theorem d_Need_type_11 : decode m_Need_type.2.1 11 = .ok (.iconst (-1), 1) := by decide +kernel
theorem d_Need_type_12 : decode m_Need_type.2.1 12 = .ok (.ireturn, 1) := by decide +kernel
theorem d_Need_type_13 : decode m_Need_type.2.1 13 = .ok (.aload_n 0, 1) := by decide +kernel
theorem d_Need_type_14 : decode m_Need_type.2.1 14 = .ok (.getfield 91, 3) := by decide +kernel
theorem d_Need_type_17 : decode m_Need_type.2.1 17 = .ok (.bipush 60, 2) := by decide +kernel
theorem d_Need_type_19 : decode m_Need_type.2.1 19 = .ok (.if_icmp .lt 6, 3) := by decide +kernel
theorem d_Need_type_22 : decode m_Need_type.2.1 22 = .ok (.bipush (-3), 2) := by decide +kernel
theorem d_Need_type_24 : decode m_Need_type.2.1 24 = .ok (.ireturn, 1) := by decide +kernel
theorem d_Need_type_25 : decode m_Need_type.2.1 25 = .ok (.aload_n 0, 1) := by decide +kernel
theorem d_Need_type_26 : decode m_Need_type.2.1 26 = .ok (.getfield 14, 3) := by decide +kernel
theorem d_Need_type_29 : decode m_Need_type.2.1 29 = .ok (.aload_n 0, 1) := by decide +kernel
theorem d_Need_type_30 : decode m_Need_type.2.1 30 = .ok (.getfield 91, 3) := by decide +kernel
theorem d_Need_type_33 : decode m_Need_type.2.1 33 = .ok (.iload_n 1, 1) := by decide +kernel
theorem d_Need_type_34 : decode m_Need_type.2.1 34 = .ok (.invokevirtual 87, 3) := by decide +kernel
theorem d_Need_type_37 : decode m_Need_type.2.1 37 = .ok (.aload_n 0, 1) := by decide +kernel
theorem d_Need_type_38 : decode m_Need_type.2.1 38 = .ok (.dup, 1) := by decide +kernel
theorem d_Need_type_39 : decode m_Need_type.2.1 39 = .ok (.getfield 91, 3) := by decide +kernel
theorem d_Need_type_42 : decode m_Need_type.2.1 42 = .ok (.iconst 1, 1) := by decide +kernel
theorem d_Need_type_43 : decode m_Need_type.2.1 43 = .ok (.iadd, 1) := by decide +kernel
theorem d_Need_type_44 : decode m_Need_type.2.1 44 = .ok (.putfield 91, 3) := by decide +kernel
theorem d_Need_type_47 : decode m_Need_type.2.1 47 = .ok (.aload_n 0, 1) := by decide +kernel
theorem d_Need_type_48 : decode m_Need_type.2.1 48 = .ok (.getfield 91, 3) := by decide +kernel
theorem d_Need_type_51 : decode m_Need_type.2.1 51 = .ok (.ireturn, 1) := by decide +kernel
theorem d_Need_clear_0 : decode m_Need_clear.2.1 0 = .ok (.aload_n 0, 1) := by decide +kernel
theorem d_Need_clear_1 : decode m_Need_clear.2.1 1 = .ok (.getfield 91, 3) := by decide +kernel
theorem d_Need_clear_4 : decode m_Need_clear.2.1 4 = .ok (.istore_n 1, 1) := by decide +kernel
theorem d_Need_clear_5 : decode m_Need_clear.2.1 5 = .ok (.aload_n 0, 1) := by decide +kernel
theorem d_Need_clear_6 : decode m_Need_clear.2.1 6 = .ok (.iconst 0, 1) := by decide +kernel
theorem d_Need_clear_7 : decode m_Need_clear.2.1 7 = .ok (.putfield 91, 3) := by decide +kernel
theorem d_Need_clear_10 : decode m_Need_clear.2.1 10 = .ok (.iload_n 1, 1) := by decide +kernel
theorem d_Need_clear_11 : decode m_Need_clear.2.1 11 = .ok (.ireturn, 1) := by decide +kernel
theorem d_Need_tree_0 : decode m_Need_tree.2.1 0 = .ok (.aload_n 0, 1) := by decide +kernel
theorem d_Need_tree_1 : decode m_Need_tree.2.1 1 = .ok (.getfield 21, 3) := by decide +kernel
theorem d_Need_tree_4 : decode m_Need_tree.2.1 4 = .ok (.aload_n 0, 1) := by decide +kernel
theorem d_Need_tree_5 : decode m_Need_tree.2.1 5 = .ok (.getfield 14, 3) := by decide +kernel
theorem d_Need_tree_8 : decode m_Need_tree.2.1 8 = .ok (.aload_n 0, 1) := by decide +kernel
theorem d_Need_tree_9 : decode m_Need_tree.2.1 9 = .ok (.getfield 91, 3) := by decide +kernel
theorem d_Need_tree_12 : decode m_Need_tree.2.1 12 = .ok (.aload_n 0, 1) := by decide +kernel
theorem d_Need_tree_13 : decode m_Need_tree.2.1 13 = .ok (.getfield 41, 3) := by decide +kernel
theorem d_Need_tree_16 : decode m_Need_tree.2.1 16 = .ok (.invokevirtual 94, 3) := by decide +kernel
theorem d_Need_tree_19 : decode m_Need_tree.2.1 19 = .ok (.istore_n 1, 1) := by decide +kernel
theorem d_Need_tree_20 : decode m_Need_tree.2.1 20 = .ok (.iload_n 1, 1) := by decide +kernel
theorem d_Need_tree_21 : decode m_Need_tree.2.1 21 = .ok (.bipush (-9), 2) := by decide +kernel
theorem d_Need_tree_23 : decode m_Need_tree.2.1 23 = .ok (.if_icmp .eq 8, 3) := by decide +kernel
theorem d_Need_tree_26 : decode m_Need_tree.2.1 26 = .ok (.bipush (-10), 2) := by decide +kernel
theorem d_Need_tree_28 : decode m_Need_tree.2.1 28 = .ok (.iload_n 1, 1) := by decide +kernel
theorem d_Need_tree_29 : decode m_Need_tree.2.1 29 = .ok (.isub, 1) := by decide +kernel
theorem d_Need_tree_30 : decode m_Need_tree.2.1 30 = .ok (.ireturn, 1) := by decide +kernel
theorem d_Need_tree_31 : decode m_Need_tree.2.1 31 = .ok (.aload_n 0, 1) := by decide +kernel
theorem d_Need_tree_32 : decode m_Need_tree.2.1 32 = .ok (.getfield 41, 3) := by decide +kernel
theorem d_Need_tree_35 : decode m_Need_tree.2.1 35 = .ok (.invokevirtual 98, 3) := by decide +kernel
theorem d_Need_tree_38 : decode m_Need_tree.2.1 38 = .ok (.aload_n 0, 1) := by decide +kernel
theorem d_Need_tree_39 : decode m_Need_tree.2.1 39 = .ok (.getfield 28, 3) := by decide +kernel
theorem d_Need_tree_42 : decode m_Need_tree.2.1 42 = .ok (.getfield 101, 3) := by decide +kernel
theorem d_Need_tree_45 : decode m_Need_tree.2.1 45 = .ok (.aload_n 0, 1) := by decide +kernel
theorem d_Need_tree_46 : decode m_Need_tree.2.1 46 = .ok (.getfield 41, 3) := by decide +kernel
theorem d_Need_tree_49 : decode m_Need_tree.2.1 49 = .ok (.invokevirtual 104, 3) := by decide +kernel
theorem d_Need_tree_52 : decode m_Need_tree.2.1 52 = .ok (.aload_n 0, 1) := by decide +kernel
theorem d_Need_tree_53 : decode m_Need_tree.2.1 53 = .ok (.iconst 0, 1) := by decide +kernel
theorem d_Need_tree_54 : decode m_Need_tree.2.1 54 = .ok (.putfield 91, 3) := by decide +kernel
theorem d_Need_tree_57 : decode m_Need_tree.2.1 57 = .ok (.aload_n 0, 1) := by decide +kernel
theorem d_Need_tree_58 : decode m_Need_tree.2.1 58 = .ok (.getfield 32, 3) := by decide +kernel
theorem d_Need_tree_61 : decode m_Need_tree.2.1 61 = .ok (.iconst 0, 1) := by decide +kernel
theorem d_Need_tree_62 : decode m_Need_tree.2.1 62 = .ok (.putfield 108, 3) := by decide +kernel
theorem d_Need_tree_65 : decode m_Need_tree.2.1 65 = .ok (.aload_n 0, 1) := by decide +kernel
theorem d_Need_tree_66 : decode m_Need_tree.2.1 66 = .ok (.getfield 35, 3) := by decide +kernel
theorem d_Need_tree_69 : decode m_Need_tree.2.1 69 = .ok (.iconst 0, 1) := by decide +kernel
theorem d_Need_tree_70 : decode m_Need_tree.2.1 70 = .ok (.putfield 108, 3) := by decide +kernel
theorem d_Need_tree_73 : decode m_Need_tree.2.1 73 = .ok (.aload_n 0, 1) := by decide +kernel
theorem d_Need_tree_74 : decode m_Need_tree.2.1 74 = .ok (.getfield 48, 3) := by decide +kernel
theorem d_Need_tree_77 : decode m_Need_tree.2.1 77 = .ok (.invokevirtual 112, 3) := by decide +kernel
theorem d_Need_tree_80 : decode m_Need_tree.2.1 80 = .ok (.aload_n 0, 1) := by decide +kernel
theorem d_Need_tree_81 : decode m_Need_tree.2.1 81 = .ok (.invokevirtual 115, 3) := by decide +kernel
theorem d_Need_tree_84 : decode m_Need_tree.2.1 84 = .ok (.aload_n 0, 1) := by decide +kernel
theorem d_Need_tree_85 : decode m_Need_tree.2.1 85 = .ok (.getfield 28, 3) := by decide +kernel
theorem d_Need_tree_88 : decode m_Need_tree.2.1 88 = .ok (.getfield 101, 3) := by decide +kernel
theorem d_Need_tree_91 : decode m_Need_tree.2.1 91 = .ok (.getfield 118, 3) := by decide +kernel
theorem d_Need_tree_94 : decode m_Need_tree.2.1 94 = .ok (.ireturn, 1) := by decide +kernel
theorem d_Need_refresh_0 : decode m_Need_refresh.2.1 0 = .ok (.aload_n 0, 1) := by decide +kernel
theorem d_Need_refresh_1 : decode m_Need_refresh.2.1 1 = .ok (.getfield 76, 3) := by decide +kernel
theorem d_Need_refresh_4 : decode m_Need_refresh.2.1 4 = .ok (.aload_n 0, 1) := by decide +kernel
theorem d_Need_refresh_5 : decode m_Need_refresh.2.1 5 = .ok (.getfield 28, 3) := by decide +kernel
theorem d_Need_refresh_8 : decode m_Need_refresh.2.1 8 = .ok (.getfield 101, 3) := by decide +kernel
theorem d_Need_refresh_11 : decode m_Need_refresh.2.1 11 = .ok (.invokevirtual 281, 3) := by decide +kernel
theorem d_Need_refresh_14 : decode m_Need_refresh.2.1 14 = .ok (.aload_n 0, 1) := by decide +kernel
theorem d_Need_refresh_15 : decode m_Need_refresh.2.1 15 = .ok (.getfield 55, 3) := by decide +kernel
theorem d_Need_refresh_18 : decode m_Need_refresh.2.1 18 = .ok (.aload_n 0, 1) := by decide +kernel
theorem d_Need_refresh_19 : decode m_Need_refresh.2.1 19 = .ok (.getfield 28, 3) := by decide +kernel
theorem d_Need_refresh_22 : decode m_Need_refresh.2.1 22 = .ok (.getfield 101, 3) := by decide +kernel
theorem d_Need_refresh_25 : decode m_Need_refresh.2.1 25 = .ok (.aload_n 0, 1) := by decide +kernel
theorem d_Need_refresh_26 : decode m_Need_refresh.2.1 26 = .ok (.getfield 28, 3) := by decide +kernel
theorem d_Need_refresh_29 : decode m_Need_refresh.2.1 29 = .ok (.getfield 84, 3) := by decide +kernel
theorem d_Need_refresh_32 : decode m_Need_refresh.2.1 32 = .ok (.invokevirtual 284, 3) := by decide +kernel
theorem d_Need_refresh_35 : decode m_Need_refresh.2.1 35 = .ok (.aload_n 0, 1) := by decide +kernel
theorem d_Need_refresh_36 : decode m_Need_refresh.2.1 36 = .ok (.getfield 62, 3) := by decide +kernel
theorem d_Need_refresh_39 : decode m_Need_refresh.2.1 39 = .ok (.invokevirtual 287, 3) := by decide +kernel
theorem d_Need_refresh_42 : decode m_Need_refresh.2.1 42 = .ok (.return_, 1) := by decide +kernel
theorem d_Need_node_0 : decode m_Need_node.2.1 0 = .ok (.aload_n 0, 1) := by decide +kernel
theorem d_Need_node_1 : decode m_Need_node.2.1 1 = .ok (.getfield 28, 3) := by decide +kernel
theorem d_Need_node_4 : decode m_Need_node.2.1 4 = .ok (.getfield 101, 3) := by decide +kernel
theorem d_Need_node_7 : decode m_Need_node.2.1 7 = .ok (.iload_n 1, 1) := by decide +kernel
theorem d_Need_node_8 : decode m_Need_node.2.1 8 = .ok (.invokevirtual 121, 3) := by decide +kernel
theorem d_Need_node_11 : decode m_Need_node.2.1 11 = .ok (.ifCond .ne 5, 3) := by decide +kernel
theorem d_Need_node_14 : decode m_Need_node.2.1 14 = .ok (.iconst (-1), 1) := by decide +kernel
theorem d_Need_node_15 : decode m_Need_node.2.1 15 = .ok (.ireturn, 1) := by decide +kernel
theorem d_Need_node_16 : decode m_Need_node.2.1 16 = .ok (.iload_n 2, 1) := by decide +kernel
theorem d_Need_node_17 : decode m_Need_node.2.1 17 = .ok (.tableswitch 186 0 8 #[51, 66, 81, 96, 111, 126, 141, 156, 171], 51) := by decide +kernel
theorem d_Need_node_68 : decode m_Need_node.2.1 68 = .ok (.aload_n 0, 1) := by decide +kernel
theorem d_Need_node_69 : decode m_Need_node.2.1 69 = .ok (.getfield 28, 3) := by decide +kernel
theorem d_Need_node_72 : decode m_Need_node.2.1 72 = .ok (.getfield 101, 3) := by decide +kernel
theorem d_Need_node_75 : decode m_Need_node.2.1 75 = .ok (.getfield 125, 3) := by decide +kernel
theorem d_Need_node_78 : decode m_Need_node.2.1 78 = .ok (.iload_n 1, 1) := by decide +kernel
theorem d_Need_node_79 : decode m_Need_node.2.1 79 = .ok (.invokevirtual 128, 3) := by decide +kernel
theorem d_Need_node_82 : decode m_Need_node.2.1 82 = .ok (.ireturn, 1) := by decide +kernel
theorem d_Need_node_83 : decode m_Need_node.2.1 83 = .ok (.aload_n 0, 1) := by decide +kernel
theorem d_Need_node_84 : decode m_Need_node.2.1 84 = .ok (.getfield 28, 3) := by decide +kernel
theorem d_Need_node_87 : decode m_Need_node.2.1 87 = .ok (.getfield 101, 3) := by decide +kernel
theorem d_Need_node_90 : decode m_Need_node.2.1 90 = .ok (.getfield 132, 3) := by decide +kernel
theorem d_Need_node_93 : decode m_Need_node.2.1 93 = .ok (.iload_n 1, 1) := by decide +kernel
theorem d_Need_node_94 : decode m_Need_node.2.1 94 = .ok (.invokevirtual 128, 3) := by decide +kernel
theorem d_Need_node_97 : decode m_Need_node.2.1 97 = .ok (.ireturn, 1) := by decide +kernel
theorem d_Need_node_98 : decode m_Need_node.2.1 98 = .ok (.aload_n 0, 1) := by decide +kernel
theorem d_Need_node_99 : decode m_Need_node.2.1 99 = .ok (.getfield 28, 3) := by decide +kernel
theorem d_Need_node_102 : decode m_Need_node.2.1 102 = .ok (.getfield 101, 3) := by decide +kernel
theorem d_Need_node_105 : decode m_Need_node.2.1 105 = .ok (.getfield 135, 3) := by decide +kernel
theorem d_Need_node_108 : decode m_Need_node.2.1 108 = .ok (.iload_n 1, 1) := by decide +kernel
theorem d_Need_node_109 : decode m_Need_node.2.1 109 = .ok (.invokevirtual 128, 3) := by decide +kernel
theorem d_Need_node_112 : decode m_Need_node.2.1 112 = .ok (.ireturn, 1) := by decide +kernel
theorem d_Need_node_113 : decode m_Need_node.2.1 113 = .ok (.aload_n 0, 1) := by decide +kernel
theorem d_Need_node_114 : decode m_Need_node.2.1 114 = .ok (.getfield 28, 3) := by decide +kernel
theorem d_Need_node_117 : decode m_Need_node.2.1 117 = .ok (.getfield 101, 3) := by decide +kernel
theorem d_Need_node_120 : decode m_Need_node.2.1 120 = .ok (.getfield 138, 3) := by decide +kernel
theorem d_Need_node_123 : decode m_Need_node.2.1 123 = .ok (.iload_n 1, 1) := by decide +kernel
theorem d_Need_node_124 : decode m_Need_node.2.1 124 = .ok (.invokevirtual 128, 3) := by decide +kernel
theorem d_Need_node_127 : decode m_Need_node.2.1 127 = .ok (.ireturn, 1) := by decide +kernel
theorem d_Need_node_128 : decode m_Need_node.2.1 128 = .ok (.aload_n 0, 1) := by decide +kernel
theorem d_Need_node_129 : decode m_Need_node.2.1 129 = .ok (.getfield 28, 3) := by decide +kernel
theorem d_Need_node_132 : decode m_Need_node.2.1 132 = .ok (.getfield 101, 3) := by decide +kernel
theorem d_Need_node_135 : decode m_Need_node.2.1 135 = .ok (.getfield 141, 3) := by decide +kernel
theorem d_Need_node_138 : decode m_Need_node.2.1 138 = .ok (.iload_n 1, 1) := by decide +kernel
theorem d_Need_node_139 : decode m_Need_node.2.1 139 = .ok (.invokevirtual 128, 3) := by decide +kernel
theorem d_Need_node_142 : decode m_Need_node.2.1 142 = .ok (.ireturn, 1) := by decide +kernel
theorem d_Need_node_143 : decode m_Need_node.2.1 143 = .ok (.aload_n 0, 1) := by decide +kernel
theorem d_Need_node_144 : decode m_Need_node.2.1 144 = .ok (.getfield 28, 3) := by decide +kernel
theorem d_Need_node_147 : decode m_Need_node.2.1 147 = .ok (.getfield 101, 3) := by decide +kernel
theorem d_Need_node_150 : decode m_Need_node.2.1 150 = .ok (.getfield 144, 3) := by decide +kernel
theorem d_Need_node_153 : decode m_Need_node.2.1 153 = .ok (.iload_n 1, 1) := by decide +kernel
theorem d_Need_node_154 : decode m_Need_node.2.1 154 = .ok (.invokevirtual 128, 3) := by decide +kernel
theorem d_Need_node_157 : decode m_Need_node.2.1 157 = .ok (.ireturn, 1) := by decide +kernel
theorem d_Need_node_158 : decode m_Need_node.2.1 158 = .ok (.aload_n 0, 1) := by decide +kernel
theorem d_Need_node_159 : decode m_Need_node.2.1 159 = .ok (.getfield 28, 3) := by decide +kernel
theorem d_Need_node_162 : decode m_Need_node.2.1 162 = .ok (.getfield 101, 3) := by decide +kernel
theorem d_Need_node_165 : decode m_Need_node.2.1 165 = .ok (.getfield 147, 3) := by decide +kernel
theorem d_Need_node_168 : decode m_Need_node.2.1 168 = .ok (.iload_n 1, 1) := by decide +kernel
theorem d_Need_node_169 : decode m_Need_node.2.1 169 = .ok (.invokevirtual 128, 3) := by decide +kernel
theorem d_Need_node_172 : decode m_Need_node.2.1 172 = .ok (.ireturn, 1) := by decide +kernel
theorem d_Need_node_173 : decode m_Need_node.2.1 173 = .ok (.aload_n 0, 1) := by decide +kernel
theorem d_Need_node_174 : decode m_Need_node.2.1 174 = .ok (.getfield 28, 3) := by decide +kernel
theorem d_Need_node_177 : decode m_Need_node.2.1 177 = .ok (.getfield 101, 3) := by decide +kernel
theorem d_Need_node_180 : decode m_Need_node.2.1 180 = .ok (.getfield 150, 3) := by decide +kernel
theorem d_Need_node_183 : decode m_Need_node.2.1 183 = .ok (.iload_n 1, 1) := by decide +kernel
theorem d_Need_node_184 : decode m_Need_node.2.1 184 = .ok (.invokevirtual 128, 3) := by decide +kernel
theorem d_Need_node_187 : decode m_Need_node.2.1 187 = .ok (.ireturn, 1) := by decide +kernel
theorem d_Need_node_188 : decode m_Need_node.2.1 188 = .ok (.aload_n 0, 1) := by decide +kernel
theorem d_Need_node_189 : decode m_Need_node.2.1 189 = .ok (.getfield 28, 3) := by decide +kernel
theorem d_Need_node_192 : decode m_Need_node.2.1 192 = .ok (.getfield 101, 3) := by decide +kernel
theorem d_Need_node_195 : decode m_Need_node.2.1 195 = .ok (.getfield 153, 3) := by decide +kernel
theorem d_Need_node_198 : decode m_Need_node.2.1 198 = .ok (.iload_n 1, 1) := by decide +kernel
theorem d_Need_node_199 : decode m_Need_node.2.1 199 = .ok (.invokevirtual 128, 3) := by decide +kernel
theorem d_Need_node_202 : decode m_Need_node.2.1 202 = .ok (.ireturn, 1) := by decide +kernel
theorem d_Need_node_203 : decode m_Need_node.2.1 203 = .ok (.iconst (-1), 1) := by decide +kernel
theorem d_Need_node_204 : decode m_Need_node.2.1 204 = .ok (.ireturn, 1) := by decide +kernel
theorem d_Need_value_0 : decode m_Need_value.2.1 0 = .ok (.aload_n 0, 1) := by decide +kernel
theorem d_Need_value_1 : decode m_Need_value.2.1 1 = .ok (.getfield 28, 3) := by decide +kernel
theorem d_Need_value_4 : decode m_Need_value.2.1 4 = .ok (.getfield 101, 3) := by decide +kernel
theorem d_Need_value_7 : decode m_Need_value.2.1 7 = .ok (.iload_n 1, 1) := by decide +kernel
theorem d_Need_value_8 : decode m_Need_value.2.1 8 = .ok (.invokevirtual 121, 3) := by decide +kernel
theorem d_Need_value_11 : decode m_Need_value.2.1 11 = .ok (.ifCond .ne 5, 3) := by decide +kernel
theorem d_Need_value_14 : decode m_Need_value.2.1 14 = .ok (.iconst (-1), 1) := by decide +kernel
theorem d_Need_value_15 : decode m_Need_value.2.1 15 = .ok (.ireturn, 1) := by decide +kernel
theorem d_Need_value_16 : decode m_Need_value.2.1 16 = .ok (.aload_n 0, 1) := by decide +kernel
theorem d_Need_value_17 : decode m_Need_value.2.1 17 = .ok (.aload_n 0, 1) := by decide +kernel
theorem d_Need_value_18 : decode m_Need_value.2.1 18 = .ok (.getfield 69, 3) := by decide +kernel
theorem d_Need_value_21 : decode m_Need_value.2.1 21 = .ok (.aload_n 0, 1) := by decide +kernel
theorem d_Need_value_22 : decode m_Need_value.2.1 22 = .ok (.getfield 28, 3) := by decide +kernel
theorem d_Need_value_25 : decode m_Need_value.2.1 25 = .ok (.getfield 101, 3) := by decide +kernel
theorem d_Need_value_28 : decode m_Need_value.2.1 28 = .ok (.aload_n 0, 1) := by decide +kernel
theorem d_Need_value_29 : decode m_Need_value.2.1 29 = .ok (.getfield 28, 3) := by decide +kernel
theorem d_Need_value_32 : decode m_Need_value.2.1 32 = .ok (.getfield 156, 3) := by decide +kernel
theorem d_Need_value_35 : decode m_Need_value.2.1 35 = .ok (.iload_n 1, 1) := by decide +kernel
theorem d_Need_value_36 : decode m_Need_value.2.1 36 = .ok (.invokevirtual 159, 3) := by decide +kernel
theorem d_Need_value_39 : decode m_Need_value.2.1 39 = .ok (.invokevirtual 163, 3) := by decide +kernel
theorem d_Need_value_42 : decode m_Need_value.2.1 42 = .ok (.ireturn, 1) := by decide +kernel
theorem d_Need_tell_0 : decode m_Need_tell.2.1 0 = .ok (.iload_n 1, 1) := by decide +kernel
theorem d_Need_tell_1 : decode m_Need_tell.2.1 1 = .ok (.ifCond .ne 17, 3) := by decide +kernel
theorem d_Need_tell_4 : decode m_Need_tell.2.1 4 = .ok (.aload_n 0, 1) := by decide +kernel
theorem d_Need_tell_5 : decode m_Need_tell.2.1 5 = .ok (.aload_n 0, 1) := by decide +kernel
theorem d_Need_tell_6 : decode m_Need_tell.2.1 6 = .ok (.getfield 69, 3) := by decide +kernel
theorem d_Need_tell_9 : decode m_Need_tell.2.1 9 = .ok (.getfield 275, 3) := by decide +kernel
theorem d_Need_tell_12 : decode m_Need_tell.2.1 12 = .ok (.putfield 80, 3) := by decide +kernel
theorem d_Need_tell_15 : decode m_Need_tell.2.1 15 = .ok (.bipush (-4), 2) := by decide +kernel
theorem d_Need_tell_17 : decode m_Need_tell.2.1 17 = .ok (.ireturn, 1) := by decide +kernel
theorem d_Need_tell_18 : decode m_Need_tell.2.1 18 = .ok (.aload_n 0, 1) := by decide +kernel
theorem d_Need_tell_19 : decode m_Need_tell.2.1 19 = .ok (.aload_n 0, 1) := by decide +kernel
theorem d_Need_tell_20 : decode m_Need_tell.2.1 20 = .ok (.getfield 69, 3) := by decide +kernel
theorem d_Need_tell_23 : decode m_Need_tell.2.1 23 = .ok (.getfield 278, 3) := by decide +kernel
theorem d_Need_tell_26 : decode m_Need_tell.2.1 26 = .ok (.putfield 218, 3) := by decide +kernel
theorem d_Need_tell_29 : decode m_Need_tell.2.1 29 = .ok (.iconst 1, 1) := by decide +kernel
theorem d_Need_tell_30 : decode m_Need_tell.2.1 30 = .ok (.ireturn, 1) := by decide +kernel
theorem d_Need_cost_0 : decode m_Need_cost.2.1 0 = .ok (.aload_n 0, 1) := by decide +kernel
theorem d_Need_cost_1 : decode m_Need_cost.2.1 1 = .ok (.getfield 28, 3) := by decide +kernel
theorem d_Need_cost_4 : decode m_Need_cost.2.1 4 = .ok (.getfield 101, 3) := by decide +kernel
theorem d_Need_cost_7 : decode m_Need_cost.2.1 7 = .ok (.iload_n 1, 1) := by decide +kernel
theorem d_Need_cost_8 : decode m_Need_cost.2.1 8 = .ok (.invokevirtual 121, 3) := by decide +kernel
theorem d_Need_cost_11 : decode m_Need_cost.2.1 11 = .ok (.ifCond .eq 23, 3) := by decide +kernel
theorem d_Need_cost_14 : decode m_Need_cost.2.1 14 = .ok (.aload_n 0, 1) := by decide +kernel
theorem d_Need_cost_15 : decode m_Need_cost.2.1 15 = .ok (.iload_n 2, 1) := by decide +kernel
theorem d_Need_cost_16 : decode m_Need_cost.2.1 16 = .ok (.invokevirtual 167, 3) := by decide +kernel
theorem d_Need_cost_19 : decode m_Need_cost.2.1 19 = .ok (.ifCond .eq 15, 3) := by decide +kernel
theorem d_Need_cost_22 : decode m_Need_cost.2.1 22 = .ok (.aload_n 0, 1) := by decide +kernel
theorem d_Need_cost_23 : decode m_Need_cost.2.1 23 = .ok (.getfield 55, 3) := by decide +kernel
theorem d_Need_cost_26 : decode m_Need_cost.2.1 26 = .ok (.iload_n 1, 1) := by decide +kernel
theorem d_Need_cost_27 : decode m_Need_cost.2.1 27 = .ok (.iload_n 2, 1) := by decide +kernel
theorem d_Need_cost_28 : decode m_Need_cost.2.1 28 = .ok (.invokevirtual 170, 3) := by decide +kernel
theorem d_Need_cost_31 : decode m_Need_cost.2.1 31 = .ok (.goto 4, 3) := by decide +kernel
theorem d_Need_cost_34 : decode m_Need_cost.2.1 34 = .ok (.iconst (-1), 1) := by decide +kernel
theorem d_Need_cost_35 : decode m_Need_cost.2.1 35 = .ok (.ireturn, 1) := by decide +kernel
theorem d_Need_hasRegisters_0 : decode m_Need_hasRegisters.2.1 0 = .ok (.iload_n 1, 1) := by decide +kernel
theorem d_Need_hasRegisters_1 : decode m_Need_hasRegisters.2.1 1 = .ok (.iconst 1, 1) := by decide +kernel
theorem d_Need_hasRegisters_2 : decode m_Need_hasRegisters.2.1 2 = .ok (.if_icmp .lt 15, 3) := by decide +kernel
theorem d_Need_hasRegisters_5 : decode m_Need_hasRegisters.2.1 5 = .ok (.iload_n 1, 1) := by decide +kernel
theorem d_Need_hasRegisters_6 : decode m_Need_hasRegisters.2.1 6 = .ok (.aload_n 0, 1) := by decide +kernel
theorem d_Need_hasRegisters_7 : decode m_Need_hasRegisters.2.1 7 = .ok (.invokevirtual 195, 3) := by decide +kernel
theorem d_Need_hasRegisters_10 : decode m_Need_hasRegisters.2.1 10 = .ok (.if_icmp .gt 7, 3) := by decide +kernel
theorem d_Need_hasRegisters_13 : decode m_Need_hasRegisters.2.1 13 = .ok (.iconst 1, 1) := by decide +kernel
theorem d_Need_hasRegisters_14 : decode m_Need_hasRegisters.2.1 14 = .ok (.goto 4, 3) := by decide +kernel
theorem d_Need_hasRegisters_17 : decode m_Need_hasRegisters.2.1 17 = .ok (.iconst 0, 1) := by decide +kernel
theorem d_Need_hasRegisters_18 : decode m_Need_hasRegisters.2.1 18 = .ok (.ireturn, 1) := by decide +kernel
theorem d_Need_registers_0 : decode m_Need_registers.2.1 0 = .ok (.aload_n 0, 1) := by decide +kernel
theorem d_Need_registers_1 : decode m_Need_registers.2.1 1 = .ok (.getfield 28, 3) := by decide +kernel
theorem d_Need_registers_4 : decode m_Need_registers.2.1 4 = .ok (.getfield 84, 3) := by decide +kernel
theorem d_Need_registers_7 : decode m_Need_registers.2.1 7 = .ok (.iconst 0, 1) := by decide +kernel
theorem d_Need_registers_8 : decode m_Need_registers.2.1 8 = .ok (.invokevirtual 128, 3) := by decide +kernel
theorem d_Need_registers_11 : decode m_Need_registers.2.1 11 = .ok (.ireturn, 1) := by decide +kernel
theorem d_Need_way_0 : decode m_Need_way.2.1 0 = .ok (.aload_n 0, 1) := by decide +kernel
theorem d_Need_way_1 : decode m_Need_way.2.1 1 = .ok (.getfield 28, 3) := by decide +kernel
theorem d_Need_way_4 : decode m_Need_way.2.1 4 = .ok (.getfield 101, 3) := by decide +kernel
theorem d_Need_way_7 : decode m_Need_way.2.1 7 = .ok (.iload_n 1, 1) := by decide +kernel
theorem d_Need_way_8 : decode m_Need_way.2.1 8 = .ok (.invokevirtual 121, 3) := by decide +kernel
theorem d_Need_way_11 : decode m_Need_way.2.1 11 = .ok (.ifCond .eq 23, 3) := by decide +kernel
theorem d_Need_way_14 : decode m_Need_way.2.1 14 = .ok (.aload_n 0, 1) := by decide +kernel
theorem d_Need_way_15 : decode m_Need_way.2.1 15 = .ok (.iload_n 2, 1) := by decide +kernel
theorem d_Need_way_16 : decode m_Need_way.2.1 16 = .ok (.invokevirtual 167, 3) := by decide +kernel
theorem d_Need_way_19 : decode m_Need_way.2.1 19 = .ok (.ifCond .eq 15, 3) := by decide +kernel
theorem d_Need_way_22 : decode m_Need_way.2.1 22 = .ok (.aload_n 0, 1) := by decide +kernel
theorem d_Need_way_23 : decode m_Need_way.2.1 23 = .ok (.getfield 55, 3) := by decide +kernel
theorem d_Need_way_26 : decode m_Need_way.2.1 26 = .ok (.iload_n 1, 1) := by decide +kernel
theorem d_Need_way_27 : decode m_Need_way.2.1 27 = .ok (.iload_n 2, 1) := by decide +kernel
theorem d_Need_way_28 : decode m_Need_way.2.1 28 = .ok (.invokevirtual 174, 3) := by decide +kernel
theorem d_Need_way_31 : decode m_Need_way.2.1 31 = .ok (.goto 4, 3) := by decide +kernel
theorem d_Need_way_34 : decode m_Need_way.2.1 34 = .ok (.iconst (-1), 1) := by decide +kernel
theorem d_Need_way_35 : decode m_Need_way.2.1 35 = .ok (.ireturn, 1) := by decide +kernel
theorem d_Need_program_0 : decode m_Need_program.2.1 0 = .ok (.aload_n 0, 1) := by decide +kernel
theorem d_Need_program_1 : decode m_Need_program.2.1 1 = .ok (.getfield 28, 3) := by decide +kernel
theorem d_Need_program_4 : decode m_Need_program.2.1 4 = .ok (.getfield 101, 3) := by decide +kernel
theorem d_Need_program_7 : decode m_Need_program.2.1 7 = .ok (.invokevirtual 177, 3) := by decide +kernel
theorem d_Need_program_10 : decode m_Need_program.2.1 10 = .ok (.ifCond .eq 6, 3) := by decide +kernel
theorem d_Need_program_13 : decode m_Need_program.2.1 13 = .ok (.bipush (-2), 2) := by decide +kernel
theorem d_Need_program_15 : decode m_Need_program.2.1 15 = .ok (.ireturn, 1) := by decide +kernel
theorem d_Need_program_16 : decode m_Need_program.2.1 16 = .ok (.aload_n 0, 1) := by decide +kernel
theorem d_Need_program_17 : decode m_Need_program.2.1 17 = .ok (.iload_n 1, 1) := by decide +kernel
theorem d_Need_program_18 : decode m_Need_program.2.1 18 = .ok (.invokevirtual 167, 3) := by decide +kernel
theorem d_Need_program_21 : decode m_Need_program.2.1 21 = .ok (.ifCond .eq 12, 3) := by decide +kernel
theorem d_Need_program_24 : decode m_Need_program.2.1 24 = .ok (.iload_n 2, 1) := by decide +kernel
theorem d_Need_program_25 : decode m_Need_program.2.1 25 = .ok (.ifCond .lt 8, 3) := by decide +kernel
theorem d_Need_program_28 : decode m_Need_program.2.1 28 = .ok (.iload_n 2, 1) := by decide +kernel
theorem d_Need_program_29 : decode m_Need_program.2.1 29 = .ok (.iconst 2, 1) := by decide +kernel
theorem d_Need_program_30 : decode m_Need_program.2.1 30 = .ok (.if_icmp .le 5, 3) := by decide +kernel
theorem d_Need_program_33 : decode m_Need_program.2.1 33 = .ok (.iconst (-1), 1) := by decide +kernel
theorem d_Need_program_34 : decode m_Need_program.2.1 34 = .ok (.ireturn, 1) := by decide +kernel
theorem d_Need_program_35 : decode m_Need_program.2.1 35 = .ok (.iload_n 2, 1) := by decide +kernel
theorem d_Need_program_36 : decode m_Need_program.2.1 36 = .ok (.iconst 2, 1) := by decide +kernel
theorem d_Need_program_37 : decode m_Need_program.2.1 37 = .ok (.if_icmp .ne 22, 3) := by decide +kernel
theorem d_Need_program_40 : decode m_Need_program.2.1 40 = .ok (.aload_n 0, 1) := by decide +kernel
theorem d_Need_program_41 : decode m_Need_program.2.1 41 = .ok (.getfield 55, 3) := by decide +kernel
theorem d_Need_program_44 : decode m_Need_program.2.1 44 = .ok (.aload_n 0, 1) := by decide +kernel
theorem d_Need_program_45 : decode m_Need_program.2.1 45 = .ok (.getfield 28, 3) := by decide +kernel
theorem d_Need_program_48 : decode m_Need_program.2.1 48 = .ok (.getfield 101, 3) := by decide +kernel
theorem d_Need_program_51 : decode m_Need_program.2.1 51 = .ok (.invokevirtual 181, 3) := by decide +kernel
theorem d_Need_program_54 : decode m_Need_program.2.1 54 = .ok (.iload_n 1, 1) := by decide +kernel
theorem d_Need_program_55 : decode m_Need_program.2.1 55 = .ok (.invokevirtual 170, 3) := by decide +kernel
theorem d_Need_program_58 : decode m_Need_program.2.1 58 = .ok (.ireturn, 1) := by decide +kernel
theorem d_Need_program_59 : decode m_Need_program.2.1 59 = .ok (.aload_n 0, 1) := by decide +kernel
theorem d_Need_program_60 : decode m_Need_program.2.1 60 = .ok (.getfield 62, 3) := by decide +kernel
theorem d_Need_program_63 : decode m_Need_program.2.1 63 = .ok (.iload_n 1, 1) := by decide +kernel
theorem d_Need_program_64 : decode m_Need_program.2.1 64 = .ok (.aload_n 0, 1) := by decide +kernel
theorem d_Need_program_65 : decode m_Need_program.2.1 65 = .ok (.getfield 28, 3) := by decide +kernel
theorem d_Need_program_68 : decode m_Need_program.2.1 68 = .ok (.getfield 101, 3) := by decide +kernel
theorem d_Need_program_71 : decode m_Need_program.2.1 71 = .ok (.aload_n 0, 1) := by decide +kernel
theorem d_Need_program_72 : decode m_Need_program.2.1 72 = .ok (.getfield 55, 3) := by decide +kernel
theorem d_Need_program_75 : decode m_Need_program.2.1 75 = .ok (.invokevirtual 185, 3) := by decide +kernel
theorem d_Need_program_78 : decode m_Need_program.2.1 78 = .ok (.iload_n 2, 1) := by decide +kernel
theorem d_Need_program_79 : decode m_Need_program.2.1 79 = .ok (.ifCond .ne 13, 3) := by decide +kernel
theorem d_Need_program_82 : decode m_Need_program.2.1 82 = .ok (.aload_n 0, 1) := by decide +kernel
theorem d_Need_program_83 : decode m_Need_program.2.1 83 = .ok (.getfield 62, 3) := by decide +kernel
theorem d_Need_program_86 : decode m_Need_program.2.1 86 = .ok (.getfield 189, 3) := by decide +kernel
theorem d_Need_program_89 : decode m_Need_program.2.1 89 = .ok (.goto 10, 3) := by decide +kernel
theorem d_Need_program_92 : decode m_Need_program.2.1 92 = .ok (.aload_n 0, 1) := by decide +kernel
theorem d_Need_program_93 : decode m_Need_program.2.1 93 = .ok (.getfield 62, 3) := by decide +kernel
theorem d_Need_program_96 : decode m_Need_program.2.1 96 = .ok (.getfield 192, 3) := by decide +kernel
theorem d_Need_program_99 : decode m_Need_program.2.1 99 = .ok (.ireturn, 1) := by decide +kernel
theorem d_Need_line_0 : decode m_Need_line.2.1 0 = .ok (.aload_n 0, 1) := by decide +kernel
theorem d_Need_line_1 : decode m_Need_line.2.1 1 = .ok (.getfield 28, 3) := by decide +kernel
theorem d_Need_line_4 : decode m_Need_line.2.1 4 = .ok (.getfield 101, 3) := by decide +kernel
theorem d_Need_line_7 : decode m_Need_line.2.1 7 = .ok (.invokevirtual 177, 3) := by decide +kernel
theorem d_Need_line_10 : decode m_Need_line.2.1 10 = .ok (.ifCond .eq 6, 3) := by decide +kernel
theorem d_Need_line_13 : decode m_Need_line.2.1 13 = .ok (.bipush (-2), 2) := by decide +kernel
theorem d_Need_line_15 : decode m_Need_line.2.1 15 = .ok (.ireturn, 1) := by decide +kernel
theorem d_Need_line_16 : decode m_Need_line.2.1 16 = .ok (.aload_n 0, 1) := by decide +kernel
theorem d_Need_line_17 : decode m_Need_line.2.1 17 = .ok (.getfield 62, 3) := by decide +kernel
theorem d_Need_line_20 : decode m_Need_line.2.1 20 = .ok (.aload_n 0, 1) := by decide +kernel
theorem d_Need_line_21 : decode m_Need_line.2.1 21 = .ok (.invokevirtual 195, 3) := by decide +kernel
theorem d_Need_line_24 : decode m_Need_line.2.1 24 = .ok (.aload_n 0, 1) := by decide +kernel
theorem d_Need_line_25 : decode m_Need_line.2.1 25 = .ok (.getfield 28, 3) := by decide +kernel
theorem d_Need_line_28 : decode m_Need_line.2.1 28 = .ok (.getfield 101, 3) := by decide +kernel
theorem d_Need_line_31 : decode m_Need_line.2.1 31 = .ok (.aload_n 0, 1) := by decide +kernel
theorem d_Need_line_32 : decode m_Need_line.2.1 32 = .ok (.getfield 55, 3) := by decide +kernel
theorem d_Need_line_35 : decode m_Need_line.2.1 35 = .ok (.invokevirtual 185, 3) := by decide +kernel
theorem d_Need_line_38 : decode m_Need_line.2.1 38 = .ok (.iload_n 1, 1) := by decide +kernel
theorem d_Need_line_39 : decode m_Need_line.2.1 39 = .ok (.ifCond .lt 23, 3) := by decide +kernel
theorem d_Need_line_42 : decode m_Need_line.2.1 42 = .ok (.iload_n 1, 1) := by decide +kernel
theorem d_Need_line_43 : decode m_Need_line.2.1 43 = .ok (.aload_n 0, 1) := by decide +kernel
theorem d_Need_line_44 : decode m_Need_line.2.1 44 = .ok (.getfield 62, 3) := by decide +kernel
theorem d_Need_line_47 : decode m_Need_line.2.1 47 = .ok (.getfield 189, 3) := by decide +kernel
theorem d_Need_line_50 : decode m_Need_line.2.1 50 = .ok (.if_icmp .ge 12, 3) := by decide +kernel
theorem d_Need_line_53 : decode m_Need_line.2.1 53 = .ok (.iload_n 2, 1) := by decide +kernel
theorem d_Need_line_54 : decode m_Need_line.2.1 54 = .ok (.ifCond .lt 8, 3) := by decide +kernel
theorem d_Need_line_57 : decode m_Need_line.2.1 57 = .ok (.iload_n 2, 1) := by decide +kernel
theorem d_Need_line_58 : decode m_Need_line.2.1 58 = .ok (.iconst 5, 1) := by decide +kernel
theorem d_Need_line_59 : decode m_Need_line.2.1 59 = .ok (.if_icmp .lt 5, 3) := by decide +kernel
theorem d_Need_line_62 : decode m_Need_line.2.1 62 = .ok (.iconst (-1), 1) := by decide +kernel
theorem d_Need_line_63 : decode m_Need_line.2.1 63 = .ok (.ireturn, 1) := by decide +kernel
theorem d_Need_line_64 : decode m_Need_line.2.1 64 = .ok (.aload_n 0, 1) := by decide +kernel
theorem d_Need_line_65 : decode m_Need_line.2.1 65 = .ok (.getfield 62, 3) := by decide +kernel
theorem d_Need_line_68 : decode m_Need_line.2.1 68 = .ok (.iload_n 1, 1) := by decide +kernel
theorem d_Need_line_69 : decode m_Need_line.2.1 69 = .ok (.iload_n 2, 1) := by decide +kernel
theorem d_Need_line_70 : decode m_Need_line.2.1 70 = .ok (.invokevirtual 198, 3) := by decide +kernel
theorem d_Need_line_73 : decode m_Need_line.2.1 73 = .ok (.ireturn, 1) := by decide +kernel
theorem d_Need_run_0 : decode m_Need_run.2.1 0 = .ok (.aload_n 0, 1) := by decide +kernel
theorem d_Need_run_1 : decode m_Need_run.2.1 1 = .ok (.getfield 28, 3) := by decide +kernel
theorem d_Need_run_4 : decode m_Need_run.2.1 4 = .ok (.getfield 101, 3) := by decide +kernel
theorem d_Need_run_7 : decode m_Need_run.2.1 7 = .ok (.invokevirtual 177, 3) := by decide +kernel
theorem d_Need_run_10 : decode m_Need_run.2.1 10 = .ok (.ifCond .eq 6, 3) := by decide +kernel
theorem d_Need_run_13 : decode m_Need_run.2.1 13 = .ok (.bipush (-2), 2) := by decide +kernel
theorem d_Need_run_15 : decode m_Need_run.2.1 15 = .ok (.ireturn, 1) := by decide +kernel
theorem d_Need_run_16 : decode m_Need_run.2.1 16 = .ok (.aload_n 0, 1) := by decide +kernel
theorem d_Need_run_17 : decode m_Need_run.2.1 17 = .ok (.getfield 62, 3) := by decide +kernel
theorem d_Need_run_20 : decode m_Need_run.2.1 20 = .ok (.aload_n 0, 1) := by decide +kernel
theorem d_Need_run_21 : decode m_Need_run.2.1 21 = .ok (.invokevirtual 195, 3) := by decide +kernel
theorem d_Need_run_24 : decode m_Need_run.2.1 24 = .ok (.aload_n 0, 1) := by decide +kernel
theorem d_Need_run_25 : decode m_Need_run.2.1 25 = .ok (.getfield 28, 3) := by decide +kernel
theorem d_Need_run_28 : decode m_Need_run.2.1 28 = .ok (.getfield 101, 3) := by decide +kernel
theorem d_Need_run_31 : decode m_Need_run.2.1 31 = .ok (.aload_n 0, 1) := by decide +kernel
theorem d_Need_run_32 : decode m_Need_run.2.1 32 = .ok (.getfield 55, 3) := by decide +kernel
theorem d_Need_run_35 : decode m_Need_run.2.1 35 = .ok (.invokevirtual 185, 3) := by decide +kernel
theorem d_Need_run_38 : decode m_Need_run.2.1 38 = .ok (.iload_n 1, 1) := by decide +kernel
theorem d_Need_run_39 : decode m_Need_run.2.1 39 = .ok (.ifCond .lt 14, 3) := by decide +kernel
theorem d_Need_run_42 : decode m_Need_run.2.1 42 = .ok (.iload_n 1, 1) := by decide +kernel
theorem d_Need_run_43 : decode m_Need_run.2.1 43 = .ok (.aload_n 0, 1) := by decide +kernel
theorem d_Need_run_44 : decode m_Need_run.2.1 44 = .ok (.getfield 62, 3) := by decide +kernel
theorem d_Need_run_47 : decode m_Need_run.2.1 47 = .ok (.getfield 189, 3) := by decide +kernel
theorem d_Need_run_50 : decode m_Need_run.2.1 50 = .ok (.if_icmp .le 5, 3) := by decide +kernel
theorem d_Need_run_53 : decode m_Need_run.2.1 53 = .ok (.iconst (-1), 1) := by decide +kernel
theorem d_Need_run_54 : decode m_Need_run.2.1 54 = .ok (.ireturn, 1) := by decide +kernel
theorem d_Need_run_55 : decode m_Need_run.2.1 55 = .ok (.aload_n 0, 1) := by decide +kernel
theorem d_Need_run_56 : decode m_Need_run.2.1 56 = .ok (.aload_n 0, 1) := by decide +kernel
theorem d_Need_run_57 : decode m_Need_run.2.1 57 = .ok (.getfield 69, 3) := by decide +kernel
theorem d_Need_run_60 : decode m_Need_run.2.1 60 = .ok (.aload_n 0, 1) := by decide +kernel
theorem d_Need_run_61 : decode m_Need_run.2.1 61 = .ok (.getfield 62, 3) := by decide +kernel
theorem d_Need_run_64 : decode m_Need_run.2.1 64 = .ok (.iload_n 1, 1) := by decide +kernel
theorem d_Need_run_65 : decode m_Need_run.2.1 65 = .ok (.aload_n 0, 1) := by decide +kernel
theorem d_Need_run_66 : decode m_Need_run.2.1 66 = .ok (.getfield 28, 3) := by decide +kernel
theorem d_Need_run_69 : decode m_Need_run.2.1 69 = .ok (.getfield 101, 3) := by decide +kernel
theorem d_Need_run_72 : decode m_Need_run.2.1 72 = .ok (.aload_n 0, 1) := by decide +kernel
theorem d_Need_run_73 : decode m_Need_run.2.1 73 = .ok (.getfield 28, 3) := by decide +kernel
theorem d_Need_run_76 : decode m_Need_run.2.1 76 = .ok (.getfield 156, 3) := by decide +kernel
theorem d_Need_run_79 : decode m_Need_run.2.1 79 = .ok (.invokevirtual 201, 3) := by decide +kernel
theorem d_Need_run_82 : decode m_Need_run.2.1 82 = .ok (.invokevirtual 163, 3) := by decide +kernel
theorem d_Need_run_85 : decode m_Need_run.2.1 85 = .ok (.ireturn, 1) := by decide +kernel
theorem d_Need_fewest_0 : decode m_Need_fewest.2.1 0 = .ok (.aload_n 0, 1) := by decide +kernel
theorem d_Need_fewest_1 : decode m_Need_fewest.2.1 1 = .ok (.getfield 28, 3) := by decide +kernel
theorem d_Need_fewest_4 : decode m_Need_fewest.2.1 4 = .ok (.getfield 101, 3) := by decide +kernel
theorem d_Need_fewest_7 : decode m_Need_fewest.2.1 7 = .ok (.invokevirtual 177, 3) := by decide +kernel
theorem d_Need_fewest_10 : decode m_Need_fewest.2.1 10 = .ok (.ifCond .eq 6, 3) := by decide +kernel
theorem d_Need_fewest_13 : decode m_Need_fewest.2.1 13 = .ok (.bipush (-2), 2) := by decide +kernel
theorem d_Need_fewest_15 : decode m_Need_fewest.2.1 15 = .ok (.ireturn, 1) := by decide +kernel
theorem d_Need_fewest_16 : decode m_Need_fewest.2.1 16 = .ok (.iconst 1, 1) := by decide +kernel
theorem d_Need_fewest_17 : decode m_Need_fewest.2.1 17 = .ok (.istore_n 1, 1) := by decide +kernel
theorem d_Need_fewest_18 : decode m_Need_fewest.2.1 18 = .ok (.iload_n 1, 1) := by decide +kernel
theorem d_Need_fewest_19 : decode m_Need_fewest.2.1 19 = .ok (.aload_n 0, 1) := by decide +kernel
theorem d_Need_fewest_20 : decode m_Need_fewest.2.1 20 = .ok (.invokevirtual 195, 3) := by decide +kernel
theorem d_Need_fewest_23 : decode m_Need_fewest.2.1 23 = .ok (.if_icmp .gt 40, 3) := by decide +kernel
theorem d_Need_fewest_26 : decode m_Need_fewest.2.1 26 = .ok (.aload_n 0, 1) := by decide +kernel
theorem d_Need_fewest_27 : decode m_Need_fewest.2.1 27 = .ok (.getfield 62, 3) := by decide +kernel
theorem d_Need_fewest_30 : decode m_Need_fewest.2.1 30 = .ok (.iload_n 1, 1) := by decide +kernel
theorem d_Need_fewest_31 : decode m_Need_fewest.2.1 31 = .ok (.aload_n 0, 1) := by decide +kernel
theorem d_Need_fewest_32 : decode m_Need_fewest.2.1 32 = .ok (.getfield 28, 3) := by decide +kernel
theorem d_Need_fewest_35 : decode m_Need_fewest.2.1 35 = .ok (.getfield 101, 3) := by decide +kernel
theorem d_Need_fewest_38 : decode m_Need_fewest.2.1 38 = .ok (.aload_n 0, 1) := by decide +kernel
theorem d_Need_fewest_39 : decode m_Need_fewest.2.1 39 = .ok (.getfield 55, 3) := by decide +kernel
theorem d_Need_fewest_42 : decode m_Need_fewest.2.1 42 = .ok (.invokevirtual 185, 3) := by decide +kernel
theorem d_Need_fewest_45 : decode m_Need_fewest.2.1 45 = .ok (.aload_n 0, 1) := by decide +kernel
theorem d_Need_fewest_46 : decode m_Need_fewest.2.1 46 = .ok (.getfield 62, 3) := by decide +kernel
theorem d_Need_fewest_49 : decode m_Need_fewest.2.1 49 = .ok (.getfield 192, 3) := by decide +kernel
theorem d_Need_fewest_52 : decode m_Need_fewest.2.1 52 = .ok (.ifCond .ne 5, 3) := by decide +kernel
theorem d_Need_fewest_55 : decode m_Need_fewest.2.1 55 = .ok (.iload_n 1, 1) := by decide +kernel
theorem d_Need_fewest_56 : decode m_Need_fewest.2.1 56 = .ok (.ireturn, 1) := by decide +kernel
theorem d_Need_fewest_57 : decode m_Need_fewest.2.1 57 = .ok (.iinc 1 1, 3) := by decide +kernel
theorem d_Need_fewest_60 : decode m_Need_fewest.2.1 60 = .ok (.goto (-42), 3) := by decide +kernel
theorem d_Need_fewest_63 : decode m_Need_fewest.2.1 63 = .ok (.bipush (-9), 2) := by decide +kernel
theorem d_Need_fewest_65 : decode m_Need_fewest.2.1 65 = .ok (.ireturn, 1) := by decide +kernel
theorem d_Need_exchange_0 : decode m_Need_exchange.2.1 0 = .ok (.aload_n 0, 1) := by decide +kernel
theorem d_Need_exchange_1 : decode m_Need_exchange.2.1 1 = .ok (.getfield 28, 3) := by decide +kernel
theorem d_Need_exchange_4 : decode m_Need_exchange.2.1 4 = .ok (.getfield 101, 3) := by decide +kernel
theorem d_Need_exchange_7 : decode m_Need_exchange.2.1 7 = .ok (.iload_n 1, 1) := by decide +kernel
theorem d_Need_exchange_8 : decode m_Need_exchange.2.1 8 = .ok (.invokevirtual 121, 3) := by decide +kernel
theorem d_Need_exchange_11 : decode m_Need_exchange.2.1 11 = .ok (.ifCond .ne 5, 3) := by decide +kernel
theorem d_Need_exchange_14 : decode m_Need_exchange.2.1 14 = .ok (.iconst (-1), 1) := by decide +kernel
theorem d_Need_exchange_15 : decode m_Need_exchange.2.1 15 = .ok (.ireturn, 1) := by decide +kernel
theorem d_Need_exchange_16 : decode m_Need_exchange.2.1 16 = .ok (.aload_n 0, 1) := by decide +kernel
theorem d_Need_exchange_17 : decode m_Need_exchange.2.1 17 = .ok (.getfield 28, 3) := by decide +kernel
theorem d_Need_exchange_20 : decode m_Need_exchange.2.1 20 = .ok (.getfield 101, 3) := by decide +kernel
theorem d_Need_exchange_23 : decode m_Need_exchange.2.1 23 = .ok (.iload_n 1, 1) := by decide +kernel
theorem d_Need_exchange_24 : decode m_Need_exchange.2.1 24 = .ok (.invokevirtual 205, 3) := by decide +kernel
theorem d_Need_exchange_27 : decode m_Need_exchange.2.1 27 = .ok (.ifCond .ne 6, 3) := by decide +kernel
theorem d_Need_exchange_30 : decode m_Need_exchange.2.1 30 = .ok (.bipush (-2), 2) := by decide +kernel
theorem d_Need_exchange_32 : decode m_Need_exchange.2.1 32 = .ok (.ireturn, 1) := by decide +kernel
theorem d_Need_exchange_33 : decode m_Need_exchange.2.1 33 = .ok (.aload_n 0, 1) := by decide +kernel
theorem d_Need_exchange_34 : decode m_Need_exchange.2.1 34 = .ok (.getfield 48, 3) := by decide +kernel
theorem d_Need_exchange_37 : decode m_Need_exchange.2.1 37 = .ok (.iload_n 1, 1) := by decide +kernel
theorem d_Need_exchange_38 : decode m_Need_exchange.2.1 38 = .ok (.invokevirtual 208, 3) := by decide +kernel
theorem d_Need_exchange_41 : decode m_Need_exchange.2.1 41 = .ok (.aload_n 0, 1) := by decide +kernel
theorem d_Need_exchange_42 : decode m_Need_exchange.2.1 42 = .ok (.getfield 28, 3) := by decide +kernel
theorem d_Need_exchange_45 : decode m_Need_exchange.2.1 45 = .ok (.getfield 101, 3) := by decide +kernel
theorem d_Need_exchange_48 : decode m_Need_exchange.2.1 48 = .ok (.iload_n 1, 1) := by decide +kernel
theorem d_Need_exchange_49 : decode m_Need_exchange.2.1 49 = .ok (.aload_n 0, 1) := by decide +kernel
theorem d_Need_exchange_50 : decode m_Need_exchange.2.1 50 = .ok (.getfield 41, 3) := by decide +kernel
theorem d_Need_exchange_53 : decode m_Need_exchange.2.1 53 = .ok (.invokevirtual 211, 3) := by decide +kernel
theorem d_Need_exchange_56 : decode m_Need_exchange.2.1 56 = .ok (.aload_n 0, 1) := by decide +kernel
theorem d_Need_exchange_57 : decode m_Need_exchange.2.1 57 = .ok (.invokevirtual 115, 3) := by decide +kernel
theorem d_Need_exchange_60 : decode m_Need_exchange.2.1 60 = .ok (.aload_n 0, 1) := by decide +kernel
theorem d_Need_exchange_61 : decode m_Need_exchange.2.1 61 = .ok (.invokevirtual 215, 3) := by decide +kernel
theorem d_Need_exchange_64 : decode m_Need_exchange.2.1 64 = .ok (.ireturn, 1) := by decide +kernel
theorem d_Need_rootCost_0 : decode m_Need_rootCost.2.1 0 = .ok (.aload_n 0, 1) := by decide +kernel
theorem d_Need_rootCost_1 : decode m_Need_rootCost.2.1 1 = .ok (.getfield 55, 3) := by decide +kernel
theorem d_Need_rootCost_4 : decode m_Need_rootCost.2.1 4 = .ok (.aload_n 0, 1) := by decide +kernel
theorem d_Need_rootCost_5 : decode m_Need_rootCost.2.1 5 = .ok (.getfield 28, 3) := by decide +kernel
theorem d_Need_rootCost_8 : decode m_Need_rootCost.2.1 8 = .ok (.getfield 101, 3) := by decide +kernel
theorem d_Need_rootCost_11 : decode m_Need_rootCost.2.1 11 = .ok (.invokevirtual 181, 3) := by decide +kernel
theorem d_Need_rootCost_14 : decode m_Need_rootCost.2.1 14 = .ok (.aload_n 0, 1) := by decide +kernel
theorem d_Need_rootCost_15 : decode m_Need_rootCost.2.1 15 = .ok (.invokevirtual 195, 3) := by decide +kernel
