theorem d_Row_init_0 : decode m_Row_init.2.1 0 = .ok (.aload_n 0, 1) := by decide +kernel
theorem d_Row_init_1 : decode m_Row_init.2.1 1 = .ok (.invokespecial 1, 3) := by decide +kernel
theorem d_Row_init_4 : decode m_Row_init.2.1 4 = .ok (.aload_n 0, 1) := by decide +kernel
theorem d_Row_init_5 : decode m_Row_init.2.1 5 = .ok (.iconst 0, 1) := by decide +kernel
theorem d_Row_init_6 : decode m_Row_init.2.1 6 = .ok (.iload_n 1, 1) := by decide +kernel
theorem d_Row_init_7 : decode m_Row_init.2.1 7 = .ok (.invokestatic 7, 3) := by decide +kernel
theorem d_Row_init_10 : decode m_Row_init.2.1 10 = .ok (.newarray .int, 2) := by decide +kernel
theorem d_Row_init_12 : decode m_Row_init.2.1 12 = .ok (.putfield 13, 3) := by decide +kernel
theorem d_Row_init_15 : decode m_Row_init.2.1 15 = .ok (.return_, 1) := by decide +kernel
theorem d_Row_put_0 : decode m_Row_put.2.1 0 = .ok (.iload_n 1, 1) := by decide +kernel
theorem d_Row_put_1 : decode m_Row_put.2.1 1 = .ok (.ifCond .lt 19, 3) := by decide +kernel
theorem d_Row_put_4 : decode m_Row_put.2.1 4 = .ok (.iload_n 1, 1) := by decide +kernel
theorem d_Row_put_5 : decode m_Row_put.2.1 5 = .ok (.aload_n 0, 1) := by decide +kernel
theorem d_Row_put_6 : decode m_Row_put.2.1 6 = .ok (.getfield 13, 3) := by decide +kernel
theorem d_Row_put_9 : decode m_Row_put.2.1 9 = .ok (.arraylength, 1) := by decide +kernel
theorem d_Row_put_10 : decode m_Row_put.2.1 10 = .ok (.if_icmp .ge 10, 3) := by decide +kernel
theorem d_Row_put_13 : decode m_Row_put.2.1 13 = .ok (.aload_n 0, 1) := by decide +kernel
theorem d_Row_put_14 : decode m_Row_put.2.1 14 = .ok (.getfield 13, 3) := by decide +kernel
theorem d_Row_put_17 : decode m_Row_put.2.1 17 = .ok (.iload_n 1, 1) := by decide +kernel
theorem d_Row_put_18 : decode m_Row_put.2.1 18 = .ok (.iload_n 2, 1) := by decide +kernel
theorem d_Row_put_19 : decode m_Row_put.2.1 19 = .ok (.iastore, 1) := by decide +kernel
theorem d_Row_put_20 : decode m_Row_put.2.1 20 = .ok (.return_, 1) := by decide +kernel
theorem d_Row_get_0 : decode m_Row_get.2.1 0 = .ok (.iload_n 1, 1) := by decide +kernel
theorem d_Row_get_1 : decode m_Row_get.2.1 1 = .ok (.ifCond .lt 21, 3) := by decide +kernel
theorem d_Row_get_4 : decode m_Row_get.2.1 4 = .ok (.iload_n 1, 1) := by decide +kernel
theorem d_Row_get_5 : decode m_Row_get.2.1 5 = .ok (.aload_n 0, 1) := by decide +kernel
theorem d_Row_get_6 : decode m_Row_get.2.1 6 = .ok (.getfield 13, 3) := by decide +kernel
theorem d_Row_get_9 : decode m_Row_get.2.1 9 = .ok (.arraylength, 1) := by decide +kernel
theorem d_Row_get_10 : decode m_Row_get.2.1 10 = .ok (.if_icmp .ge 12, 3) := by decide +kernel
theorem d_Row_get_13 : decode m_Row_get.2.1 13 = .ok (.aload_n 0, 1) := by decide +kernel
theorem d_Row_get_14 : decode m_Row_get.2.1 14 = .ok (.getfield 13, 3) := by decide +kernel
theorem d_Row_get_17 : decode m_Row_get.2.1 17 = .ok (.iload_n 1, 1) := by decide +kernel
theorem d_Row_get_18 : decode m_Row_get.2.1 18 = .ok (.iaload, 1) := by decide +kernel
theorem d_Row_get_19 : decode m_Row_get.2.1 19 = .ok (.goto 4, 3) := by decide +kernel
theorem d_Row_get_22 : decode m_Row_get.2.1 22 = .ok (.iconst 0, 1) := by decide +kernel
theorem d_Row_get_23 : decode m_Row_get.2.1 23 = .ok (.ireturn, 1) := by decide +kernel
theorem d_Row_copy_0 : decode m_Row_copy.2.1 0 = .ok (.aload_n 1, 1) := by decide +kernel
theorem d_Row_copy_1 : decode m_Row_copy.2.1 1 = .ok (.getfield 13, 3) := by decide +kernel
theorem d_Row_copy_4 : decode m_Row_copy.2.1 4 = .ok (.iconst 0, 1) := by decide +kernel
theorem d_Row_copy_5 : decode m_Row_copy.2.1 5 = .ok (.aload_n 0, 1) := by decide +kernel
theorem d_Row_copy_6 : decode m_Row_copy.2.1 6 = .ok (.getfield 13, 3) := by decide +kernel
theorem d_Row_copy_9 : decode m_Row_copy.2.1 9 = .ok (.iconst 0, 1) := by decide +kernel
theorem d_Row_copy_10 : decode m_Row_copy.2.1 10 = .ok (.aload_n 0, 1) := by decide +kernel
theorem d_Row_copy_11 : decode m_Row_copy.2.1 11 = .ok (.getfield 13, 3) := by decide +kernel
theorem d_Row_copy_14 : decode m_Row_copy.2.1 14 = .ok (.arraylength, 1) := by decide +kernel
theorem d_Row_copy_15 : decode m_Row_copy.2.1 15 = .ok (.aload_n 1, 1) := by decide +kernel
theorem d_Row_copy_16 : decode m_Row_copy.2.1 16 = .ok (.getfield 13, 3) := by decide +kernel
theorem d_Row_copy_19 : decode m_Row_copy.2.1 19 = .ok (.arraylength, 1) := by decide +kernel
theorem d_Row_copy_20 : decode m_Row_copy.2.1 20 = .ok (.invokestatic 19, 3) := by decide +kernel
theorem d_Row_copy_23 : decode m_Row_copy.2.1 23 = .ok (.invokestatic 22, 3) := by decide +kernel
theorem d_Row_copy_26 : decode m_Row_copy.2.1 26 = .ok (.return_, 1) := by decide +kernel
theorem d_Row_empty_0 : decode m_Row_empty.2.1 0 = .ok (.iconst 0, 1) := by decide +kernel
theorem d_Row_empty_1 : decode m_Row_empty.2.1 1 = .ok (.istore_n 1, 1) := by decide +kernel
theorem d_Row_empty_2 : decode m_Row_empty.2.1 2 = .ok (.iload_n 1, 1) := by decide +kernel
theorem d_Row_empty_3 : decode m_Row_empty.2.1 3 = .ok (.aload_n 0, 1) := by decide +kernel
theorem d_Row_empty_4 : decode m_Row_empty.2.1 4 = .ok (.getfield 13, 3) := by decide +kernel
theorem d_Row_empty_7 : decode m_Row_empty.2.1 7 = .ok (.arraylength, 1) := by decide +kernel
theorem d_Row_empty_8 : decode m_Row_empty.2.1 8 = .ok (.if_icmp .ge 16, 3) := by decide +kernel
theorem d_Row_empty_11 : decode m_Row_empty.2.1 11 = .ok (.aload_n 0, 1) := by decide +kernel
theorem d_Row_empty_12 : decode m_Row_empty.2.1 12 = .ok (.getfield 13, 3) := by decide +kernel
theorem d_Row_empty_15 : decode m_Row_empty.2.1 15 = .ok (.iload_n 1, 1) := by decide +kernel
theorem d_Row_empty_16 : decode m_Row_empty.2.1 16 = .ok (.iconst 0, 1) := by decide +kernel
theorem d_Row_empty_17 : decode m_Row_empty.2.1 17 = .ok (.iastore, 1) := by decide +kernel
theorem d_Row_empty_18 : decode m_Row_empty.2.1 18 = .ok (.iinc 1 1, 3) := by decide +kernel
theorem d_Row_empty_21 : decode m_Row_empty.2.1 21 = .ok (.goto (-19), 3) := by decide +kernel
theorem d_Row_empty_24 : decode m_Row_empty.2.1 24 = .ok (.return_, 1) := by decide +kernel
theorem d_Ops_isOfSum_0 : decode m_Ops_isOfSum.2.1 0 = .ok (.iload_n 0, 1) := by decide +kernel
theorem d_Ops_isOfSum_1 : decode m_Ops_isOfSum.2.1 1 = .ok (.bipush 43, 2) := by decide +kernel
theorem d_Ops_isOfSum_3 : decode m_Ops_isOfSum.2.1 3 = .ok (.if_icmp .eq 15, 3) := by decide +kernel
theorem d_Ops_isOfSum_6 : decode m_Ops_isOfSum.2.1 6 = .ok (.iload_n 0, 1) := by decide +kernel
theorem d_Ops_isOfSum_7 : decode m_Ops_isOfSum.2.1 7 = .ok (.bipush 45, 2) := by decide +kernel
theorem d_Ops_isOfSum_9 : decode m_Ops_isOfSum.2.1 9 = .ok (.if_icmp .eq 9, 3) := by decide +kernel
theorem d_Ops_isOfSum_12 : decode m_Ops_isOfSum.2.1 12 = .ok (.iload_n 0, 1) := by decide +kernel
theorem d_Ops_isOfSum_13 : decode m_Ops_isOfSum.2.1 13 = .ok (.bipush 35, 2) := by decide +kernel
theorem d_Ops_isOfSum_15 : decode m_Ops_isOfSum.2.1 15 = .ok (.if_icmp .ne 7, 3) := by decide +kernel
theorem d_Ops_isOfSum_18 : decode m_Ops_isOfSum.2.1 18 = .ok (.iconst 1, 1) := by decide +kernel
theorem d_Ops_isOfSum_19 : decode m_Ops_isOfSum.2.1 19 = .ok (.goto 4, 3) := by decide +kernel
theorem d_Ops_isOfSum_22 : decode m_Ops_isOfSum.2.1 22 = .ok (.iconst 0, 1) := by decide +kernel
theorem d_Ops_isOfSum_23 : decode m_Ops_isOfSum.2.1 23 = .ok (.ireturn, 1) := by decide +kernel
theorem d_Ops_isOfProduct_0 : decode m_Ops_isOfProduct.2.1 0 = .ok (.iload_n 0, 1) := by decide +kernel
theorem d_Ops_isOfProduct_1 : decode m_Ops_isOfProduct.2.1 1 = .ok (.bipush 42, 2) := by decide +kernel
theorem d_Ops_isOfProduct_3 : decode m_Ops_isOfProduct.2.1 3 = .ok (.if_icmp .eq 9, 3) := by decide +kernel
theorem d_Ops_isOfProduct_6 : decode m_Ops_isOfProduct.2.1 6 = .ok (.iload_n 0, 1) := by decide +kernel
theorem d_Ops_isOfProduct_7 : decode m_Ops_isOfProduct.2.1 7 = .ok (.bipush 47, 2) := by decide +kernel
theorem d_Ops_isOfProduct_9 : decode m_Ops_isOfProduct.2.1 9 = .ok (.if_icmp .ne 7, 3) := by decide +kernel
theorem d_Ops_isOfProduct_12 : decode m_Ops_isOfProduct.2.1 12 = .ok (.iconst 1, 1) := by decide +kernel
theorem d_Ops_isOfProduct_13 : decode m_Ops_isOfProduct.2.1 13 = .ok (.goto 4, 3) := by decide +kernel
theorem d_Ops_isOfProduct_16 : decode m_Ops_isOfProduct.2.1 16 = .ok (.iconst 0, 1) := by decide +kernel
theorem d_Ops_isOfProduct_17 : decode m_Ops_isOfProduct.2.1 17 = .ok (.ireturn, 1) := by decide +kernel
theorem d_Ops_grip_0 : decode m_Ops_grip.2.1 0 = .ok (.iload_n 0, 1) := by decide +kernel
theorem d_Ops_grip_1 : decode m_Ops_grip.2.1 1 = .ok (.bipush 126, 2) := by decide +kernel
theorem d_Ops_grip_3 : decode m_Ops_grip.2.1 3 = .ok (.if_icmp .ne 5, 3) := by decide +kernel
theorem d_Ops_grip_6 : decode m_Ops_grip.2.1 6 = .ok (.iconst 3, 1) := by decide +kernel
theorem d_Ops_grip_7 : decode m_Ops_grip.2.1 7 = .ok (.ireturn, 1) := by decide +kernel
theorem d_Ops_grip_8 : decode m_Ops_grip.2.1 8 = .ok (.iload_n 0, 1) := by decide +kernel
theorem d_Ops_grip_9 : decode m_Ops_grip.2.1 9 = .ok (.invokestatic 7, 3) := by decide +kernel
theorem d_Ops_grip_12 : decode m_Ops_grip.2.1 12 = .ok (.ifCond .eq 5, 3) := by decide +kernel
theorem d_Ops_grip_15 : decode m_Ops_grip.2.1 15 = .ok (.iconst 2, 1) := by decide +kernel
theorem d_Ops_grip_16 : decode m_Ops_grip.2.1 16 = .ok (.ireturn, 1) := by decide +kernel
theorem d_Ops_grip_17 : decode m_Ops_grip.2.1 17 = .ok (.iload_n 0, 1) := by decide +kernel
theorem d_Ops_grip_18 : decode m_Ops_grip.2.1 18 = .ok (.invokestatic 13, 3) := by decide +kernel
theorem d_Ops_grip_21 : decode m_Ops_grip.2.1 21 = .ok (.ifCond .eq 7, 3) := by decide +kernel
theorem d_Ops_grip_24 : decode m_Ops_grip.2.1 24 = .ok (.iconst 1, 1) := by decide +kernel
theorem d_Ops_grip_25 : decode m_Ops_grip.2.1 25 = .ok (.goto 4, 3) := by decide +kernel
theorem d_Ops_grip_28 : decode m_Ops_grip.2.1 28 = .ok (.iconst 0, 1) := by decide +kernel
theorem d_Ops_grip_29 : decode m_Ops_grip.2.1 29 = .ok (.ireturn, 1) := by decide +kernel
theorem d_Ops_isCommuting_0 : decode m_Ops_isCommuting.2.1 0 = .ok (.iload_n 0, 1) := by decide +kernel
theorem d_Ops_isCommuting_1 : decode m_Ops_isCommuting.2.1 1 = .ok (.bipush 43, 2) := by decide +kernel
theorem d_Ops_isCommuting_3 : decode m_Ops_isCommuting.2.1 3 = .ok (.if_icmp .eq 15, 3) := by decide +kernel
theorem d_Ops_isCommuting_6 : decode m_Ops_isCommuting.2.1 6 = .ok (.iload_n 0, 1) := by decide +kernel
theorem d_Ops_isCommuting_7 : decode m_Ops_isCommuting.2.1 7 = .ok (.bipush 42, 2) := by decide +kernel
theorem d_Ops_isCommuting_9 : decode m_Ops_isCommuting.2.1 9 = .ok (.if_icmp .eq 9, 3) := by decide +kernel
theorem d_Ops_isCommuting_12 : decode m_Ops_isCommuting.2.1 12 = .ok (.iload_n 0, 1) := by decide +kernel
theorem d_Ops_isCommuting_13 : decode m_Ops_isCommuting.2.1 13 = .ok (.bipush 35, 2) := by decide +kernel
theorem d_Ops_isCommuting_15 : decode m_Ops_isCommuting.2.1 15 = .ok (.if_icmp .ne 7, 3) := by decide +kernel
theorem d_Ops_isCommuting_18 : decode m_Ops_isCommuting.2.1 18 = .ok (.iconst 1, 1) := by decide +kernel
theorem d_Ops_isCommuting_19 : decode m_Ops_isCommuting.2.1 19 = .ok (.goto 4, 3) := by decide +kernel
theorem d_Ops_isCommuting_22 : decode m_Ops_isCommuting.2.1 22 = .ok (.iconst 0, 1) := by decide +kernel
theorem d_Ops_isCommuting_23 : decode m_Ops_isCommuting.2.1 23 = .ok (.ireturn, 1) := by decide +kernel
theorem d_Ops_canTrap_0 : decode m_Ops_canTrap.2.1 0 = .ok (.iload_n 0, 1) := by decide +kernel
theorem d_Ops_canTrap_1 : decode m_Ops_canTrap.2.1 1 = .ok (.bipush 47, 2) := by decide +kernel
theorem d_Ops_canTrap_3 : decode m_Ops_canTrap.2.1 3 = .ok (.if_icmp .eq 9, 3) := by decide +kernel
theorem d_Ops_canTrap_6 : decode m_Ops_canTrap.2.1 6 = .ok (.iload_n 0, 1) := by decide +kernel
theorem d_Ops_canTrap_7 : decode m_Ops_canTrap.2.1 7 = .ok (.bipush 35, 2) := by decide +kernel
theorem d_Ops_canTrap_9 : decode m_Ops_canTrap.2.1 9 = .ok (.if_icmp .ne 7, 3) := by decide +kernel
theorem d_Ops_canTrap_12 : decode m_Ops_canTrap.2.1 12 = .ok (.iconst 1, 1) := by decide +kernel
theorem d_Ops_canTrap_13 : decode m_Ops_canTrap.2.1 13 = .ok (.goto 4, 3) := by decide +kernel
theorem d_Ops_canTrap_16 : decode m_Ops_canTrap.2.1 16 = .ok (.iconst 0, 1) := by decide +kernel
theorem d_Ops_canTrap_17 : decode m_Ops_canTrap.2.1 17 = .ok (.ireturn, 1) := by decide +kernel
theorem d_Ops_trapsBy_0 : decode m_Ops_trapsBy.2.1 0 = .ok (.iload_n 0, 1) := by decide +kernel
theorem d_Ops_trapsBy_1 : decode m_Ops_trapsBy.2.1 1 = .ok (.bipush 47, 2) := by decide +kernel
theorem d_Ops_trapsBy_3 : decode m_Ops_trapsBy.2.1 3 = .ok (.if_icmp .ne 13, 3) := by decide +kernel
theorem d_Ops_trapsBy_6 : decode m_Ops_trapsBy.2.1 6 = .ok (.iload_n 2, 1) := by decide +kernel
theorem d_Ops_trapsBy_7 : decode m_Ops_trapsBy.2.1 7 = .ok (.ifCond .ne 7, 3) := by decide +kernel
theorem d_Ops_trapsBy_10 : decode m_Ops_trapsBy.2.1 10 = .ok (.iconst 1, 1) := by decide +kernel
theorem d_Ops_trapsBy_11 : decode m_Ops_trapsBy.2.1 11 = .ok (.goto 4, 3) := by decide +kernel
theorem d_Ops_trapsBy_14 : decode m_Ops_trapsBy.2.1 14 = .ok (.iconst 0, 1) := by decide +kernel
theorem d_Ops_trapsBy_15 : decode m_Ops_trapsBy.2.1 15 = .ok (.ireturn, 1) := by decide +kernel
theorem d_Ops_trapsBy_16 : decode m_Ops_trapsBy.2.1 16 = .ok (.iload_n 0, 1) := by decide +kernel
theorem d_Ops_trapsBy_17 : decode m_Ops_trapsBy.2.1 17 = .ok (.bipush 35, 2) := by decide +kernel
theorem d_Ops_trapsBy_19 : decode m_Ops_trapsBy.2.1 19 = .ok (.if_icmp .ne 20, 3) := by decide +kernel
theorem d_Ops_trapsBy_22 : decode m_Ops_trapsBy.2.1 22 = .ok (.iload_n 1, 1) := by decide +kernel
theorem d_Ops_trapsBy_23 : decode m_Ops_trapsBy.2.1 23 = .ok (.i2l, 1) := by decide +kernel
theorem d_Ops_trapsBy_24 : decode m_Ops_trapsBy.2.1 24 = .ok (.iload_n 2, 1) := by decide +kernel
theorem d_Ops_trapsBy_25 : decode m_Ops_trapsBy.2.1 25 = .ok (.i2l, 1) := by decide +kernel
theorem d_Ops_trapsBy_26 : decode m_Ops_trapsBy.2.1 26 = .ok (.ladd, 1) := by decide +kernel
theorem d_Ops_trapsBy_27 : decode m_Ops_trapsBy.2.1 27 = .ok (.iload_n 1, 1) := by decide +kernel
theorem d_Ops_trapsBy_28 : decode m_Ops_trapsBy.2.1 28 = .ok (.iload_n 2, 1) := by decide +kernel
theorem d_Ops_trapsBy_29 : decode m_Ops_trapsBy.2.1 29 = .ok (.iadd, 1) := by decide +kernel
theorem d_Ops_trapsBy_30 : decode m_Ops_trapsBy.2.1 30 = .ok (.i2l, 1) := by decide +kernel
theorem d_Ops_trapsBy_31 : decode m_Ops_trapsBy.2.1 31 = .ok (.lcmp, 1) := by decide +kernel
theorem d_Ops_trapsBy_32 : decode m_Ops_trapsBy.2.1 32 = .ok (.ifCond .eq 7, 3) := by decide +kernel
theorem d_Ops_trapsBy_35 : decode m_Ops_trapsBy.2.1 35 = .ok (.iconst 1, 1) := by decide +kernel
theorem d_Ops_trapsBy_36 : decode m_Ops_trapsBy.2.1 36 = .ok (.goto 4, 3) := by decide +kernel
theorem d_Ops_trapsBy_39 : decode m_Ops_trapsBy.2.1 39 = .ok (.iconst 0, 1) := by decide +kernel
theorem d_Ops_trapsBy_40 : decode m_Ops_trapsBy.2.1 40 = .ok (.ireturn, 1) := by decide +kernel
theorem d_Ops_outcome_0 : decode m_Ops_outcome.2.1 0 = .ok (.iload_n 0, 1) := by decide +kernel
theorem d_Ops_outcome_1 : decode m_Ops_outcome.2.1 1 = .ok (.lookupswitch 66 #[(42, 50), (45, 46), (47, 54), (126, 43)], 43) := by decide +kernel
theorem d_Ops_outcome_44 : decode m_Ops_outcome.2.1 44 = .ok (.iload_n 1, 1) := by decide +kernel
theorem d_Ops_outcome_45 : decode m_Ops_outcome.2.1 45 = .ok (.ineg, 1) := by decide +kernel
theorem d_Ops_outcome_46 : decode m_Ops_outcome.2.1 46 = .ok (.ireturn, 1) := by decide +kernel
theorem d_Ops_outcome_47 : decode m_Ops_outcome.2.1 47 = .ok (.iload_n 1, 1) := by decide +kernel
theorem d_Ops_outcome_48 : decode m_Ops_outcome.2.1 48 = .ok (.iload_n 2, 1) := by decide +kernel
theorem d_Ops_outcome_49 : decode m_Ops_outcome.2.1 49 = .ok (.isub, 1) := by decide +kernel
theorem d_Ops_outcome_50 : decode m_Ops_outcome.2.1 50 = .ok (.ireturn, 1) := by decide +kernel
theorem d_Ops_outcome_51 : decode m_Ops_outcome.2.1 51 = .ok (.iload_n 1, 1) := by decide +kernel
theorem d_Ops_outcome_52 : decode m_Ops_outcome.2.1 52 = .ok (.iload_n 2, 1) := by decide +kernel
theorem d_Ops_outcome_53 : decode m_Ops_outcome.2.1 53 = .ok (.imul, 1) := by decide +kernel
theorem d_Ops_outcome_54 : decode m_Ops_outcome.2.1 54 = .ok (.ireturn, 1) := by decide +kernel
theorem d_Ops_outcome_55 : decode m_Ops_outcome.2.1 55 = .ok (.iload_n 2, 1) := by decide +kernel
theorem d_Ops_outcome_56 : decode m_Ops_outcome.2.1 56 = .ok (.ifCond .ne 7, 3) := by decide +kernel
theorem d_Ops_outcome_59 : decode m_Ops_outcome.2.1 59 = .ok (.iconst 0, 1) := by decide +kernel
theorem d_Ops_outcome_60 : decode m_Ops_outcome.2.1 60 = .ok (.goto 6, 3) := by decide +kernel
theorem d_Ops_outcome_63 : decode m_Ops_outcome.2.1 63 = .ok (.iload_n 1, 1) := by decide +kernel
theorem d_Ops_outcome_64 : decode m_Ops_outcome.2.1 64 = .ok (.iload_n 2, 1) := by decide +kernel
theorem d_Ops_outcome_65 : decode m_Ops_outcome.2.1 65 = .ok (.idiv, 1) := by decide +kernel
theorem d_Ops_outcome_66 : decode m_Ops_outcome.2.1 66 = .ok (.ireturn, 1) := by decide +kernel
theorem d_Ops_outcome_67 : decode m_Ops_outcome.2.1 67 = .ok (.iload_n 1, 1) := by decide +kernel
theorem d_Ops_outcome_68 : decode m_Ops_outcome.2.1 68 = .ok (.iload_n 2, 1) := by decide +kernel
theorem d_Ops_outcome_69 : decode m_Ops_outcome.2.1 69 = .ok (.iadd, 1) := by decide +kernel
theorem d_Ops_outcome_70 : decode m_Ops_outcome.2.1 70 = .ok (.ireturn, 1) := by decide +kernel
theorem d_Tree_init_0 : decode m_Tree_init.2.1 0 = .ok (.aload_n 0, 1) := by decide +kernel
theorem d_Tree_init_1 : decode m_Tree_init.2.1 1 = .ok (.invokespecial 3, 3) := by decide +kernel
theorem d_Tree_init_4 : decode m_Tree_init.2.1 4 = .ok (.aload_n 0, 1) := by decide +kernel
theorem d_Tree_init_5 : decode m_Tree_init.2.1 5 = .ok (.new 9, 3) := by decide +kernel
theorem d_Tree_init_8 : decode m_Tree_init.2.1 8 = .ok (.dup, 1) := by decide +kernel
theorem d_Tree_init_9 : decode m_Tree_init.2.1 9 = .ok (.bipush 31, 2) := by decide +kernel
theorem d_Tree_init_11 : decode m_Tree_init.2.1 11 = .ok (.invokespecial 11, 3) := by decide +kernel
theorem d_Tree_init_14 : decode m_Tree_init.2.1 14 = .ok (.putfield 14, 3) := by decide +kernel
theorem d_Tree_init_17 : decode m_Tree_init.2.1 17 = .ok (.aload_n 0, 1) := by decide +kernel
theorem d_Tree_init_18 : decode m_Tree_init.2.1 18 = .ok (.new 9, 3) := by decide +kernel
theorem d_Tree_init_21 : decode m_Tree_init.2.1 21 = .ok (.dup, 1) := by decide +kernel
theorem d_Tree_init_22 : decode m_Tree_init.2.1 22 = .ok (.bipush 31, 2) := by decide +kernel
theorem d_Tree_init_24 : decode m_Tree_init.2.1 24 = .ok (.invokespecial 11, 3) := by decide +kernel
theorem d_Tree_init_27 : decode m_Tree_init.2.1 27 = .ok (.putfield 20, 3) := by decide +kernel
theorem d_Tree_init_30 : decode m_Tree_init.2.1 30 = .ok (.aload_n 0, 1) := by decide +kernel
theorem d_Tree_init_31 : decode m_Tree_init.2.1 31 = .ok (.new 9, 3) := by decide +kernel
theorem d_Tree_init_34 : decode m_Tree_init.2.1 34 = .ok (.dup, 1) := by decide +kernel
theorem d_Tree_init_35 : decode m_Tree_init.2.1 35 = .ok (.bipush 31, 2) := by decide +kernel
theorem d_Tree_init_37 : decode m_Tree_init.2.1 37 = .ok (.invokespecial 11, 3) := by decide +kernel
theorem d_Tree_init_40 : decode m_Tree_init.2.1 40 = .ok (.putfield 23, 3) := by decide +kernel
theorem d_Tree_init_43 : decode m_Tree_init.2.1 43 = .ok (.aload_n 0, 1) := by decide +kernel
theorem d_Tree_init_44 : decode m_Tree_init.2.1 44 = .ok (.new 9, 3) := by decide +kernel
theorem d_Tree_init_47 : decode m_Tree_init.2.1 47 = .ok (.dup, 1) := by decide +kernel
theorem d_Tree_init_48 : decode m_Tree_init.2.1 48 = .ok (.bipush 31, 2) := by decide +kernel
theorem d_Tree_init_50 : decode m_Tree_init.2.1 50 = .ok (.invokespecial 11, 3) := by decide +kernel
theorem d_Tree_init_53 : decode m_Tree_init.2.1 53 = .ok (.putfield 26, 3) := by decide +kernel
theorem d_Tree_init_56 : decode m_Tree_init.2.1 56 = .ok (.aload_n 0, 1) := by decide +kernel
theorem d_Tree_init_57 : decode m_Tree_init.2.1 57 = .ok (.new 9, 3) := by decide +kernel
theorem d_Tree_init_60 : decode m_Tree_init.2.1 60 = .ok (.dup, 1) := by decide +kernel
theorem d_Tree_init_61 : decode m_Tree_init.2.1 61 = .ok (.bipush 31, 2) := by decide +kernel
theorem d_Tree_init_63 : decode m_Tree_init.2.1 63 = .ok (.invokespecial 11, 3) := by decide +kernel
theorem d_Tree_init_66 : decode m_Tree_init.2.1 66 = .ok (.putfield 29, 3) := by decide +kernel
theorem d_Tree_init_69 : decode m_Tree_init.2.1 69 = .ok (.aload_n 0, 1) := by decide +kernel
theorem d_Tree_init_70 : decode m_Tree_init.2.1 70 = .ok (.new 9, 3) := by decide +kernel
theorem d_Tree_init_73 : decode m_Tree_init.2.1 73 = .ok (.dup, 1) := by decide +kernel
theorem d_Tree_init_74 : decode m_Tree_init.2.1 74 = .ok (.bipush 31, 2) := by decide +kernel
theorem d_Tree_init_76 : decode m_Tree_init.2.1 76 = .ok (.invokespecial 11, 3) := by decide +kernel
theorem d_Tree_init_79 : decode m_Tree_init.2.1 79 = .ok (.putfield 32, 3) := by decide +kernel
theorem d_Tree_init_82 : decode m_Tree_init.2.1 82 = .ok (.aload_n 0, 1) := by decide +kernel
theorem d_Tree_init_83 : decode m_Tree_init.2.1 83 = .ok (.new 9, 3) := by decide +kernel
theorem d_Tree_init_86 : decode m_Tree_init.2.1 86 = .ok (.dup, 1) := by decide +kernel
theorem d_Tree_init_87 : decode m_Tree_init.2.1 87 = .ok (.bipush 31, 2) := by decide +kernel
theorem d_Tree_init_89 : decode m_Tree_init.2.1 89 = .ok (.invokespecial 11, 3) := by decide +kernel
theorem d_Tree_init_92 : decode m_Tree_init.2.1 92 = .ok (.putfield 35, 3) := by decide +kernel
theorem d_Tree_init_95 : decode m_Tree_init.2.1 95 = .ok (.aload_n 0, 1) := by decide +kernel
theorem d_Tree_init_96 : decode m_Tree_init.2.1 96 = .ok (.new 9, 3) := by decide +kernel
theorem d_Tree_init_99 : decode m_Tree_init.2.1 99 = .ok (.dup, 1) := by decide +kernel
theorem d_Tree_init_100 : decode m_Tree_init.2.1 100 = .ok (.bipush 31, 2) := by decide +kernel
theorem d_Tree_init_102 : decode m_Tree_init.2.1 102 = .ok (.invokespecial 11, 3) := by decide +kernel
theorem d_Tree_init_105 : decode m_Tree_init.2.1 105 = .ok (.putfield 38, 3) := by decide +kernel
theorem d_Tree_init_108 : decode m_Tree_init.2.1 108 = .ok (.aload_n 0, 1) := by decide +kernel
theorem d_Tree_init_109 : decode m_Tree_init.2.1 109 = .ok (.new 9, 3) := by decide +kernel
theorem d_Tree_init_112 : decode m_Tree_init.2.1 112 = .ok (.dup, 1) := by decide +kernel
theorem d_Tree_init_113 : decode m_Tree_init.2.1 113 = .ok (.bipush 31, 2) := by decide +kernel
theorem d_Tree_init_115 : decode m_Tree_init.2.1 115 = .ok (.invokespecial 11, 3) := by decide +kernel
theorem d_Tree_init_118 : decode m_Tree_init.2.1 118 = .ok (.putfield 41, 3) := by decide +kernel
theorem d_Tree_init_121 : decode m_Tree_init.2.1 121 = .ok (.return_, 1) := by decide +kernel
theorem d_Tree_empty_0 : decode m_Tree_empty.2.1 0 = .ok (.aload_n 0, 1) := by decide +kernel
theorem d_Tree_empty_1 : decode m_Tree_empty.2.1 1 = .ok (.iconst 0, 1) := by decide +kernel
theorem d_Tree_empty_2 : decode m_Tree_empty.2.1 2 = .ok (.putfield 44, 3) := by decide +kernel
theorem d_Tree_empty_5 : decode m_Tree_empty.2.1 5 = .ok (.return_, 1) := by decide +kernel
theorem d_Tree_isFull_0 : decode m_Tree_isFull.2.1 0 = .ok (.aload_n 0, 1) := by decide +kernel
theorem d_Tree_isFull_1 : decode m_Tree_isFull.2.1 1 = .ok (.getfield 44, 3) := by decide +kernel
theorem d_Tree_isFull_4 : decode m_Tree_isFull.2.1 4 = .ok (.bipush 31, 2) := by decide +kernel
theorem d_Tree_isFull_6 : decode m_Tree_isFull.2.1 6 = .ok (.if_icmp .lt 7, 3) := by decide +kernel
theorem d_Tree_isFull_9 : decode m_Tree_isFull.2.1 9 = .ok (.iconst 1, 1) := by decide +kernel
theorem d_Tree_isFull_10 : decode m_Tree_isFull.2.1 10 = .ok (.goto 4, 3) := by decide +kernel
theorem d_Tree_isFull_13 : decode m_Tree_isFull.2.1 13 = .ok (.iconst 0, 1) := by decide +kernel
theorem d_Tree_isFull_14 : decode m_Tree_isFull.2.1 14 = .ok (.ireturn, 1) := by decide +kernel
theorem d_Tree_add_0 : decode m_Tree_add.2.1 0 = .ok (.aload_n 0, 1) := by decide +kernel
theorem d_Tree_add_1 : decode m_Tree_add.2.1 1 = .ok (.getfield 14, 3) := by decide +kernel
theorem d_Tree_add_4 : decode m_Tree_add.2.1 4 = .ok (.aload_n 0, 1) := by decide +kernel
theorem d_Tree_add_5 : decode m_Tree_add.2.1 5 = .ok (.getfield 44, 3) := by decide +kernel
theorem d_Tree_add_8 : decode m_Tree_add.2.1 8 = .ok (.iload_n 1, 1) := by decide +kernel
theorem d_Tree_add_9 : decode m_Tree_add.2.1 9 = .ok (.invokevirtual 62, 3) := by decide +kernel
theorem d_Tree_add_12 : decode m_Tree_add.2.1 12 = .ok (.aload_n 0, 1) := by decide +kernel
theorem d_Tree_add_13 : decode m_Tree_add.2.1 13 = .ok (.getfield 20, 3) := by decide +kernel
theorem d_Tree_add_16 : decode m_Tree_add.2.1 16 = .ok (.aload_n 0, 1) := by decide +kernel
theorem d_Tree_add_17 : decode m_Tree_add.2.1 17 = .ok (.getfield 44, 3) := by decide +kernel
theorem d_Tree_add_20 : decode m_Tree_add.2.1 20 = .ok (.iload_n 2, 1) := by decide +kernel
theorem d_Tree_add_21 : decode m_Tree_add.2.1 21 = .ok (.invokevirtual 62, 3) := by decide +kernel
theorem d_Tree_add_24 : decode m_Tree_add.2.1 24 = .ok (.aload_n 0, 1) := by decide +kernel
theorem d_Tree_add_25 : decode m_Tree_add.2.1 25 = .ok (.getfield 23, 3) := by decide +kernel
theorem d_Tree_add_28 : decode m_Tree_add.2.1 28 = .ok (.aload_n 0, 1) := by decide +kernel
theorem d_Tree_add_29 : decode m_Tree_add.2.1 29 = .ok (.getfield 44, 3) := by decide +kernel
theorem d_Tree_add_32 : decode m_Tree_add.2.1 32 = .ok (.iload_n 3, 1) := by decide +kernel
theorem d_Tree_add_33 : decode m_Tree_add.2.1 33 = .ok (.invokevirtual 62, 3) := by decide +kernel
theorem d_Tree_add_36 : decode m_Tree_add.2.1 36 = .ok (.aload_n 0, 1) := by decide +kernel
theorem d_Tree_add_37 : decode m_Tree_add.2.1 37 = .ok (.getfield 26, 3) := by decide +kernel
theorem d_Tree_add_40 : decode m_Tree_add.2.1 40 = .ok (.aload_n 0, 1) := by decide +kernel
theorem d_Tree_add_41 : decode m_Tree_add.2.1 41 = .ok (.getfield 44, 3) := by decide +kernel
theorem d_Tree_add_44 : decode m_Tree_add.2.1 44 = .ok (.iload 4, 2) := by decide +kernel
theorem d_Tree_add_46 : decode m_Tree_add.2.1 46 = .ok (.invokevirtual 62, 3) := by decide +kernel
theorem d_Tree_add_49 : decode m_Tree_add.2.1 49 = .ok (.aload_n 0, 1) := by decide +kernel
theorem d_Tree_add_50 : decode m_Tree_add.2.1 50 = .ok (.dup, 1) := by decide +kernel
theorem d_Tree_add_51 : decode m_Tree_add.2.1 51 = .ok (.getfield 44, 3) := by decide +kernel
theorem d_Tree_add_54 : decode m_Tree_add.2.1 54 = .ok (.iconst 1, 1) := by decide +kernel
theorem d_Tree_add_55 : decode m_Tree_add.2.1 55 = .ok (.iadd, 1) := by decide +kernel
theorem d_Tree_add_56 : decode m_Tree_add.2.1 56 = .ok (.putfield 44, 3) := by decide +kernel
theorem d_Tree_add_59 : decode m_Tree_add.2.1 59 = .ok (.return_, 1) := by decide +kernel
theorem d_Tree_root_0 : decode m_Tree_root.2.1 0 = .ok (.aload_n 0, 1) := by decide +kernel
theorem d_Tree_root_1 : decode m_Tree_root.2.1 1 = .ok (.getfield 44, 3) := by decide +kernel
theorem d_Tree_root_4 : decode m_Tree_root.2.1 4 = .ok (.iconst 1, 1) := by decide +kernel
theorem d_Tree_root_5 : decode m_Tree_root.2.1 5 = .ok (.isub, 1) := by decide +kernel
theorem d_Tree_root_6 : decode m_Tree_root.2.1 6 = .ok (.ireturn, 1) := by decide +kernel
theorem d_Tree_derive_0 : decode m_Tree_derive.2.1 0 = .ok (.iconst 0, 1) := by decide +kernel
theorem d_Tree_derive_1 : decode m_Tree_derive.2.1 1 = .ok (.istore_n 1, 1) := by decide +kernel
theorem d_Tree_derive_2 : decode m_Tree_derive.2.1 2 = .ok (.iload_n 1, 1) := by decide +kernel
theorem d_Tree_derive_3 : decode m_Tree_derive.2.1 3 = .ok (.aload_n 0, 1) := by decide +kernel
theorem d_Tree_derive_4 : decode m_Tree_derive.2.1 4 = .ok (.getfield 44, 3) := by decide +kernel
theorem d_Tree_derive_7 : decode m_Tree_derive.2.1 7 = .ok (.if_icmp .ge 59, 3) := by decide +kernel
theorem d_Tree_derive_10 : decode m_Tree_derive.2.1 10 = .ok (.aload_n 0, 1) := by decide +kernel
theorem d_Tree_derive_11 : decode m_Tree_derive.2.1 11 = .ok (.iload_n 1, 1) := by decide +kernel
theorem d_Tree_derive_12 : decode m_Tree_derive.2.1 12 = .ok (.invokevirtual 70, 3) := by decide +kernel
theorem d_Tree_derive_15 : decode m_Tree_derive.2.1 15 = .ok (.ifCond .eq 11, 3) := by decide +kernel
theorem d_Tree_derive_18 : decode m_Tree_derive.2.1 18 = .ok (.aload_n 0, 1) := by decide +kernel
theorem d_Tree_derive_19 : decode m_Tree_derive.2.1 19 = .ok (.iload_n 1, 1) := by decide +kernel
theorem d_Tree_derive_20 : decode m_Tree_derive.2.1 20 = .ok (.invokevirtual 73, 3) := by decide +kernel
theorem d_Tree_derive_23 : decode m_Tree_derive.2.1 23 = .ok (.goto 24, 3) := by decide +kernel
theorem d_Tree_derive_26 : decode m_Tree_derive.2.1 26 = .ok (.aload_n 0, 1) := by decide +kernel
theorem d_Tree_derive_27 : decode m_Tree_derive.2.1 27 = .ok (.iload_n 1, 1) := by decide +kernel
theorem d_Tree_derive_28 : decode m_Tree_derive.2.1 28 = .ok (.invokevirtual 76, 3) := by decide +kernel
theorem d_Tree_derive_31 : decode m_Tree_derive.2.1 31 = .ok (.ifCond .eq 11, 3) := by decide +kernel
theorem d_Tree_derive_34 : decode m_Tree_derive.2.1 34 = .ok (.aload_n 0, 1) := by decide +kernel
theorem d_Tree_derive_35 : decode m_Tree_derive.2.1 35 = .ok (.iload_n 1, 1) := by decide +kernel
theorem d_Tree_derive_36 : decode m_Tree_derive.2.1 36 = .ok (.invokevirtual 79, 3) := by decide +kernel
theorem d_Tree_derive_39 : decode m_Tree_derive.2.1 39 = .ok (.goto 8, 3) := by decide +kernel
theorem d_Tree_derive_42 : decode m_Tree_derive.2.1 42 = .ok (.aload_n 0, 1) := by decide +kernel
theorem d_Tree_derive_43 : decode m_Tree_derive.2.1 43 = .ok (.iload_n 1, 1) := by decide +kernel
theorem d_Tree_derive_44 : decode m_Tree_derive.2.1 44 = .ok (.invokevirtual 82, 3) := by decide +kernel
theorem d_Tree_derive_47 : decode m_Tree_derive.2.1 47 = .ok (.aload_n 0, 1) := by decide +kernel
theorem d_Tree_derive_48 : decode m_Tree_derive.2.1 48 = .ok (.getfield 41, 3) := by decide +kernel
theorem d_Tree_derive_51 : decode m_Tree_derive.2.1 51 = .ok (.iload_n 1, 1) := by decide +kernel
theorem d_Tree_derive_52 : decode m_Tree_derive.2.1 52 = .ok (.aload_n 0, 1) := by decide +kernel
theorem d_Tree_derive_53 : decode m_Tree_derive.2.1 53 = .ok (.iload_n 1, 1) := by decide +kernel
theorem d_Tree_derive_54 : decode m_Tree_derive.2.1 54 = .ok (.invokevirtual 85, 3) := by decide +kernel
theorem d_Tree_derive_57 : decode m_Tree_derive.2.1 57 = .ok (.invokevirtual 62, 3) := by decide +kernel
theorem d_Tree_derive_60 : decode m_Tree_derive.2.1 60 = .ok (.iinc 1 1, 3) := by decide +kernel
theorem d_Tree_derive_63 : decode m_Tree_derive.2.1 63 = .ok (.goto (-61), 3) := by decide +kernel
theorem d_Tree_derive_66 : decode m_Tree_derive.2.1 66 = .ok (.return_, 1) := by decide +kernel
theorem d_Tree_isLeaf_0 : decode m_Tree_isLeaf.2.1 0 = .ok (.aload_n 0, 1) := by decide +kernel
theorem d_Tree_isLeaf_1 : decode m_Tree_isLeaf.2.1 1 = .ok (.getfield 23, 3) := by decide +kernel
theorem d_Tree_isLeaf_4 : decode m_Tree_isLeaf.2.1 4 = .ok (.iload_n 1, 1) := by decide +kernel
theorem d_Tree_isLeaf_5 : decode m_Tree_isLeaf.2.1 5 = .ok (.invokevirtual 48, 3) := by decide +kernel
theorem d_Tree_isLeaf_8 : decode m_Tree_isLeaf.2.1 8 = .ok (.bipush (-9), 2) := by decide +kernel
theorem d_Tree_isLeaf_10 : decode m_Tree_isLeaf.2.1 10 = .ok (.if_icmp .ne 7, 3) := by decide +kernel
theorem d_Tree_isLeaf_13 : decode m_Tree_isLeaf.2.1 13 = .ok (.iconst 1, 1) := by decide +kernel
theorem d_Tree_isLeaf_14 : decode m_Tree_isLeaf.2.1 14 = .ok (.goto 4, 3) := by decide +kernel
theorem d_Tree_isLeaf_17 : decode m_Tree_isLeaf.2.1 17 = .ok (.iconst 0, 1) := by decide +kernel
theorem d_Tree_isLeaf_18 : decode m_Tree_isLeaf.2.1 18 = .ok (.ireturn, 1) := by decide +kernel
theorem d_Tree_deriveLeaf_0 : decode m_Tree_deriveLeaf.2.1 0 = .ok (.aload_n 0, 1) := by decide +kernel
theorem d_Tree_deriveLeaf_1 : decode m_Tree_deriveLeaf.2.1 1 = .ok (.getfield 29, 3) := by decide +kernel
theorem d_Tree_deriveLeaf_4 : decode m_Tree_deriveLeaf.2.1 4 = .ok (.iload_n 1, 1) := by decide +kernel
theorem d_Tree_deriveLeaf_5 : decode m_Tree_deriveLeaf.2.1 5 = .ok (.iconst 1, 1) := by decide +kernel
theorem d_Tree_deriveLeaf_6 : decode m_Tree_deriveLeaf.2.1 6 = .ok (.invokevirtual 62, 3) := by decide +kernel
theorem d_Tree_deriveLeaf_9 : decode m_Tree_deriveLeaf.2.1 9 = .ok (.aload_n 0, 1) := by decide +kernel
theorem d_Tree_deriveLeaf_10 : decode m_Tree_deriveLeaf.2.1 10 = .ok (.getfield 32, 3) := by decide +kernel
theorem d_Tree_deriveLeaf_13 : decode m_Tree_deriveLeaf.2.1 13 = .ok (.iload_n 1, 1) := by decide +kernel
theorem d_Tree_deriveLeaf_14 : decode m_Tree_deriveLeaf.2.1 14 = .ok (.iconst 1, 1) := by decide +kernel
theorem d_Tree_deriveLeaf_15 : decode m_Tree_deriveLeaf.2.1 15 = .ok (.invokevirtual 62, 3) := by decide +kernel
theorem d_Tree_deriveLeaf_18 : decode m_Tree_deriveLeaf.2.1 18 = .ok (.aload_n 0, 1) := by decide +kernel
theorem d_Tree_deriveLeaf_19 : decode m_Tree_deriveLeaf.2.1 19 = .ok (.getfield 35, 3) := by decide +kernel
theorem d_Tree_deriveLeaf_22 : decode m_Tree_deriveLeaf.2.1 22 = .ok (.iload_n 1, 1) := by decide +kernel
theorem d_Tree_deriveLeaf_23 : decode m_Tree_deriveLeaf.2.1 23 = .ok (.iconst 0, 1) := by decide +kernel
theorem d_Tree_deriveLeaf_24 : decode m_Tree_deriveLeaf.2.1 24 = .ok (.invokevirtual 62, 3) := by decide +kernel
theorem d_Tree_deriveLeaf_27 : decode m_Tree_deriveLeaf.2.1 27 = .ok (.aload_n 0, 1) := by decide +kernel
theorem d_Tree_deriveLeaf_28 : decode m_Tree_deriveLeaf.2.1 28 = .ok (.getfield 38, 3) := by decide +kernel
theorem d_Tree_deriveLeaf_31 : decode m_Tree_deriveLeaf.2.1 31 = .ok (.iload_n 1, 1) := by decide +kernel
theorem d_Tree_deriveLeaf_32 : decode m_Tree_deriveLeaf.2.1 32 = .ok (.iconst 1, 1) := by decide +kernel
theorem d_Tree_deriveLeaf_33 : decode m_Tree_deriveLeaf.2.1 33 = .ok (.invokevirtual 62, 3) := by decide +kernel
theorem d_Tree_deriveLeaf_36 : decode m_Tree_deriveLeaf.2.1 36 = .ok (.return_, 1) := by decide +kernel
theorem d_Tree_isPair_0 : decode m_Tree_isPair.2.1 0 = .ok (.aload_n 0, 1) := by decide +kernel
theorem d_Tree_isPair_1 : decode m_Tree_isPair.2.1 1 = .ok (.getfield 26, 3) := by decide +kernel
theorem d_Tree_isPair_4 : decode m_Tree_isPair.2.1 4 = .ok (.iload_n 1, 1) := by decide +kernel
theorem d_Tree_isPair_5 : decode m_Tree_isPair.2.1 5 = .ok (.invokevirtual 48, 3) := by decide +kernel
theorem d_Tree_isPair_8 : decode m_Tree_isPair.2.1 8 = .ok (.bipush (-9), 2) := by decide +kernel
theorem d_Tree_isPair_10 : decode m_Tree_isPair.2.1 10 = .ok (.if_icmp .eq 7, 3) := by decide +kernel
theorem d_Tree_isPair_13 : decode m_Tree_isPair.2.1 13 = .ok (.iconst 1, 1) := by decide +kernel
theorem d_Tree_isPair_14 : decode m_Tree_isPair.2.1 14 = .ok (.goto 4, 3) := by decide +kernel
theorem d_Tree_isPair_17 : decode m_Tree_isPair.2.1 17 = .ok (.iconst 0, 1) := by decide +kernel
theorem d_Tree_isPair_18 : decode m_Tree_isPair.2.1 18 = .ok (.ireturn, 1) := by decide +kernel
theorem d_Tree_derivePair_0 : decode m_Tree_derivePair.2.1 0 = .ok (.aload_n 0, 1) := by decide +kernel
theorem d_Tree_derivePair_1 : decode m_Tree_derivePair.2.1 1 = .ok (.getfield 23, 3) := by decide +kernel
theorem d_Tree_derivePair_4 : decode m_Tree_derivePair.2.1 4 = .ok (.iload_n 1, 1) := by decide +kernel
theorem d_Tree_derivePair_5 : decode m_Tree_derivePair.2.1 5 = .ok (.invokevirtual 48, 3) := by decide +kernel
theorem d_Tree_derivePair_8 : decode m_Tree_derivePair.2.1 8 = .ok (.istore_n 2, 1) := by decide +kernel
theorem d_Tree_derivePair_9 : decode m_Tree_derivePair.2.1 9 = .ok (.aload_n 0, 1) := by decide +kernel
theorem d_Tree_derivePair_10 : decode m_Tree_derivePair.2.1 10 = .ok (.getfield 26, 3) := by decide +kernel
theorem d_Tree_derivePair_13 : decode m_Tree_derivePair.2.1 13 = .ok (.iload_n 1, 1) := by decide +kernel
theorem d_Tree_derivePair_14 : decode m_Tree_derivePair.2.1 14 = .ok (.invokevirtual 48, 3) := by decide +kernel
theorem d_Tree_derivePair_17 : decode m_Tree_derivePair.2.1 17 = .ok (.istore_n 3, 1) := by decide +kernel
theorem d_Tree_derivePair_18 : decode m_Tree_derivePair.2.1 18 = .ok (.aload_n 0, 1) := by decide +kernel
theorem d_Tree_derivePair_19 : decode m_Tree_derivePair.2.1 19 = .ok (.iload_n 3, 1) := by decide +kernel
theorem d_Tree_derivePair_20 : decode m_Tree_derivePair.2.1 20 = .ok (.invokevirtual 70, 3) := by decide +kernel
theorem d_Tree_derivePair_23 : decode m_Tree_derivePair.2.1 23 = .ok (.ifCond .eq 21, 3) := by decide +kernel
theorem d_Tree_derivePair_26 : decode m_Tree_derivePair.2.1 26 = .ok (.aload_n 0, 1) := by decide +kernel
theorem d_Tree_derivePair_27 : decode m_Tree_derivePair.2.1 27 = .ok (.getfield 29, 3) := by decide +kernel
theorem d_Tree_derivePair_30 : decode m_Tree_derivePair.2.1 30 = .ok (.iload_n 3, 1) := by decide +kernel
theorem d_Tree_derivePair_31 : decode m_Tree_derivePair.2.1 31 = .ok (.iconst 0, 1) := by decide +kernel
theorem d_Tree_derivePair_32 : decode m_Tree_derivePair.2.1 32 = .ok (.invokevirtual 62, 3) := by decide +kernel
theorem d_Tree_derivePair_35 : decode m_Tree_derivePair.2.1 35 = .ok (.aload_n 0, 1) := by decide +kernel
theorem d_Tree_derivePair_36 : decode m_Tree_derivePair.2.1 36 = .ok (.getfield 32, 3) := by decide +kernel
theorem d_Tree_derivePair_39 : decode m_Tree_derivePair.2.1 39 = .ok (.iload_n 3, 1) := by decide +kernel
theorem d_Tree_derivePair_40 : decode m_Tree_derivePair.2.1 40 = .ok (.iconst 0, 1) := by decide +kernel
theorem d_Tree_derivePair_41 : decode m_Tree_derivePair.2.1 41 = .ok (.invokevirtual 62, 3) := by decide +kernel
theorem d_Tree_derivePair_44 : decode m_Tree_derivePair.2.1 44 = .ok (.aload_n 0, 1) := by decide +kernel
theorem d_Tree_derivePair_45 : decode m_Tree_derivePair.2.1 45 = .ok (.getfield 29, 3) := by decide +kernel
theorem d_Tree_derivePair_48 : decode m_Tree_derivePair.2.1 48 = .ok (.iload_n 1, 1) := by decide +kernel
theorem d_Tree_derivePair_49 : decode m_Tree_derivePair.2.1 49 = .ok (.aload_n 0, 1) := by decide +kernel
theorem d_Tree_derivePair_50 : decode m_Tree_derivePair.2.1 50 = .ok (.getfield 29, 3) := by decide +kernel
theorem d_Tree_derivePair_53 : decode m_Tree_derivePair.2.1 53 = .ok (.iload_n 2, 1) := by decide +kernel
theorem d_Tree_derivePair_54 : decode m_Tree_derivePair.2.1 54 = .ok (.invokevirtual 48, 3) := by decide +kernel
theorem d_Tree_derivePair_57 : decode m_Tree_derivePair.2.1 57 = .ok (.aload_n 0, 1) := by decide +kernel
theorem d_Tree_derivePair_58 : decode m_Tree_derivePair.2.1 58 = .ok (.getfield 29, 3) := by decide +kernel
theorem d_Tree_derivePair_61 : decode m_Tree_derivePair.2.1 61 = .ok (.iload_n 3, 1) := by decide +kernel
theorem d_Tree_derivePair_62 : decode m_Tree_derivePair.2.1 62 = .ok (.invokevirtual 48, 3) := by decide +kernel
theorem d_Tree_derivePair_65 : decode m_Tree_derivePair.2.1 65 = .ok (.invokestatic 88, 3) := by decide +kernel
theorem d_Tree_derivePair_68 : decode m_Tree_derivePair.2.1 68 = .ok (.invokevirtual 62, 3) := by decide +kernel
theorem d_Tree_derivePair_71 : decode m_Tree_derivePair.2.1 71 = .ok (.aload_n 0, 1) := by decide +kernel
theorem d_Tree_derivePair_72 : decode m_Tree_derivePair.2.1 72 = .ok (.getfield 32, 3) := by decide +kernel
theorem d_Tree_derivePair_75 : decode m_Tree_derivePair.2.1 75 = .ok (.iload_n 1, 1) := by decide +kernel
theorem d_Tree_derivePair_76 : decode m_Tree_derivePair.2.1 76 = .ok (.aload_n 0, 1) := by decide +kernel
theorem d_Tree_derivePair_77 : decode m_Tree_derivePair.2.1 77 = .ok (.iload_n 1, 1) := by decide +kernel
theorem d_Tree_derivePair_78 : decode m_Tree_derivePair.2.1 78 = .ok (.iload_n 2, 1) := by decide +kernel
theorem d_Tree_derivePair_79 : decode m_Tree_derivePair.2.1 79 = .ok (.iload_n 3, 1) := by decide +kernel
theorem d_Tree_derivePair_80 : decode m_Tree_derivePair.2.1 80 = .ok (.invokevirtual 92, 3) := by decide +kernel
theorem d_Tree_derivePair_83 : decode m_Tree_derivePair.2.1 83 = .ok (.invokevirtual 62, 3) := by decide +kernel
theorem d_Tree_derivePair_86 : decode m_Tree_derivePair.2.1 86 = .ok (.aload_n 0, 1) := by decide +kernel
theorem d_Tree_derivePair_87 : decode m_Tree_derivePair.2.1 87 = .ok (.getfield 14, 3) := by decide +kernel
theorem d_Tree_derivePair_90 : decode m_Tree_derivePair.2.1 90 = .ok (.iload_n 1, 1) := by decide +kernel
theorem d_Tree_derivePair_91 : decode m_Tree_derivePair.2.1 91 = .ok (.invokevirtual 48, 3) := by decide +kernel
theorem d_Tree_derivePair_94 : decode m_Tree_derivePair.2.1 94 = .ok (.invokestatic 96, 3) := by decide +kernel
theorem d_Tree_derivePair_97 : decode m_Tree_derivePair.2.1 97 = .ok (.ifCond .ne 19, 3) := by decide +kernel
theorem d_Tree_derivePair_100 : decode m_Tree_derivePair.2.1 100 = .ok (.aload_n 0, 1) := by decide +kernel
theorem d_Tree_derivePair_101 : decode m_Tree_derivePair.2.1 101 = .ok (.iload_n 2, 1) := by decide +kernel
theorem d_Tree_derivePair_102 : decode m_Tree_derivePair.2.1 102 = .ok (.invokevirtual 99, 3) := by decide +kernel
theorem d_Tree_derivePair_105 : decode m_Tree_derivePair.2.1 105 = .ok (.ifCond .ne 11, 3) := by decide +kernel
theorem d_Tree_derivePair_108 : decode m_Tree_derivePair.2.1 108 = .ok (.aload_n 0, 1) := by decide +kernel
theorem d_Tree_derivePair_109 : decode m_Tree_derivePair.2.1 109 = .ok (.iload_n 3, 1) := by decide +kernel
theorem d_Tree_derivePair_110 : decode m_Tree_derivePair.2.1 110 = .ok (.invokevirtual 99, 3) := by decide +kernel
theorem d_Tree_derivePair_113 : decode m_Tree_derivePair.2.1 113 = .ok (.ifCond .eq 7, 3) := by decide +kernel
theorem d_Tree_derivePair_116 : decode m_Tree_derivePair.2.1 116 = .ok (.iconst 1, 1) := by decide +kernel
theorem d_Tree_derivePair_117 : decode m_Tree_derivePair.2.1 117 = .ok (.goto 4, 3) := by decide +kernel
theorem d_Tree_derivePair_120 : decode m_Tree_derivePair.2.1 120 = .ok (.iconst 0, 1) := by decide +kernel
theorem d_Tree_derivePair_121 : decode m_Tree_derivePair.2.1 121 = .ok (.istore 4, 2) := by decide +kernel
theorem d_Tree_derivePair_123 : decode m_Tree_derivePair.2.1 123 = .ok (.aload_n 0, 1) := by decide +kernel
theorem d_Tree_derivePair_124 : decode m_Tree_derivePair.2.1 124 = .ok (.getfield 35, 3) := by decide +kernel
theorem d_Tree_derivePair_127 : decode m_Tree_derivePair.2.1 127 = .ok (.iload_n 1, 1) := by decide +kernel
theorem d_Tree_derivePair_128 : decode m_Tree_derivePair.2.1 128 = .ok (.iload 4, 2) := by decide +kernel
theorem d_Tree_derivePair_130 : decode m_Tree_derivePair.2.1 130 = .ok (.ifCond .eq 7, 3) := by decide +kernel
theorem d_Tree_derivePair_133 : decode m_Tree_derivePair.2.1 133 = .ok (.iconst 1, 1) := by decide +kernel
theorem d_Tree_derivePair_134 : decode m_Tree_derivePair.2.1 134 = .ok (.goto 4, 3) := by decide +kernel
theorem d_Tree_derivePair_137 : decode m_Tree_derivePair.2.1 137 = .ok (.iconst 0, 1) := by decide +kernel
theorem d_Tree_derivePair_138 : decode m_Tree_derivePair.2.1 138 = .ok (.invokevirtual 62, 3) := by decide +kernel
theorem d_Tree_derivePair_141 : decode m_Tree_derivePair.2.1 141 = .ok (.aload_n 0, 1) := by decide +kernel
theorem d_Tree_derivePair_142 : decode m_Tree_derivePair.2.1 142 = .ok (.getfield 38, 3) := by decide +kernel
theorem d_Tree_derivePair_145 : decode m_Tree_derivePair.2.1 145 = .ok (.iload_n 1, 1) := by decide +kernel
theorem d_Tree_derivePair_146 : decode m_Tree_derivePair.2.1 146 = .ok (.aload_n 0, 1) := by decide +kernel
theorem d_Tree_derivePair_147 : decode m_Tree_derivePair.2.1 147 = .ok (.getfield 38, 3) := by decide +kernel
theorem d_Tree_derivePair_150 : decode m_Tree_derivePair.2.1 150 = .ok (.iload_n 2, 1) := by decide +kernel
theorem d_Tree_derivePair_151 : decode m_Tree_derivePair.2.1 151 = .ok (.invokevirtual 48, 3) := by decide +kernel
theorem d_Tree_derivePair_154 : decode m_Tree_derivePair.2.1 154 = .ok (.aload_n 0, 1) := by decide +kernel
theorem d_Tree_derivePair_155 : decode m_Tree_derivePair.2.1 155 = .ok (.getfield 38, 3) := by decide +kernel
theorem d_Tree_derivePair_158 : decode m_Tree_derivePair.2.1 158 = .ok (.iload_n 3, 1) := by decide +kernel
theorem d_Tree_derivePair_159 : decode m_Tree_derivePair.2.1 159 = .ok (.invokevirtual 48, 3) := by decide +kernel
theorem d_Tree_derivePair_162 : decode m_Tree_derivePair.2.1 162 = .ok (.iadd, 1) := by decide +kernel
theorem d_Tree_derivePair_163 : decode m_Tree_derivePair.2.1 163 = .ok (.iconst 1, 1) := by decide +kernel
theorem d_Tree_derivePair_164 : decode m_Tree_derivePair.2.1 164 = .ok (.iadd, 1) := by decide +kernel
theorem d_Tree_derivePair_165 : decode m_Tree_derivePair.2.1 165 = .ok (.invokevirtual 62, 3) := by decide +kernel
theorem d_Tree_derivePair_168 : decode m_Tree_derivePair.2.1 168 = .ok (.return_, 1) := by decide +kernel
theorem d_Tree_joint_0 : decode m_Tree_joint.2.1 0 = .ok (.iload_n 0, 1) := by decide +kernel
theorem d_Tree_joint_1 : decode m_Tree_joint.2.1 1 = .ok (.iload_n 1, 1) := by decide +kernel
theorem d_Tree_joint_2 : decode m_Tree_joint.2.1 2 = .ok (.if_icmp .ne 9, 3) := by decide +kernel
theorem d_Tree_joint_5 : decode m_Tree_joint.2.1 5 = .ok (.iload_n 0, 1) := by decide +kernel
theorem d_Tree_joint_6 : decode m_Tree_joint.2.1 6 = .ok (.iconst 1, 1) := by decide +kernel
theorem d_Tree_joint_7 : decode m_Tree_joint.2.1 7 = .ok (.iadd, 1) := by decide +kernel
theorem d_Tree_joint_8 : decode m_Tree_joint.2.1 8 = .ok (.goto 8, 3) := by decide +kernel
theorem d_Tree_joint_11 : decode m_Tree_joint.2.1 11 = .ok (.iload_n 0, 1) := by decide +kernel
theorem d_Tree_joint_12 : decode m_Tree_joint.2.1 12 = .ok (.iload_n 1, 1) := by decide +kernel
theorem d_Tree_joint_13 : decode m_Tree_joint.2.1 13 = .ok (.invokestatic 107, 3) := by decide +kernel
theorem d_Tree_joint_16 : decode m_Tree_joint.2.1 16 = .ok (.ireturn, 1) := by decide +kernel
theorem d_Tree_leastOfPair_0 : decode m_Tree_leastOfPair.2.1 0 = .ok (.aload_n 0, 1) := by decide +kernel
theorem d_Tree_leastOfPair_1 : decode m_Tree_leastOfPair.2.1 1 = .ok (.getfield 32, 3) := by decide +kernel
theorem d_Tree_leastOfPair_4 : decode m_Tree_leastOfPair.2.1 4 = .ok (.iload_n 2, 1) := by decide +kernel
theorem d_Tree_leastOfPair_5 : decode m_Tree_leastOfPair.2.1 5 = .ok (.invokevirtual 48, 3) := by decide +kernel
theorem d_Tree_leastOfPair_8 : decode m_Tree_leastOfPair.2.1 8 = .ok (.aload_n 0, 1) := by decide +kernel
theorem d_Tree_leastOfPair_9 : decode m_Tree_leastOfPair.2.1 9 = .ok (.getfield 32, 3) := by decide +kernel
theorem d_Tree_leastOfPair_12 : decode m_Tree_leastOfPair.2.1 12 = .ok (.iload_n 3, 1) := by decide +kernel
theorem d_Tree_leastOfPair_13 : decode m_Tree_leastOfPair.2.1 13 = .ok (.invokevirtual 48, 3) := by decide +kernel
theorem d_Tree_leastOfPair_16 : decode m_Tree_leastOfPair.2.1 16 = .ok (.invokestatic 88, 3) := by decide +kernel
theorem d_Tree_leastOfPair_19 : decode m_Tree_leastOfPair.2.1 19 = .ok (.istore 4, 2) := by decide +kernel
theorem d_Tree_leastOfPair_21 : decode m_Tree_leastOfPair.2.1 21 = .ok (.aload_n 0, 1) := by decide +kernel
theorem d_Tree_leastOfPair_22 : decode m_Tree_leastOfPair.2.1 22 = .ok (.iload_n 1, 1) := by decide +kernel
theorem d_Tree_leastOfPair_23 : decode m_Tree_leastOfPair.2.1 23 = .ok (.invokevirtual 58, 3) := by decide +kernel
theorem d_Tree_leastOfPair_26 : decode m_Tree_leastOfPair.2.1 26 = .ok (.ifCond .ne 6, 3) := by decide +kernel
theorem d_Tree_leastOfPair_29 : decode m_Tree_leastOfPair.2.1 29 = .ok (.iload 4, 2) := by decide +kernel
theorem d_Tree_leastOfPair_31 : decode m_Tree_leastOfPair.2.1 31 = .ok (.ireturn, 1) := by decide +kernel
theorem d_Tree_leastOfPair_32 : decode m_Tree_leastOfPair.2.1 32 = .ok (.aload_n 0, 1) := by decide +kernel
theorem d_Tree_leastOfPair_33 : decode m_Tree_leastOfPair.2.1 33 = .ok (.iload_n 3, 1) := by decide +kernel
theorem d_Tree_leastOfPair_34 : decode m_Tree_leastOfPair.2.1 34 = .ok (.invokevirtual 70, 3) := by decide +kernel
theorem d_Tree_leastOfPair_37 : decode m_Tree_leastOfPair.2.1 37 = .ok (.ifCond .eq 7, 3) := by decide +kernel
theorem d_Tree_leastOfPair_40 : decode m_Tree_leastOfPair.2.1 40 = .ok (.iconst 1, 1) := by decide +kernel
theorem d_Tree_leastOfPair_41 : decode m_Tree_leastOfPair.2.1 41 = .ok (.goto 11, 3) := by decide +kernel
theorem d_Tree_leastOfPair_44 : decode m_Tree_leastOfPair.2.1 44 = .ok (.aload_n 0, 1) := by decide +kernel
theorem d_Tree_leastOfPair_45 : decode m_Tree_leastOfPair.2.1 45 = .ok (.getfield 32, 3) := by decide +kernel
theorem d_Tree_leastOfPair_48 : decode m_Tree_leastOfPair.2.1 48 = .ok (.iload_n 3, 1) := by decide +kernel
theorem d_Tree_leastOfPair_49 : decode m_Tree_leastOfPair.2.1 49 = .ok (.invokevirtual 48, 3) := by decide +kernel
theorem d_Tree_leastOfPair_52 : decode m_Tree_leastOfPair.2.1 52 = .ok (.istore 5, 2) := by decide +kernel
theorem d_Tree_leastOfPair_54 : decode m_Tree_leastOfPair.2.1 54 = .ok (.aload_n 0, 1) := by decide +kernel
theorem d_Tree_leastOfPair_55 : decode m_Tree_leastOfPair.2.1 55 = .ok (.iload_n 2, 1) := by decide +kernel
theorem d_Tree_leastOfPair_56 : decode m_Tree_leastOfPair.2.1 56 = .ok (.invokevirtual 70, 3) := by decide +kernel
theorem d_Tree_leastOfPair_59 : decode m_Tree_leastOfPair.2.1 59 = .ok (.ifCond .eq 7, 3) := by decide +kernel
theorem d_Tree_leastOfPair_62 : decode m_Tree_leastOfPair.2.1 62 = .ok (.iconst 0, 1) := by decide +kernel
theorem d_Tree_leastOfPair_63 : decode m_Tree_leastOfPair.2.1 63 = .ok (.goto 11, 3) := by decide +kernel
theorem d_Tree_leastOfPair_66 : decode m_Tree_leastOfPair.2.1 66 = .ok (.aload_n 0, 1) := by decide +kernel
theorem d_Tree_leastOfPair_67 : decode m_Tree_leastOfPair.2.1 67 = .ok (.getfield 32, 3) := by decide +kernel
theorem d_Tree_leastOfPair_70 : decode m_Tree_leastOfPair.2.1 70 = .ok (.iload_n 2, 1) := by decide +kernel
theorem d_Tree_leastOfPair_71 : decode m_Tree_leastOfPair.2.1 71 = .ok (.invokevirtual 48, 3) := by decide +kernel
theorem d_Tree_leastOfPair_74 : decode m_Tree_leastOfPair.2.1 74 = .ok (.istore 6, 2) := by decide +kernel
theorem d_Tree_leastOfPair_76 : decode m_Tree_leastOfPair.2.1 76 = .ok (.iload 4, 2) := by decide +kernel
theorem d_Tree_leastOfPair_78 : decode m_Tree_leastOfPair.2.1 78 = .ok (.iload 5, 2) := by decide +kernel
theorem d_Tree_leastOfPair_80 : decode m_Tree_leastOfPair.2.1 80 = .ok (.iload 6, 2) := by decide +kernel
theorem d_Tree_leastOfPair_82 : decode m_Tree_leastOfPair.2.1 82 = .ok (.invokestatic 88, 3) := by decide +kernel
theorem d_Tree_leastOfPair_85 : decode m_Tree_leastOfPair.2.1 85 = .ok (.invokestatic 102, 3) := by decide +kernel
theorem d_Tree_leastOfPair_88 : decode m_Tree_leastOfPair.2.1 88 = .ok (.ireturn, 1) := by decide +kernel
theorem d_Tree_isCommuting_0 : decode m_Tree_isCommuting.2.1 0 = .ok (.aload_n 0, 1) := by decide +kernel
theorem d_Tree_isCommuting_1 : decode m_Tree_isCommuting.2.1 1 = .ok (.getfield 14, 3) := by decide +kernel
theorem d_Tree_isCommuting_4 : decode m_Tree_isCommuting.2.1 4 = .ok (.iload_n 1, 1) := by decide +kernel
theorem d_Tree_isCommuting_5 : decode m_Tree_isCommuting.2.1 5 = .ok (.invokevirtual 48, 3) := by decide +kernel
theorem d_Tree_isCommuting_8 : decode m_Tree_isCommuting.2.1 8 = .ok (.invokestatic 52, 3) := by decide +kernel
theorem d_Tree_isCommuting_11 : decode m_Tree_isCommuting.2.1 11 = .ok (.ireturn, 1) := by decide +kernel
theorem d_Tree_mayTrap_0 : decode m_Tree_mayTrap.2.1 0 = .ok (.aload_n 0, 1) := by decide +kernel
theorem d_Tree_mayTrap_1 : decode m_Tree_mayTrap.2.1 1 = .ok (.getfield 35, 3) := by decide +kernel
theorem d_Tree_mayTrap_4 : decode m_Tree_mayTrap.2.1 4 = .ok (.iload_n 1, 1) := by decide +kernel
theorem d_Tree_mayTrap_5 : decode m_Tree_mayTrap.2.1 5 = .ok (.invokevirtual 48, 3) := by decide +kernel
theorem d_Tree_mayTrap_8 : decode m_Tree_mayTrap.2.1 8 = .ok (.iconst 1, 1) := by decide +kernel
theorem d_Tree_mayTrap_9 : decode m_Tree_mayTrap.2.1 9 = .ok (.if_icmp .ne 7, 3) := by decide +kernel
theorem d_Tree_mayTrap_12 : decode m_Tree_mayTrap.2.1 12 = .ok (.iconst 1, 1) := by decide +kernel
theorem d_Tree_mayTrap_13 : decode m_Tree_mayTrap.2.1 13 = .ok (.goto 4, 3) := by decide +kernel
theorem d_Tree_mayTrap_16 : decode m_Tree_mayTrap.2.1 16 = .ok (.iconst 0, 1) := by decide +kernel
theorem d_Tree_mayTrap_17 : decode m_Tree_mayTrap.2.1 17 = .ok (.ireturn, 1) := by decide +kernel
theorem d_Tree_deriveSingle_0 : decode m_Tree_deriveSingle.2.1 0 = .ok (.aload_n 0, 1) := by decide +kernel
theorem d_Tree_deriveSingle_1 : decode m_Tree_deriveSingle.2.1 1 = .ok (.getfield 23, 3) := by decide +kernel
theorem d_Tree_deriveSingle_4 : decode m_Tree_deriveSingle.2.1 4 = .ok (.iload_n 1, 1) := by decide +kernel
theorem d_Tree_deriveSingle_5 : decode m_Tree_deriveSingle.2.1 5 = .ok (.invokevirtual 48, 3) := by decide +kernel
theorem d_Tree_deriveSingle_8 : decode m_Tree_deriveSingle.2.1 8 = .ok (.istore_n 2, 1) := by decide +kernel
theorem d_Tree_deriveSingle_9 : decode m_Tree_deriveSingle.2.1 9 = .ok (.aload_n 0, 1) := by decide +kernel
theorem d_Tree_deriveSingle_10 : decode m_Tree_deriveSingle.2.1 10 = .ok (.getfield 29, 3) := by decide +kernel
theorem d_Tree_deriveSingle_13 : decode m_Tree_deriveSingle.2.1 13 = .ok (.iload_n 1, 1) := by decide +kernel
theorem d_Tree_deriveSingle_14 : decode m_Tree_deriveSingle.2.1 14 = .ok (.aload_n 0, 1) := by decide +kernel
theorem d_Tree_deriveSingle_15 : decode m_Tree_deriveSingle.2.1 15 = .ok (.getfield 29, 3) := by decide +kernel
theorem d_Tree_deriveSingle_18 : decode m_Tree_deriveSingle.2.1 18 = .ok (.iload_n 2, 1) := by decide +kernel
theorem d_Tree_deriveSingle_19 : decode m_Tree_deriveSingle.2.1 19 = .ok (.invokevirtual 48, 3) := by decide +kernel
theorem d_Tree_deriveSingle_22 : decode m_Tree_deriveSingle.2.1 22 = .ok (.invokevirtual 62, 3) := by decide +kernel
theorem d_Tree_deriveSingle_25 : decode m_Tree_deriveSingle.2.1 25 = .ok (.aload_n 0, 1) := by decide +kernel
theorem d_Tree_deriveSingle_26 : decode m_Tree_deriveSingle.2.1 26 = .ok (.getfield 32, 3) := by decide +kernel
theorem d_Tree_deriveSingle_29 : decode m_Tree_deriveSingle.2.1 29 = .ok (.iload_n 1, 1) := by decide +kernel
theorem d_Tree_deriveSingle_30 : decode m_Tree_deriveSingle.2.1 30 = .ok (.aload_n 0, 1) := by decide +kernel
theorem d_Tree_deriveSingle_31 : decode m_Tree_deriveSingle.2.1 31 = .ok (.getfield 32, 3) := by decide +kernel
theorem d_Tree_deriveSingle_34 : decode m_Tree_deriveSingle.2.1 34 = .ok (.iload_n 2, 1) := by decide +kernel
theorem d_Tree_deriveSingle_35 : decode m_Tree_deriveSingle.2.1 35 = .ok (.invokevirtual 48, 3) := by decide +kernel
theorem d_Tree_deriveSingle_38 : decode m_Tree_deriveSingle.2.1 38 = .ok (.invokevirtual 62, 3) := by decide +kernel
theorem d_Tree_deriveSingle_41 : decode m_Tree_deriveSingle.2.1 41 = .ok (.aload_n 0, 1) := by decide +kernel
theorem d_Tree_deriveSingle_42 : decode m_Tree_deriveSingle.2.1 42 = .ok (.getfield 35, 3) := by decide +kernel
theorem d_Tree_deriveSingle_45 : decode m_Tree_deriveSingle.2.1 45 = .ok (.iload_n 1, 1) := by decide +kernel
theorem d_Tree_deriveSingle_46 : decode m_Tree_deriveSingle.2.1 46 = .ok (.aload_n 0, 1) := by decide +kernel
theorem d_Tree_deriveSingle_47 : decode m_Tree_deriveSingle.2.1 47 = .ok (.getfield 35, 3) := by decide +kernel
theorem d_Tree_deriveSingle_50 : decode m_Tree_deriveSingle.2.1 50 = .ok (.iload_n 2, 1) := by decide +kernel
theorem d_Tree_deriveSingle_51 : decode m_Tree_deriveSingle.2.1 51 = .ok (.invokevirtual 48, 3) := by decide +kernel
theorem d_Tree_deriveSingle_54 : decode m_Tree_deriveSingle.2.1 54 = .ok (.invokevirtual 62, 3) := by decide +kernel
theorem d_Tree_deriveSingle_57 : decode m_Tree_deriveSingle.2.1 57 = .ok (.aload_n 0, 1) := by decide +kernel
theorem d_Tree_deriveSingle_58 : decode m_Tree_deriveSingle.2.1 58 = .ok (.getfield 38, 3) := by decide +kernel
theorem d_Tree_deriveSingle_61 : decode m_Tree_deriveSingle.2.1 61 = .ok (.iload_n 1, 1) := by decide +kernel
theorem d_Tree_deriveSingle_62 : decode m_Tree_deriveSingle.2.1 62 = .ok (.aload_n 0, 1) := by decide +kernel
theorem d_Tree_deriveSingle_63 : decode m_Tree_deriveSingle.2.1 63 = .ok (.getfield 38, 3) := by decide +kernel
theorem d_Tree_deriveSingle_66 : decode m_Tree_deriveSingle.2.1 66 = .ok (.iload_n 2, 1) := by decide +kernel
theorem d_Tree_deriveSingle_67 : decode m_Tree_deriveSingle.2.1 67 = .ok (.invokevirtual 48, 3) := by decide +kernel
theorem d_Tree_deriveSingle_70 : decode m_Tree_deriveSingle.2.1 70 = .ok (.iconst 1, 1) := by decide +kernel
theorem d_Tree_deriveSingle_71 : decode m_Tree_deriveSingle.2.1 71 = .ok (.iadd, 1) := by decide +kernel
theorem d_Tree_deriveSingle_72 : decode m_Tree_deriveSingle.2.1 72 = .ok (.invokevirtual 62, 3) := by decide +kernel
theorem d_Tree_deriveSingle_75 : decode m_Tree_deriveSingle.2.1 75 = .ok (.return_, 1) := by decide +kernel
theorem d_Tree_lowestAlike_0 : decode m_Tree_lowestAlike.2.1 0 = .ok (.iconst 0, 1) := by decide +kernel
theorem d_Tree_lowestAlike_1 : decode m_Tree_lowestAlike.2.1 1 = .ok (.istore_n 2, 1) := by decide +kernel
theorem d_Tree_lowestAlike_2 : decode m_Tree_lowestAlike.2.1 2 = .ok (.iload_n 2, 1) := by decide +kernel
theorem d_Tree_lowestAlike_3 : decode m_Tree_lowestAlike.2.1 3 = .ok (.iload_n 1, 1) := by decide +kernel
theorem d_Tree_lowestAlike_4 : decode m_Tree_lowestAlike.2.1 4 = .ok (.if_icmp .ge 20, 3) := by decide +kernel
theorem d_Tree_lowestAlike_7 : decode m_Tree_lowestAlike.2.1 7 = .ok (.aload_n 0, 1) := by decide +kernel
theorem d_Tree_lowestAlike_8 : decode m_Tree_lowestAlike.2.1 8 = .ok (.iload_n 2, 1) := by decide +kernel
theorem d_Tree_lowestAlike_9 : decode m_Tree_lowestAlike.2.1 9 = .ok (.iload_n 1, 1) := by decide +kernel
theorem d_Tree_lowestAlike_10 : decode m_Tree_lowestAlike.2.1 10 = .ok (.invokevirtual 110, 3) := by decide +kernel
theorem d_Tree_lowestAlike_13 : decode m_Tree_lowestAlike.2.1 13 = .ok (.ifCond .eq 5, 3) := by decide +kernel
theorem d_Tree_lowestAlike_16 : decode m_Tree_lowestAlike.2.1 16 = .ok (.iload_n 2, 1) := by decide +kernel
theorem d_Tree_lowestAlike_17 : decode m_Tree_lowestAlike.2.1 17 = .ok (.ireturn, 1) := by decide +kernel
theorem d_Tree_lowestAlike_18 : decode m_Tree_lowestAlike.2.1 18 = .ok (.iinc 2 1, 3) := by decide +kernel
theorem d_Tree_lowestAlike_21 : decode m_Tree_lowestAlike.2.1 21 = .ok (.goto (-19), 3) := by decide +kernel
theorem d_Tree_lowestAlike_24 : decode m_Tree_lowestAlike.2.1 24 = .ok (.iload_n 1, 1) := by decide +kernel
theorem d_Tree_lowestAlike_25 : decode m_Tree_lowestAlike.2.1 25 = .ok (.ireturn, 1) := by decide +kernel
theorem d_Tree_areAlike_0 : decode m_Tree_areAlike.2.1 0 = .ok (.aload_n 0, 1) := by decide +kernel
theorem d_Tree_areAlike_1 : decode m_Tree_areAlike.2.1 1 = .ok (.getfield 14, 3) := by decide +kernel
theorem d_Tree_areAlike_4 : decode m_Tree_areAlike.2.1 4 = .ok (.iload_n 1, 1) := by decide +kernel
theorem d_Tree_areAlike_5 : decode m_Tree_areAlike.2.1 5 = .ok (.invokevirtual 48, 3) := by decide +kernel
theorem d_Tree_areAlike_8 : decode m_Tree_areAlike.2.1 8 = .ok (.aload_n 0, 1) := by decide +kernel
theorem d_Tree_areAlike_9 : decode m_Tree_areAlike.2.1 9 = .ok (.getfield 14, 3) := by decide +kernel
theorem d_Tree_areAlike_12 : decode m_Tree_areAlike.2.1 12 = .ok (.iload_n 2, 1) := by decide +kernel
theorem d_Tree_areAlike_13 : decode m_Tree_areAlike.2.1 13 = .ok (.invokevirtual 48, 3) := by decide +kernel
theorem d_Tree_areAlike_16 : decode m_Tree_areAlike.2.1 16 = .ok (.if_icmp .ne 80, 3) := by decide +kernel
theorem d_Tree_areAlike_19 : decode m_Tree_areAlike.2.1 19 = .ok (.aload_n 0, 1) := by decide +kernel
theorem d_Tree_areAlike_20 : decode m_Tree_areAlike.2.1 20 = .ok (.getfield 20, 3) := by decide +kernel
theorem d_Tree_areAlike_23 : decode m_Tree_areAlike.2.1 23 = .ok (.iload_n 1, 1) := by decide +kernel
theorem d_Tree_areAlike_24 : decode m_Tree_areAlike.2.1 24 = .ok (.invokevirtual 48, 3) := by decide +kernel
theorem d_Tree_areAlike_27 : decode m_Tree_areAlike.2.1 27 = .ok (.aload_n 0, 1) := by decide +kernel
theorem d_Tree_areAlike_28 : decode m_Tree_areAlike.2.1 28 = .ok (.getfield 20, 3) := by decide +kernel
theorem d_Tree_areAlike_31 : decode m_Tree_areAlike.2.1 31 = .ok (.iload_n 2, 1) := by decide +kernel
theorem d_Tree_areAlike_32 : decode m_Tree_areAlike.2.1 32 = .ok (.invokevirtual 48, 3) := by decide +kernel
theorem d_Tree_areAlike_35 : decode m_Tree_areAlike.2.1 35 = .ok (.if_icmp .ne 61, 3) := by decide +kernel
theorem d_Tree_areAlike_38 : decode m_Tree_areAlike.2.1 38 = .ok (.aload_n 0, 1) := by decide +kernel
theorem d_Tree_areAlike_39 : decode m_Tree_areAlike.2.1 39 = .ok (.aload_n 0, 1) := by decide +kernel
theorem d_Tree_areAlike_40 : decode m_Tree_areAlike.2.1 40 = .ok (.getfield 23, 3) := by decide +kernel
theorem d_Tree_areAlike_43 : decode m_Tree_areAlike.2.1 43 = .ok (.iload_n 1, 1) := by decide +kernel
theorem d_Tree_areAlike_44 : decode m_Tree_areAlike.2.1 44 = .ok (.invokevirtual 48, 3) := by decide +kernel
theorem d_Tree_areAlike_47 : decode m_Tree_areAlike.2.1 47 = .ok (.invokevirtual 114, 3) := by decide +kernel
theorem d_Tree_areAlike_50 : decode m_Tree_areAlike.2.1 50 = .ok (.aload_n 0, 1) := by decide +kernel
theorem d_Tree_areAlike_51 : decode m_Tree_areAlike.2.1 51 = .ok (.aload_n 0, 1) := by decide +kernel
theorem d_Tree_areAlike_52 : decode m_Tree_areAlike.2.1 52 = .ok (.getfield 23, 3) := by decide +kernel
theorem d_Tree_areAlike_55 : decode m_Tree_areAlike.2.1 55 = .ok (.iload_n 2, 1) := by decide +kernel
theorem d_Tree_areAlike_56 : decode m_Tree_areAlike.2.1 56 = .ok (.invokevirtual 48, 3) := by decide +kernel
theorem d_Tree_areAlike_59 : decode m_Tree_areAlike.2.1 59 = .ok (.invokevirtual 114, 3) := by decide +kernel
theorem d_Tree_areAlike_62 : decode m_Tree_areAlike.2.1 62 = .ok (.if_icmp .ne 34, 3) := by decide +kernel
theorem d_Tree_areAlike_65 : decode m_Tree_areAlike.2.1 65 = .ok (.aload_n 0, 1) := by decide +kernel
theorem d_Tree_areAlike_66 : decode m_Tree_areAlike.2.1 66 = .ok (.aload_n 0, 1) := by decide +kernel
theorem d_Tree_areAlike_67 : decode m_Tree_areAlike.2.1 67 = .ok (.getfield 26, 3) := by decide +kernel
theorem d_Tree_areAlike_70 : decode m_Tree_areAlike.2.1 70 = .ok (.iload_n 1, 1) := by decide +kernel
theorem d_Tree_areAlike_71 : decode m_Tree_areAlike.2.1 71 = .ok (.invokevirtual 48, 3) := by decide +kernel
theorem d_Tree_areAlike_74 : decode m_Tree_areAlike.2.1 74 = .ok (.invokevirtual 114, 3) := by decide +kernel
theorem d_Tree_areAlike_77 : decode m_Tree_areAlike.2.1 77 = .ok (.aload_n 0, 1) := by decide +kernel
theorem d_Tree_areAlike_78 : decode m_Tree_areAlike.2.1 78 = .ok (.aload_n 0, 1) := by decide +kernel
theorem d_Tree_areAlike_79 : decode m_Tree_areAlike.2.1 79 = .ok (.getfield 26, 3) := by decide +kernel
theorem d_Tree_areAlike_82 : decode m_Tree_areAlike.2.1 82 = .ok (.iload_n 2, 1) := by decide +kernel
theorem d_Tree_areAlike_83 : decode m_Tree_areAlike.2.1 83 = .ok (.invokevirtual 48, 3) := by decide +kernel
theorem d_Tree_areAlike_86 : decode m_Tree_areAlike.2.1 86 = .ok (.invokevirtual 114, 3) := by decide +kernel
theorem d_Tree_areAlike_89 : decode m_Tree_areAlike.2.1 89 = .ok (.if_icmp .ne 7, 3) := by decide +kernel
theorem d_Tree_areAlike_92 : decode m_Tree_areAlike.2.1 92 = .ok (.iconst 1, 1) := by decide +kernel
theorem d_Tree_areAlike_93 : decode m_Tree_areAlike.2.1 93 = .ok (.goto 4, 3) := by decide +kernel
theorem d_Tree_areAlike_96 : decode m_Tree_areAlike.2.1 96 = .ok (.iconst 0, 1) := by decide +kernel
theorem d_Tree_areAlike_97 : decode m_Tree_areAlike.2.1 97 = .ok (.ireturn, 1) := by decide +kernel
theorem d_Tree_kindOf_0 : decode m_Tree_kindOf.2.1 0 = .ok (.iload_n 1, 1) := by decide +kernel
theorem d_Tree_kindOf_1 : decode m_Tree_kindOf.2.1 1 = .ok (.bipush (-9), 2) := by decide +kernel
theorem d_Tree_kindOf_3 : decode m_Tree_kindOf.2.1 3 = .ok (.if_icmp .ne 8, 3) := by decide +kernel
theorem d_Tree_kindOf_6 : decode m_Tree_kindOf.2.1 6 = .ok (.bipush (-9), 2) := by decide +kernel
theorem d_Tree_kindOf_8 : decode m_Tree_kindOf.2.1 8 = .ok (.goto 11, 3) := by decide +kernel
theorem d_Tree_kindOf_11 : decode m_Tree_kindOf.2.1 11 = .ok (.aload_n 0, 1) := by decide +kernel
theorem d_Tree_kindOf_12 : decode m_Tree_kindOf.2.1 12 = .ok (.getfield 41, 3) := by decide +kernel
theorem d_Tree_kindOf_15 : decode m_Tree_kindOf.2.1 15 = .ok (.iload_n 1, 1) := by decide +kernel
theorem d_Tree_kindOf_16 : decode m_Tree_kindOf.2.1 16 = .ok (.invokevirtual 48, 3) := by decide +kernel
theorem d_Tree_kindOf_19 : decode m_Tree_kindOf.2.1 19 = .ok (.ireturn, 1) := by decide +kernel
theorem d_Tree_copy_0 : decode m_Tree_copy.2.1 0 = .ok (.aload_n 0, 1) := by decide +kernel
theorem d_Tree_copy_1 : decode m_Tree_copy.2.1 1 = .ok (.getfield 14, 3) := by decide +kernel
theorem d_Tree_copy_4 : decode m_Tree_copy.2.1 4 = .ok (.aload_n 1, 1) := by decide +kernel
theorem d_Tree_copy_5 : decode m_Tree_copy.2.1 5 = .ok (.getfield 14, 3) := by decide +kernel
theorem d_Tree_copy_8 : decode m_Tree_copy.2.1 8 = .ok (.invokevirtual 66, 3) := by decide +kernel
theorem d_Tree_copy_11 : decode m_Tree_copy.2.1 11 = .ok (.aload_n 0, 1) := by decide +kernel
theorem d_Tree_copy_12 : decode m_Tree_copy.2.1 12 = .ok (.getfield 20, 3) := by decide +kernel
theorem d_Tree_copy_15 : decode m_Tree_copy.2.1 15 = .ok (.aload_n 1, 1) := by decide +kernel
theorem d_Tree_copy_16 : decode m_Tree_copy.2.1 16 = .ok (.getfield 20, 3) := by decide +kernel
theorem d_Tree_copy_19 : decode m_Tree_copy.2.1 19 = .ok (.invokevirtual 66, 3) := by decide +kernel
theorem d_Tree_copy_22 : decode m_Tree_copy.2.1 22 = .ok (.aload_n 0, 1) := by decide +kernel
theorem d_Tree_copy_23 : decode m_Tree_copy.2.1 23 = .ok (.getfield 23, 3) := by decide +kernel
theorem d_Tree_copy_26 : decode m_Tree_copy.2.1 26 = .ok (.aload_n 1, 1) := by decide +kernel
theorem d_Tree_copy_27 : decode m_Tree_copy.2.1 27 = .ok (.getfield 23, 3) := by decide +kernel
theorem d_Tree_copy_30 : decode m_Tree_copy.2.1 30 = .ok (.invokevirtual 66, 3) := by decide +kernel
theorem d_Tree_copy_33 : decode m_Tree_copy.2.1 33 = .ok (.aload_n 0, 1) := by decide +kernel
theorem d_Tree_copy_34 : decode m_Tree_copy.2.1 34 = .ok (.getfield 26, 3) := by decide +kernel
theorem d_Tree_copy_37 : decode m_Tree_copy.2.1 37 = .ok (.aload_n 1, 1) := by decide +kernel
theorem d_Tree_copy_38 : decode m_Tree_copy.2.1 38 = .ok (.getfield 26, 3) := by decide +kernel
theorem d_Tree_copy_41 : decode m_Tree_copy.2.1 41 = .ok (.invokevirtual 66, 3) := by decide +kernel
theorem d_Tree_copy_44 : decode m_Tree_copy.2.1 44 = .ok (.aload_n 0, 1) := by decide +kernel
theorem d_Tree_copy_45 : decode m_Tree_copy.2.1 45 = .ok (.getfield 29, 3) := by decide +kernel
theorem d_Tree_copy_48 : decode m_Tree_copy.2.1 48 = .ok (.aload_n 1, 1) := by decide +kernel
theorem d_Tree_copy_49 : decode m_Tree_copy.2.1 49 = .ok (.getfield 29, 3) := by decide +kernel
theorem d_Tree_copy_52 : decode m_Tree_copy.2.1 52 = .ok (.invokevirtual 66, 3) := by decide +kernel
theorem d_Tree_copy_55 : decode m_Tree_copy.2.1 55 = .ok (.aload_n 0, 1) := by decide +kernel
theorem d_Tree_copy_56 : decode m_Tree_copy.2.1 56 = .ok (.getfield 32, 3) := by decide +kernel
theorem d_Tree_copy_59 : decode m_Tree_copy.2.1 59 = .ok (.aload_n 1, 1) := by decide +kernel
theorem d_Tree_copy_60 : decode m_Tree_copy.2.1 60 = .ok (.getfield 32, 3) := by decide +kernel
theorem d_Tree_copy_63 : decode m_Tree_copy.2.1 63 = .ok (.invokevirtual 66, 3) := by decide +kernel
theorem d_Tree_copy_66 : decode m_Tree_copy.2.1 66 = .ok (.aload_n 0, 1) := by decide +kernel
theorem d_Tree_copy_67 : decode m_Tree_copy.2.1 67 = .ok (.getfield 35, 3) := by decide +kernel
theorem d_Tree_copy_70 : decode m_Tree_copy.2.1 70 = .ok (.aload_n 1, 1) := by decide +kernel
theorem d_Tree_copy_71 : decode m_Tree_copy.2.1 71 = .ok (.getfield 35, 3) := by decide +kernel
theorem d_Tree_copy_74 : decode m_Tree_copy.2.1 74 = .ok (.invokevirtual 66, 3) := by decide +kernel
theorem d_Tree_copy_77 : decode m_Tree_copy.2.1 77 = .ok (.aload_n 0, 1) := by decide +kernel
theorem d_Tree_copy_78 : decode m_Tree_copy.2.1 78 = .ok (.getfield 38, 3) := by decide +kernel
theorem d_Tree_copy_81 : decode m_Tree_copy.2.1 81 = .ok (.aload_n 1, 1) := by decide +kernel
theorem d_Tree_copy_82 : decode m_Tree_copy.2.1 82 = .ok (.getfield 38, 3) := by decide +kernel
theorem d_Tree_copy_85 : decode m_Tree_copy.2.1 85 = .ok (.invokevirtual 66, 3) := by decide +kernel
theorem d_Tree_copy_88 : decode m_Tree_copy.2.1 88 = .ok (.aload_n 0, 1) := by decide +kernel
theorem d_Tree_copy_89 : decode m_Tree_copy.2.1 89 = .ok (.getfield 41, 3) := by decide +kernel
theorem d_Tree_copy_92 : decode m_Tree_copy.2.1 92 = .ok (.aload_n 1, 1) := by decide +kernel
theorem d_Tree_copy_93 : decode m_Tree_copy.2.1 93 = .ok (.getfield 41, 3) := by decide +kernel
theorem d_Tree_copy_96 : decode m_Tree_copy.2.1 96 = .ok (.invokevirtual 66, 3) := by decide +kernel
theorem d_Tree_copy_99 : decode m_Tree_copy.2.1 99 = .ok (.aload_n 0, 1) := by decide +kernel
theorem d_Tree_copy_100 : decode m_Tree_copy.2.1 100 = .ok (.aload_n 1, 1) := by decide +kernel
theorem d_Tree_copy_101 : decode m_Tree_copy.2.1 101 = .ok (.getfield 44, 3) := by decide +kernel
theorem d_Tree_copy_104 : decode m_Tree_copy.2.1 104 = .ok (.putfield 44, 3) := by decide +kernel
theorem d_Tree_copy_107 : decode m_Tree_copy.2.1 107 = .ok (.return_, 1) := by decide +kernel
theorem d_Tree_bothMayTrap_0 : decode m_Tree_bothMayTrap.2.1 0 = .ok (.aload_n 0, 1) := by decide +kernel
theorem d_Tree_bothMayTrap_1 : decode m_Tree_bothMayTrap.2.1 1 = .ok (.getfield 35, 3) := by decide +kernel
theorem d_Tree_bothMayTrap_4 : decode m_Tree_bothMayTrap.2.1 4 = .ok (.aload_n 0, 1) := by decide +kernel
theorem d_Tree_bothMayTrap_5 : decode m_Tree_bothMayTrap.2.1 5 = .ok (.getfield 23, 3) := by decide +kernel
theorem d_Tree_bothMayTrap_8 : decode m_Tree_bothMayTrap.2.1 8 = .ok (.iload_n 1, 1) := by decide +kernel
theorem d_Tree_bothMayTrap_9 : decode m_Tree_bothMayTrap.2.1 9 = .ok (.invokevirtual 48, 3) := by decide +kernel
theorem d_Tree_bothMayTrap_12 : decode m_Tree_bothMayTrap.2.1 12 = .ok (.invokevirtual 48, 3) := by decide +kernel
theorem d_Tree_bothMayTrap_15 : decode m_Tree_bothMayTrap.2.1 15 = .ok (.iconst 1, 1) := by decide +kernel
theorem d_Tree_bothMayTrap_16 : decode m_Tree_bothMayTrap.2.1 16 = .ok (.if_icmp .ne 26, 3) := by decide +kernel
theorem d_Tree_bothMayTrap_19 : decode m_Tree_bothMayTrap.2.1 19 = .ok (.aload_n 0, 1) := by decide +kernel
theorem d_Tree_bothMayTrap_20 : decode m_Tree_bothMayTrap.2.1 20 = .ok (.getfield 35, 3) := by decide +kernel
theorem d_Tree_bothMayTrap_23 : decode m_Tree_bothMayTrap.2.1 23 = .ok (.aload_n 0, 1) := by decide +kernel
theorem d_Tree_bothMayTrap_24 : decode m_Tree_bothMayTrap.2.1 24 = .ok (.getfield 26, 3) := by decide +kernel
theorem d_Tree_bothMayTrap_27 : decode m_Tree_bothMayTrap.2.1 27 = .ok (.iload_n 1, 1) := by decide +kernel
theorem d_Tree_bothMayTrap_28 : decode m_Tree_bothMayTrap.2.1 28 = .ok (.invokevirtual 48, 3) := by decide +kernel
theorem d_Tree_bothMayTrap_31 : decode m_Tree_bothMayTrap.2.1 31 = .ok (.invokevirtual 48, 3) := by decide +kernel
theorem d_Tree_bothMayTrap_34 : decode m_Tree_bothMayTrap.2.1 34 = .ok (.iconst 1, 1) := by decide +kernel
theorem d_Tree_bothMayTrap_35 : decode m_Tree_bothMayTrap.2.1 35 = .ok (.if_icmp .ne 7, 3) := by decide +kernel
theorem d_Tree_bothMayTrap_38 : decode m_Tree_bothMayTrap.2.1 38 = .ok (.iconst 1, 1) := by decide +kernel
theorem d_Tree_bothMayTrap_39 : decode m_Tree_bothMayTrap.2.1 39 = .ok (.goto 4, 3) := by decide +kernel
theorem d_Tree_bothMayTrap_42 : decode m_Tree_bothMayTrap.2.1 42 = .ok (.iconst 0, 1) := by decide +kernel
theorem d_Tree_bothMayTrap_43 : decode m_Tree_bothMayTrap.2.1 43 = .ok (.ireturn, 1) := by decide +kernel
theorem d_Tree_has_0 : decode m_Tree_has.2.1 0 = .ok (.iload_n 1, 1) := by decide +kernel
theorem d_Tree_has_1 : decode m_Tree_has.2.1 1 = .ok (.ifCond .lt 15, 3) := by decide +kernel
theorem d_Tree_has_4 : decode m_Tree_has.2.1 4 = .ok (.iload_n 1, 1) := by decide +kernel
theorem d_Tree_has_5 : decode m_Tree_has.2.1 5 = .ok (.aload_n 0, 1) := by decide +kernel
theorem d_Tree_has_6 : decode m_Tree_has.2.1 6 = .ok (.getfield 44, 3) := by decide +kernel
theorem d_Tree_has_9 : decode m_Tree_has.2.1 9 = .ok (.if_icmp .ge 7, 3) := by decide +kernel
theorem d_Tree_has_12 : decode m_Tree_has.2.1 12 = .ok (.iconst 1, 1) := by decide +kernel
theorem d_Tree_has_13 : decode m_Tree_has.2.1 13 = .ok (.goto 4, 3) := by decide +kernel
theorem d_Tree_has_16 : decode m_Tree_has.2.1 16 = .ok (.iconst 0, 1) := by decide +kernel
theorem d_Tree_has_17 : decode m_Tree_has.2.1 17 = .ok (.ireturn, 1) := by decide +kernel
theorem d_Tree_isEmpty_0 : decode m_Tree_isEmpty.2.1 0 = .ok (.aload_n 0, 1) := by decide +kernel
theorem d_Tree_isEmpty_1 : decode m_Tree_isEmpty.2.1 1 = .ok (.getfield 44, 3) := by decide +kernel
theorem d_Tree_isEmpty_4 : decode m_Tree_isEmpty.2.1 4 = .ok (.ifCond .ne 7, 3) := by decide +kernel
theorem d_Tree_isEmpty_7 : decode m_Tree_isEmpty.2.1 7 = .ok (.iconst 1, 1) := by decide +kernel
theorem d_Tree_isEmpty_8 : decode m_Tree_isEmpty.2.1 8 = .ok (.goto 4, 3) := by decide +kernel
theorem d_Tree_isEmpty_11 : decode m_Tree_isEmpty.2.1 11 = .ok (.iconst 0, 1) := by decide +kernel
theorem d_Tree_isEmpty_12 : decode m_Tree_isEmpty.2.1 12 = .ok (.ireturn, 1) := by decide +kernel
theorem d_Tree_isExchangeable_0 : decode m_Tree_isExchangeable.2.1 0 = .ok (.aload_n 0, 1) := by decide +kernel
theorem d_Tree_isExchangeable_1 : decode m_Tree_isExchangeable.2.1 1 = .ok (.iload_n 1, 1) := by decide +kernel
theorem d_Tree_isExchangeable_2 : decode m_Tree_isExchangeable.2.1 2 = .ok (.invokevirtual 58, 3) := by decide +kernel
theorem d_Tree_isExchangeable_5 : decode m_Tree_isExchangeable.2.1 5 = .ok (.ifCond .eq 15, 3) := by decide +kernel
theorem d_Tree_isExchangeable_8 : decode m_Tree_isExchangeable.2.1 8 = .ok (.aload_n 0, 1) := by decide +kernel
theorem d_Tree_isExchangeable_9 : decode m_Tree_isExchangeable.2.1 9 = .ok (.iload_n 1, 1) := by decide +kernel
theorem d_Tree_isExchangeable_10 : decode m_Tree_isExchangeable.2.1 10 = .ok (.invokevirtual 59, 3) := by decide +kernel
theorem d_Tree_isExchangeable_13 : decode m_Tree_isExchangeable.2.1 13 = .ok (.ifCond .ne 7, 3) := by decide +kernel
theorem d_Tree_isExchangeable_16 : decode m_Tree_isExchangeable.2.1 16 = .ok (.iconst 1, 1) := by decide +kernel
theorem d_Tree_isExchangeable_17 : decode m_Tree_isExchangeable.2.1 17 = .ok (.goto 4, 3) := by decide +kernel
theorem d_Tree_isExchangeable_20 : decode m_Tree_isExchangeable.2.1 20 = .ok (.iconst 0, 1) := by decide +kernel
theorem d_Tree_isExchangeable_21 : decode m_Tree_isExchangeable.2.1 21 = .ok (.ireturn, 1) := by decide +kernel
theorem d_Tree_turn_0 : decode m_Tree_turn.2.1 0 = .ok (.aload_n 2, 1) := by decide +kernel
theorem d_Tree_turn_1 : decode m_Tree_turn.2.1 1 = .ok (.aload_n 0, 1) := by decide +kernel
theorem d_Tree_turn_2 : decode m_Tree_turn.2.1 2 = .ok (.invokevirtual 117, 3) := by decide +kernel
theorem d_Tree_turn_5 : decode m_Tree_turn.2.1 5 = .ok (.aload_n 2, 1) := by decide +kernel
theorem d_Tree_turn_6 : decode m_Tree_turn.2.1 6 = .ok (.getfield 23, 3) := by decide +kernel
theorem d_Tree_turn_9 : decode m_Tree_turn.2.1 9 = .ok (.iload_n 1, 1) := by decide +kernel
theorem d_Tree_turn_10 : decode m_Tree_turn.2.1 10 = .ok (.invokevirtual 48, 3) := by decide +kernel
theorem d_Tree_turn_13 : decode m_Tree_turn.2.1 13 = .ok (.istore_n 3, 1) := by decide +kernel
theorem d_Tree_turn_14 : decode m_Tree_turn.2.1 14 = .ok (.aload_n 2, 1) := by decide +kernel
theorem d_Tree_turn_15 : decode m_Tree_turn.2.1 15 = .ok (.getfield 26, 3) := by decide +kernel
theorem d_Tree_turn_18 : decode m_Tree_turn.2.1 18 = .ok (.iload_n 1, 1) := by decide +kernel
theorem d_Tree_turn_19 : decode m_Tree_turn.2.1 19 = .ok (.invokevirtual 48, 3) := by decide +kernel
theorem d_Tree_turn_22 : decode m_Tree_turn.2.1 22 = .ok (.istore 4, 2) := by decide +kernel
theorem d_Tree_turn_24 : decode m_Tree_turn.2.1 24 = .ok (.aload_n 2, 1) := by decide +kernel
theorem d_Tree_turn_25 : decode m_Tree_turn.2.1 25 = .ok (.getfield 38, 3) := by decide +kernel
theorem d_Tree_turn_28 : decode m_Tree_turn.2.1 28 = .ok (.iload_n 3, 1) := by decide +kernel
theorem d_Tree_turn_29 : decode m_Tree_turn.2.1 29 = .ok (.invokevirtual 48, 3) := by decide +kernel
theorem d_Tree_turn_32 : decode m_Tree_turn.2.1 32 = .ok (.istore 5, 2) := by decide +kernel
theorem d_Tree_turn_34 : decode m_Tree_turn.2.1 34 = .ok (.aload_n 2, 1) := by decide +kernel
theorem d_Tree_turn_35 : decode m_Tree_turn.2.1 35 = .ok (.getfield 38, 3) := by decide +kernel
theorem d_Tree_turn_38 : decode m_Tree_turn.2.1 38 = .ok (.iload 4, 2) := by decide +kernel
theorem d_Tree_turn_40 : decode m_Tree_turn.2.1 40 = .ok (.invokevirtual 48, 3) := by decide +kernel
theorem d_Tree_turn_43 : decode m_Tree_turn.2.1 43 = .ok (.istore 6, 2) := by decide +kernel
theorem d_Tree_turn_45 : decode m_Tree_turn.2.1 45 = .ok (.iload_n 3, 1) := by decide +kernel
theorem d_Tree_turn_46 : decode m_Tree_turn.2.1 46 = .ok (.iload 5, 2) := by decide +kernel
theorem d_Tree_turn_48 : decode m_Tree_turn.2.1 48 = .ok (.isub, 1) := by decide +kernel
theorem d_Tree_turn_49 : decode m_Tree_turn.2.1 49 = .ok (.iconst 1, 1) := by decide +kernel
theorem d_Tree_turn_50 : decode m_Tree_turn.2.1 50 = .ok (.iadd, 1) := by decide +kernel
theorem d_Tree_turn_51 : decode m_Tree_turn.2.1 51 = .ok (.istore 7, 2) := by decide +kernel
theorem d_Tree_turn_53 : decode m_Tree_turn.2.1 53 = .ok (.iload 7, 2) := by decide +kernel
theorem d_Tree_turn_55 : decode m_Tree_turn.2.1 55 = .ok (.iload_n 3, 1) := by decide +kernel
theorem d_Tree_turn_56 : decode m_Tree_turn.2.1 56 = .ok (.if_icmp .gt 18, 3) := by decide +kernel
theorem d_Tree_turn_59 : decode m_Tree_turn.2.1 59 = .ok (.aload_n 0, 1) := by decide +kernel
theorem d_Tree_turn_60 : decode m_Tree_turn.2.1 60 = .ok (.aload_n 2, 1) := by decide +kernel
theorem d_Tree_turn_61 : decode m_Tree_turn.2.1 61 = .ok (.iload 7, 2) := by decide +kernel
theorem d_Tree_turn_63 : decode m_Tree_turn.2.1 63 = .ok (.iload 6, 2) := by decide +kernel
theorem d_Tree_turn_65 : decode m_Tree_turn.2.1 65 = .ok (.invokevirtual 120, 3) := by decide +kernel
theorem d_Tree_turn_68 : decode m_Tree_turn.2.1 68 = .ok (.iinc 7 1, 3) := by decide +kernel
theorem d_Tree_turn_71 : decode m_Tree_turn.2.1 71 = .ok (.goto (-18), 3) := by decide +kernel
theorem d_Tree_turn_74 : decode m_Tree_turn.2.1 74 = .ok (.iload 4, 2) := by decide +kernel
theorem d_Tree_turn_76 : decode m_Tree_turn.2.1 76 = .ok (.iload 6, 2) := by decide +kernel
theorem d_Tree_turn_78 : decode m_Tree_turn.2.1 78 = .ok (.isub, 1) := by decide +kernel
theorem d_Tree_turn_79 : decode m_Tree_turn.2.1 79 = .ok (.iconst 1, 1) := by decide +kernel
theorem d_Tree_turn_80 : decode m_Tree_turn.2.1 80 = .ok (.iadd, 1) := by decide +kernel
theorem d_Tree_turn_81 : decode m_Tree_turn.2.1 81 = .ok (.istore 7, 2) := by decide +kernel
theorem d_Tree_turn_83 : decode m_Tree_turn.2.1 83 = .ok (.iload 7, 2) := by decide +kernel
theorem d_Tree_turn_85 : decode m_Tree_turn.2.1 85 = .ok (.iload 4, 2) := by decide +kernel
theorem d_Tree_turn_87 : decode m_Tree_turn.2.1 87 = .ok (.if_icmp .gt 19, 3) := by decide +kernel
theorem d_Tree_turn_90 : decode m_Tree_turn.2.1 90 = .ok (.aload_n 0, 1) := by decide +kernel
theorem d_Tree_turn_91 : decode m_Tree_turn.2.1 91 = .ok (.aload_n 2, 1) := by decide +kernel
theorem d_Tree_turn_92 : decode m_Tree_turn.2.1 92 = .ok (.iload 7, 2) := by decide +kernel
theorem d_Tree_turn_94 : decode m_Tree_turn.2.1 94 = .ok (.iload 5, 2) := by decide +kernel
theorem d_Tree_turn_96 : decode m_Tree_turn.2.1 96 = .ok (.ineg, 1) := by decide +kernel
theorem d_Tree_turn_97 : decode m_Tree_turn.2.1 97 = .ok (.invokevirtual 120, 3) := by decide +kernel
theorem d_Tree_turn_100 : decode m_Tree_turn.2.1 100 = .ok (.iinc 7 1, 3) := by decide +kernel
theorem d_Tree_turn_103 : decode m_Tree_turn.2.1 103 = .ok (.goto (-20), 3) := by decide +kernel
theorem d_Tree_turn_106 : decode m_Tree_turn.2.1 106 = .ok (.aload_n 0, 1) := by decide +kernel
theorem d_Tree_turn_107 : decode m_Tree_turn.2.1 107 = .ok (.getfield 23, 3) := by decide +kernel
theorem d_Tree_turn_110 : decode m_Tree_turn.2.1 110 = .ok (.iload_n 1, 1) := by decide +kernel
theorem d_Tree_turn_111 : decode m_Tree_turn.2.1 111 = .ok (.iload 4, 2) := by decide +kernel
theorem d_Tree_turn_113 : decode m_Tree_turn.2.1 113 = .ok (.iload 5, 2) := by decide +kernel
theorem d_Tree_turn_115 : decode m_Tree_turn.2.1 115 = .ok (.isub, 1) := by decide +kernel
theorem d_Tree_turn_116 : decode m_Tree_turn.2.1 116 = .ok (.invokevirtual 62, 3) := by decide +kernel
theorem d_Tree_turn_119 : decode m_Tree_turn.2.1 119 = .ok (.aload_n 0, 1) := by decide +kernel
theorem d_Tree_turn_120 : decode m_Tree_turn.2.1 120 = .ok (.getfield 26, 3) := by decide +kernel
theorem d_Tree_turn_123 : decode m_Tree_turn.2.1 123 = .ok (.iload_n 1, 1) := by decide +kernel
theorem d_Tree_turn_124 : decode m_Tree_turn.2.1 124 = .ok (.iload_n 3, 1) := by decide +kernel
theorem d_Tree_turn_125 : decode m_Tree_turn.2.1 125 = .ok (.iload 6, 2) := by decide +kernel
theorem d_Tree_turn_127 : decode m_Tree_turn.2.1 127 = .ok (.iadd, 1) := by decide +kernel
theorem d_Tree_turn_128 : decode m_Tree_turn.2.1 128 = .ok (.invokevirtual 62, 3) := by decide +kernel
theorem d_Tree_turn_131 : decode m_Tree_turn.2.1 131 = .ok (.aload_n 0, 1) := by decide +kernel
theorem d_Tree_turn_132 : decode m_Tree_turn.2.1 132 = .ok (.invokevirtual 124, 3) := by decide +kernel
theorem d_Tree_turn_135 : decode m_Tree_turn.2.1 135 = .ok (.return_, 1) := by decide +kernel
theorem d_Tree_move_0 : decode m_Tree_move.2.1 0 = .ok (.aload_n 1, 1) := by decide +kernel
theorem d_Tree_move_1 : decode m_Tree_move.2.1 1 = .ok (.getfield 23, 3) := by decide +kernel
theorem d_Tree_move_4 : decode m_Tree_move.2.1 4 = .ok (.iload_n 2, 1) := by decide +kernel
theorem d_Tree_move_5 : decode m_Tree_move.2.1 5 = .ok (.invokevirtual 48, 3) := by decide +kernel
theorem d_Tree_move_8 : decode m_Tree_move.2.1 8 = .ok (.istore 4, 2) := by decide +kernel
theorem d_Tree_move_10 : decode m_Tree_move.2.1 10 = .ok (.aload_n 1, 1) := by decide +kernel
theorem d_Tree_move_11 : decode m_Tree_move.2.1 11 = .ok (.getfield 26, 3) := by decide +kernel
theorem d_Tree_move_14 : decode m_Tree_move.2.1 14 = .ok (.iload_n 2, 1) := by decide +kernel
theorem d_Tree_move_15 : decode m_Tree_move.2.1 15 = .ok (.invokevirtual 48, 3) := by decide +kernel
theorem d_Tree_move_18 : decode m_Tree_move.2.1 18 = .ok (.istore 5, 2) := by decide +kernel
theorem d_Tree_move_20 : decode m_Tree_move.2.1 20 = .ok (.aload_n 0, 1) := by decide +kernel
theorem d_Tree_move_21 : decode m_Tree_move.2.1 21 = .ok (.getfield 14, 3) := by decide +kernel
theorem d_Tree_move_24 : decode m_Tree_move.2.1 24 = .ok (.iload_n 2, 1) := by decide +kernel
theorem d_Tree_move_25 : decode m_Tree_move.2.1 25 = .ok (.iload_n 3, 1) := by decide +kernel
theorem d_Tree_move_26 : decode m_Tree_move.2.1 26 = .ok (.iadd, 1) := by decide +kernel
theorem d_Tree_move_27 : decode m_Tree_move.2.1 27 = .ok (.aload_n 1, 1) := by decide +kernel
theorem d_Tree_move_28 : decode m_Tree_move.2.1 28 = .ok (.getfield 14, 3) := by decide +kernel
theorem d_Tree_move_31 : decode m_Tree_move.2.1 31 = .ok (.iload_n 2, 1) := by decide +kernel
theorem d_Tree_move_32 : decode m_Tree_move.2.1 32 = .ok (.invokevirtual 48, 3) := by decide +kernel
theorem d_Tree_move_35 : decode m_Tree_move.2.1 35 = .ok (.invokevirtual 62, 3) := by decide +kernel
theorem d_Tree_move_38 : decode m_Tree_move.2.1 38 = .ok (.aload_n 0, 1) := by decide +kernel
theorem d_Tree_move_39 : decode m_Tree_move.2.1 39 = .ok (.getfield 20, 3) := by decide +kernel
theorem d_Tree_move_42 : decode m_Tree_move.2.1 42 = .ok (.iload_n 2, 1) := by decide +kernel
theorem d_Tree_move_43 : decode m_Tree_move.2.1 43 = .ok (.iload_n 3, 1) := by decide +kernel
theorem d_Tree_move_44 : decode m_Tree_move.2.1 44 = .ok (.iadd, 1) := by decide +kernel
theorem d_Tree_move_45 : decode m_Tree_move.2.1 45 = .ok (.aload_n 1, 1) := by decide +kernel
theorem d_Tree_move_46 : decode m_Tree_move.2.1 46 = .ok (.getfield 20, 3) := by decide +kernel
theorem d_Tree_move_49 : decode m_Tree_move.2.1 49 = .ok (.iload_n 2, 1) := by decide +kernel
theorem d_Tree_move_50 : decode m_Tree_move.2.1 50 = .ok (.invokevirtual 48, 3) := by decide +kernel
theorem d_Tree_move_53 : decode m_Tree_move.2.1 53 = .ok (.invokevirtual 62, 3) := by decide +kernel
theorem d_Tree_move_56 : decode m_Tree_move.2.1 56 = .ok (.aload_n 0, 1) := by decide +kernel
theorem d_Tree_move_57 : decode m_Tree_move.2.1 57 = .ok (.getfield 23, 3) := by decide +kernel
theorem d_Tree_move_60 : decode m_Tree_move.2.1 60 = .ok (.iload_n 2, 1) := by decide +kernel
theorem d_Tree_move_61 : decode m_Tree_move.2.1 61 = .ok (.iload_n 3, 1) := by decide +kernel
theorem d_Tree_move_62 : decode m_Tree_move.2.1 62 = .ok (.iadd, 1) := by decide +kernel
theorem d_Tree_move_63 : decode m_Tree_move.2.1 63 = .ok (.iload 4, 2) := by decide +kernel
theorem d_Tree_move_65 : decode m_Tree_move.2.1 65 = .ok (.bipush (-9), 2) := by decide +kernel
theorem d_Tree_move_67 : decode m_Tree_move.2.1 67 = .ok (.if_icmp .ne 8, 3) := by decide +kernel
theorem d_Tree_move_70 : decode m_Tree_move.2.1 70 = .ok (.bipush (-9), 2) := by decide +kernel
theorem d_Tree_move_72 : decode m_Tree_move.2.1 72 = .ok (.goto 7, 3) := by decide +kernel
theorem d_Tree_move_75 : decode m_Tree_move.2.1 75 = .ok (.iload 4, 2) := by decide +kernel
theorem d_Tree_move_77 : decode m_Tree_move.2.1 77 = .ok (.iload_n 3, 1) := by decide +kernel
theorem d_Tree_move_78 : decode m_Tree_move.2.1 78 = .ok (.iadd, 1) := by decide +kernel
theorem d_Tree_move_79 : decode m_Tree_move.2.1 79 = .ok (.invokevirtual 62, 3) := by decide +kernel
theorem d_Tree_move_82 : decode m_Tree_move.2.1 82 = .ok (.aload_n 0, 1) := by decide +kernel
theorem d_Tree_move_83 : decode m_Tree_move.2.1 83 = .ok (.getfield 26, 3) := by decide +kernel
theorem d_Tree_move_86 : decode m_Tree_move.2.1 86 = .ok (.iload_n 2, 1) := by decide +kernel
theorem d_Tree_move_87 : decode m_Tree_move.2.1 87 = .ok (.iload_n 3, 1) := by decide +kernel
theorem d_Tree_move_88 : decode m_Tree_move.2.1 88 = .ok (.iadd, 1) := by decide +kernel
theorem d_Tree_move_89 : decode m_Tree_move.2.1 89 = .ok (.iload 5, 2) := by decide +kernel
theorem d_Tree_move_91 : decode m_Tree_move.2.1 91 = .ok (.bipush (-9), 2) := by decide +kernel
theorem d_Tree_move_93 : decode m_Tree_move.2.1 93 = .ok (.if_icmp .ne 8, 3) := by decide +kernel
theorem d_Tree_move_96 : decode m_Tree_move.2.1 96 = .ok (.bipush (-9), 2) := by decide +kernel
theorem d_Tree_move_98 : decode m_Tree_move.2.1 98 = .ok (.goto 7, 3) := by decide +kernel
theorem d_Tree_move_101 : decode m_Tree_move.2.1 101 = .ok (.iload 5, 2) := by decide +kernel
theorem d_Tree_move_103 : decode m_Tree_move.2.1 103 = .ok (.iload_n 3, 1) := by decide +kernel
theorem d_Tree_move_104 : decode m_Tree_move.2.1 104 = .ok (.iadd, 1) := by decide +kernel
theorem d_Tree_move_105 : decode m_Tree_move.2.1 105 = .ok (.invokevirtual 62, 3) := by decide +kernel
theorem d_Tree_move_108 : decode m_Tree_move.2.1 108 = .ok (.return_, 1) := by decide +kernel
theorem d_Image_init_0 : decode m_Image_init.2.1 0 = .ok (.aload_n 0, 1) := by decide +kernel
theorem d_Image_init_1 : decode m_Image_init.2.1 1 = .ok (.invokespecial 3, 3) := by decide +kernel
theorem d_Image_init_4 : decode m_Image_init.2.1 4 = .ok (.aload_n 0, 1) := by decide +kernel
theorem d_Image_init_5 : decode m_Image_init.2.1 5 = .ok (.new 9, 3) := by decide +kernel
theorem d_Image_init_8 : decode m_Image_init.2.1 8 = .ok (.dup, 1) := by decide +kernel
theorem d_Image_init_9 : decode m_Image_init.2.1 9 = .ok (.invokespecial 11, 3) := by decide +kernel
theorem d_Image_init_12 : decode m_Image_init.2.1 12 = .ok (.putfield 12, 3) := by decide +kernel
theorem d_Image_init_15 : decode m_Image_init.2.1 15 = .ok (.aload_n 0, 1) := by decide +kernel
theorem d_Image_init_16 : decode m_Image_init.2.1 16 = .ok (.new 18, 3) := by decide +kernel
theorem d_Image_init_19 : decode m_Image_init.2.1 19 = .ok (.dup, 1) := by decide +kernel
theorem d_Image_init_20 : decode m_Image_init.2.1 20 = .ok (.bipush 8, 2) := by decide +kernel
theorem d_Image_init_22 : decode m_Image_init.2.1 22 = .ok (.invokespecial 20, 3) := by decide +kernel
theorem d_Image_init_25 : decode m_Image_init.2.1 25 = .ok (.putfield 23, 3) := by decide +kernel
theorem d_Image_init_28 : decode m_Image_init.2.1 28 = .ok (.aload_n 0, 1) := by decide +kernel
theorem d_Image_init_29 : decode m_Image_init.2.1 29 = .ok (.new 18, 3) := by decide +kernel
theorem d_Image_init_32 : decode m_Image_init.2.1 32 = .ok (.dup, 1) := by decide +kernel
theorem d_Image_init_33 : decode m_Image_init.2.1 33 = .ok (.iconst 5, 1) := by decide +kernel
theorem d_Image_init_34 : decode m_Image_init.2.1 34 = .ok (.invokespecial 20, 3) := by decide +kernel
theorem d_Image_init_37 : decode m_Image_init.2.1 37 = .ok (.putfield 27, 3) := by decide +kernel
theorem d_Image_init_40 : decode m_Image_init.2.1 40 = .ok (.return_, 1) := by decide +kernel
theorem d_Image_copy_0 : decode m_Image_copy.2.1 0 = .ok (.aload_n 0, 1) := by decide +kernel
theorem d_Image_copy_1 : decode m_Image_copy.2.1 1 = .ok (.getfield 12, 3) := by decide +kernel
theorem d_Image_copy_4 : decode m_Image_copy.2.1 4 = .ok (.aload_n 1, 1) := by decide +kernel
theorem d_Image_copy_5 : decode m_Image_copy.2.1 5 = .ok (.getfield 12, 3) := by decide +kernel
theorem d_Image_copy_8 : decode m_Image_copy.2.1 8 = .ok (.invokevirtual 30, 3) := by decide +kernel
theorem d_Image_copy_11 : decode m_Image_copy.2.1 11 = .ok (.aload_n 0, 1) := by decide +kernel
theorem d_Image_copy_12 : decode m_Image_copy.2.1 12 = .ok (.getfield 23, 3) := by decide +kernel
theorem d_Image_copy_15 : decode m_Image_copy.2.1 15 = .ok (.aload_n 1, 1) := by decide +kernel
theorem d_Image_copy_16 : decode m_Image_copy.2.1 16 = .ok (.getfield 23, 3) := by decide +kernel
theorem d_Image_copy_19 : decode m_Image_copy.2.1 19 = .ok (.invokevirtual 34, 3) := by decide +kernel
theorem d_Image_copy_22 : decode m_Image_copy.2.1 22 = .ok (.aload_n 0, 1) := by decide +kernel
theorem d_Image_copy_23 : decode m_Image_copy.2.1 23 = .ok (.getfield 27, 3) := by decide +kernel
theorem d_Image_copy_26 : decode m_Image_copy.2.1 26 = .ok (.aload_n 1, 1) := by decide +kernel
theorem d_Image_copy_27 : decode m_Image_copy.2.1 27 = .ok (.getfield 27, 3) := by decide +kernel
theorem d_Image_copy_30 : decode m_Image_copy.2.1 30 = .ok (.invokevirtual 34, 3) := by decide +kernel
theorem d_Image_copy_33 : decode m_Image_copy.2.1 33 = .ok (.return_, 1) := by decide +kernel
theorem d_Reader_init_0 : decode m_Reader_init.2.1 0 = .ok (.aload_n 0, 1) := by decide +kernel
theorem d_Reader_init_1 : decode m_Reader_init.2.1 1 = .ok (.invokespecial 3, 3) := by decide +kernel
theorem d_Reader_init_4 : decode m_Reader_init.2.1 4 = .ok (.aload_n 0, 1) := by decide +kernel
theorem d_Reader_init_5 : decode m_Reader_init.2.1 5 = .ok (.new 9, 3) := by decide +kernel
theorem d_Reader_init_8 : decode m_Reader_init.2.1 8 = .ok (.dup, 1) := by decide +kernel
theorem d_Reader_init_9 : decode m_Reader_init.2.1 9 = .ok (.bipush 60, 2) := by decide +kernel
theorem d_Reader_init_11 : decode m_Reader_init.2.1 11 = .ok (.invokespecial 11, 3) := by decide +kernel
theorem d_Reader_init_14 : decode m_Reader_init.2.1 14 = .ok (.putfield 14, 3) := by decide +kernel
theorem d_Reader_init_17 : decode m_Reader_init.2.1 17 = .ok (.aload_n 0, 1) := by decide +kernel
theorem d_Reader_init_18 : decode m_Reader_init.2.1 18 = .ok (.new 9, 3) := by decide +kernel
theorem d_Reader_init_21 : decode m_Reader_init.2.1 21 = .ok (.dup, 1) := by decide +kernel
theorem d_Reader_init_22 : decode m_Reader_init.2.1 22 = .ok (.bipush 60, 2) := by decide +kernel
theorem d_Reader_init_24 : decode m_Reader_init.2.1 24 = .ok (.invokespecial 11, 3) := by decide +kernel
theorem d_Reader_init_27 : decode m_Reader_init.2.1 27 = .ok (.putfield 20, 3) := by decide +kernel
theorem d_Reader_init_30 : decode m_Reader_init.2.1 30 = .ok (.aload_n 0, 1) := by decide +kernel
theorem d_Reader_init_31 : decode m_Reader_init.2.1 31 = .ok (.new 9, 3) := by decide +kernel
theorem d_Reader_init_34 : decode m_Reader_init.2.1 34 = .ok (.dup, 1) := by decide +kernel
theorem d_Reader_init_35 : decode m_Reader_init.2.1 35 = .ok (.bipush 31, 2) := by decide +kernel
theorem d_Reader_init_37 : decode m_Reader_init.2.1 37 = .ok (.invokespecial 11, 3) := by decide +kernel
theorem d_Reader_init_40 : decode m_Reader_init.2.1 40 = .ok (.putfield 23, 3) := by decide +kernel
theorem d_Reader_init_43 : decode m_Reader_init.2.1 43 = .ok (.return_, 1) := by decide +kernel
theorem d_Reader_read_0 : decode m_Reader_read.2.1 0 = .ok (.aload_n 0, 1) := by decide +kernel
theorem d_Reader_read_1 : decode m_Reader_read.2.1 1 = .ok (.iconst 0, 1) := by decide +kernel
theorem d_Reader_read_2 : decode m_Reader_read.2.1 2 = .ok (.putfield 26, 3) := by decide +kernel
theorem d_Reader_read_5 : decode m_Reader_read.2.1 5 = .ok (.aload_n 0, 1) := by decide +kernel
theorem d_Reader_read_6 : decode m_Reader_read.2.1 6 = .ok (.iconst 0, 1) := by decide +kernel
theorem d_Reader_read_7 : decode m_Reader_read.2.1 7 = .ok (.putfield 30, 3) := by decide +kernel
theorem d_Reader_read_10 : decode m_Reader_read.2.1 10 = .ok (.aload_n 0, 1) := by decide +kernel
theorem d_Reader_read_11 : decode m_Reader_read.2.1 11 = .ok (.iconst 0, 1) := by decide +kernel
theorem d_Reader_read_12 : decode m_Reader_read.2.1 12 = .ok (.putfield 33, 3) := by decide +kernel
theorem d_Reader_read_15 : decode m_Reader_read.2.1 15 = .ok (.aload_n 0, 1) := by decide +kernel
theorem d_Reader_read_16 : decode m_Reader_read.2.1 16 = .ok (.bipush (-9), 2) := by decide +kernel
theorem d_Reader_read_18 : decode m_Reader_read.2.1 18 = .ok (.putfield 36, 3) := by decide +kernel
theorem d_Reader_read_21 : decode m_Reader_read.2.1 21 = .ok (.aload_n 0, 1) := by decide +kernel
theorem d_Reader_read_22 : decode m_Reader_read.2.1 22 = .ok (.iconst 1, 1) := by decide +kernel
theorem d_Reader_read_23 : decode m_Reader_read.2.1 23 = .ok (.putfield 39, 3) := by decide +kernel
theorem d_Reader_read_26 : decode m_Reader_read.2.1 26 = .ok (.aload_n 0, 1) := by decide +kernel
theorem d_Reader_read_27 : decode m_Reader_read.2.1 27 = .ok (.iconst 0, 1) := by decide +kernel
theorem d_Reader_read_28 : decode m_Reader_read.2.1 28 = .ok (.putfield 43, 3) := by decide +kernel
theorem d_Reader_read_31 : decode m_Reader_read.2.1 31 = .ok (.aload_n 3, 1) := by decide +kernel
theorem d_Reader_read_32 : decode m_Reader_read.2.1 32 = .ok (.invokevirtual 46, 3) := by decide +kernel
theorem d_Reader_read_35 : decode m_Reader_read.2.1 35 = .ok (.iconst 0, 1) := by decide +kernel
theorem d_Reader_read_36 : decode m_Reader_read.2.1 36 = .ok (.istore 4, 2) := by decide +kernel
theorem d_Reader_read_38 : decode m_Reader_read.2.1 38 = .ok (.iload 4, 2) := by decide +kernel
theorem d_Reader_read_40 : decode m_Reader_read.2.1 40 = .ok (.iload_n 2, 1) := by decide +kernel
theorem d_Reader_read_41 : decode m_Reader_read.2.1 41 = .ok (.if_icmp .gt 93, 3) := by decide +kernel
theorem d_Reader_read_44 : decode m_Reader_read.2.1 44 = .ok (.aload_n 0, 1) := by decide +kernel
theorem d_Reader_read_45 : decode m_Reader_read.2.1 45 = .ok (.getfield 43, 3) := by decide +kernel
theorem d_Reader_read_48 : decode m_Reader_read.2.1 48 = .ok (.ifCond .ne 86, 3) := by decide +kernel
theorem d_Reader_read_51 : decode m_Reader_read.2.1 51 = .ok (.aload_n 0, 1) := by decide +kernel
theorem d_Reader_read_52 : decode m_Reader_read.2.1 52 = .ok (.getfield 36, 3) := by decide +kernel
theorem d_Reader_read_55 : decode m_Reader_read.2.1 55 = .ok (.bipush (-9), 2) := by decide +kernel
theorem d_Reader_read_57 : decode m_Reader_read.2.1 57 = .ok (.if_icmp .ne 77, 3) := by decide +kernel
theorem d_Reader_read_60 : decode m_Reader_read.2.1 60 = .ok (.aload_n 0, 1) := by decide +kernel
theorem d_Reader_read_61 : decode m_Reader_read.2.1 61 = .ok (.getfield 33, 3) := by decide +kernel
theorem d_Reader_read_64 : decode m_Reader_read.2.1 64 = .ok (.iload_n 2, 1) := by decide +kernel
theorem d_Reader_read_65 : decode m_Reader_read.2.1 65 = .ok (.if_icmp .ge 14, 3) := by decide +kernel
theorem d_Reader_read_68 : decode m_Reader_read.2.1 68 = .ok (.aload_n 1, 1) := by decide +kernel
theorem d_Reader_read_69 : decode m_Reader_read.2.1 69 = .ok (.aload_n 0, 1) := by decide +kernel
theorem d_Reader_read_70 : decode m_Reader_read.2.1 70 = .ok (.getfield 33, 3) := by decide +kernel
theorem d_Reader_read_73 : decode m_Reader_read.2.1 73 = .ok (.invokevirtual 51, 3) := by decide +kernel
theorem d_Reader_read_76 : decode m_Reader_read.2.1 76 = .ok (.goto 4, 3) := by decide +kernel
theorem d_Reader_read_79 : decode m_Reader_read.2.1 79 = .ok (.iconst (-1), 1) := by decide +kernel
theorem d_Reader_read_80 : decode m_Reader_read.2.1 80 = .ok (.istore 5, 2) := by decide +kernel
theorem d_Reader_read_82 : decode m_Reader_read.2.1 82 = .ok (.iload 5, 2) := by decide +kernel
theorem d_Reader_read_84 : decode m_Reader_read.2.1 84 = .ok (.bipush 32, 2) := by decide +kernel
theorem d_Reader_read_86 : decode m_Reader_read.2.1 86 = .ok (.if_icmp .ne 16, 3) := by decide +kernel
theorem d_Reader_read_89 : decode m_Reader_read.2.1 89 = .ok (.aload_n 0, 1) := by decide +kernel
theorem d_Reader_read_90 : decode m_Reader_read.2.1 90 = .ok (.dup, 1) := by decide +kernel
theorem d_Reader_read_91 : decode m_Reader_read.2.1 91 = .ok (.getfield 33, 3) := by decide +kernel
theorem d_Reader_read_94 : decode m_Reader_read.2.1 94 = .ok (.iconst 1, 1) := by decide +kernel
theorem d_Reader_read_95 : decode m_Reader_read.2.1 95 = .ok (.iadd, 1) := by decide +kernel
theorem d_Reader_read_96 : decode m_Reader_read.2.1 96 = .ok (.putfield 33, 3) := by decide +kernel
theorem d_Reader_read_99 : decode m_Reader_read.2.1 99 = .ok (.goto 29, 3) := by decide +kernel
theorem d_Reader_read_102 : decode m_Reader_read.2.1 102 = .ok (.aload_n 0, 1) := by decide +kernel
theorem d_Reader_read_103 : decode m_Reader_read.2.1 103 = .ok (.getfield 39, 3) := by decide +kernel
theorem d_Reader_read_106 : decode m_Reader_read.2.1 106 = .ok (.ifCond .eq 15, 3) := by decide +kernel
theorem d_Reader_read_109 : decode m_Reader_read.2.1 109 = .ok (.aload_n 0, 1) := by decide +kernel
theorem d_Reader_read_110 : decode m_Reader_read.2.1 110 = .ok (.iload 5, 2) := by decide +kernel
theorem d_Reader_read_112 : decode m_Reader_read.2.1 112 = .ok (.aload_n 1, 1) := by decide +kernel
theorem d_Reader_read_113 : decode m_Reader_read.2.1 113 = .ok (.iload_n 2, 1) := by decide +kernel
theorem d_Reader_read_114 : decode m_Reader_read.2.1 114 = .ok (.aload_n 3, 1) := by decide +kernel
theorem d_Reader_read_115 : decode m_Reader_read.2.1 115 = .ok (.invokevirtual 55, 3) := by decide +kernel
theorem d_Reader_read_118 : decode m_Reader_read.2.1 118 = .ok (.goto 10, 3) := by decide +kernel
theorem d_Reader_read_121 : decode m_Reader_read.2.1 121 = .ok (.aload_n 0, 1) := by decide +kernel
theorem d_Reader_read_122 : decode m_Reader_read.2.1 122 = .ok (.iload 5, 2) := by decide +kernel
theorem d_Reader_read_124 : decode m_Reader_read.2.1 124 = .ok (.aload_n 3, 1) := by decide +kernel
theorem d_Reader_read_125 : decode m_Reader_read.2.1 125 = .ok (.invokevirtual 59, 3) := by decide +kernel
theorem d_Reader_read_128 : decode m_Reader_read.2.1 128 = .ok (.iinc 4 1, 3) := by decide +kernel
theorem d_Reader_read_131 : decode m_Reader_read.2.1 131 = .ok (.goto (-93), 3) := by decide +kernel
theorem d_Reader_read_134 : decode m_Reader_read.2.1 134 = .ok (.aload_n 0, 1) := by decide +kernel
theorem d_Reader_read_135 : decode m_Reader_read.2.1 135 = .ok (.getfield 36, 3) := by decide +kernel
theorem d_Reader_read_138 : decode m_Reader_read.2.1 138 = .ok (.ireturn, 1) := by decide +kernel
theorem d_Reader_takePart_0 : decode m_Reader_takePart.2.1 0 = .ok (.aload_n 0, 1) := by decide +kernel
theorem d_Reader_takePart_1 : decode m_Reader_takePart.2.1 1 = .ok (.aload_n 2, 1) := by decide +kernel
theorem d_Reader_takePart_2 : decode m_Reader_takePart.2.1 2 = .ok (.iload_n 3, 1) := by decide +kernel
theorem d_Reader_takePart_3 : decode m_Reader_takePart.2.1 3 = .ok (.invokevirtual 63, 3) := by decide +kernel
theorem d_Reader_takePart_6 : decode m_Reader_takePart.2.1 6 = .ok (.istore 5, 2) := by decide +kernel
theorem d_Reader_takePart_8 : decode m_Reader_takePart.2.1 8 = .ok (.iload_n 1, 1) := by decide +kernel
theorem d_Reader_takePart_9 : decode m_Reader_takePart.2.1 9 = .ok (.bipush 40, 2) := by decide +kernel
theorem d_Reader_takePart_11 : decode m_Reader_takePart.2.1 11 = .ok (.if_icmp .eq 9, 3) := by decide +kernel
theorem d_Reader_takePart_14 : decode m_Reader_takePart.2.1 14 = .ok (.iload_n 1, 1) := by decide +kernel
theorem d_Reader_takePart_15 : decode m_Reader_takePart.2.1 15 = .ok (.bipush 126, 2) := by decide +kernel
theorem d_Reader_takePart_17 : decode m_Reader_takePart.2.1 17 = .ok (.if_icmp .ne 11, 3) := by decide +kernel
theorem d_Reader_takePart_20 : decode m_Reader_takePart.2.1 20 = .ok (.aload_n 0, 1) := by decide +kernel
theorem d_Reader_takePart_21 : decode m_Reader_takePart.2.1 21 = .ok (.iload_n 1, 1) := by decide +kernel
theorem d_Reader_takePart_22 : decode m_Reader_takePart.2.1 22 = .ok (.invokevirtual 67, 3) := by decide +kernel
theorem d_Reader_takePart_25 : decode m_Reader_takePart.2.1 25 = .ok (.goto 105, 3) := by decide +kernel
theorem d_Reader_takePart_28 : decode m_Reader_takePart.2.1 28 = .ok (.iload_n 1, 1) := by decide +kernel
theorem d_Reader_takePart_29 : decode m_Reader_takePart.2.1 29 = .ok (.bipush 97, 2) := by decide +kernel
theorem d_Reader_takePart_31 : decode m_Reader_takePart.2.1 31 = .ok (.if_icmp .lt 24, 3) := by decide +kernel
theorem d_Reader_takePart_34 : decode m_Reader_takePart.2.1 34 = .ok (.iload_n 1, 1) := by decide +kernel
theorem d_Reader_takePart_35 : decode m_Reader_takePart.2.1 35 = .ok (.bipush 104, 2) := by decide +kernel
theorem d_Reader_takePart_37 : decode m_Reader_takePart.2.1 37 = .ok (.if_icmp .gt 18, 3) := by decide +kernel
theorem d_Reader_takePart_40 : decode m_Reader_takePart.2.1 40 = .ok (.aload_n 0, 1) := by decide +kernel
theorem d_Reader_takePart_41 : decode m_Reader_takePart.2.1 41 = .ok (.aload 4, 2) := by decide +kernel
theorem d_Reader_takePart_43 : decode m_Reader_takePart.2.1 43 = .ok (.iload_n 1, 1) := by decide +kernel
theorem d_Reader_takePart_44 : decode m_Reader_takePart.2.1 44 = .ok (.iload_n 1, 1) := by decide +kernel
theorem d_Reader_takePart_45 : decode m_Reader_takePart.2.1 45 = .ok (.bipush 97, 2) := by decide +kernel
theorem d_Reader_takePart_47 : decode m_Reader_takePart.2.1 47 = .ok (.isub, 1) := by decide +kernel
theorem d_Reader_takePart_48 : decode m_Reader_takePart.2.1 48 = .ok (.iconst 1, 1) := by decide +kernel
theorem d_Reader_takePart_49 : decode m_Reader_takePart.2.1 49 = .ok (.invokevirtual 70, 3) := by decide +kernel
theorem d_Reader_takePart_52 : decode m_Reader_takePart.2.1 52 = .ok (.goto 78, 3) := by decide +kernel
theorem d_Reader_takePart_55 : decode m_Reader_takePart.2.1 55 = .ok (.iload 5, 2) := by decide +kernel
theorem d_Reader_takePart_57 : decode m_Reader_takePart.2.1 57 = .ok (.iconst 1, 1) := by decide +kernel
theorem d_Reader_takePart_58 : decode m_Reader_takePart.2.1 58 = .ok (.if_icmp .ne 19, 3) := by decide +kernel
theorem d_Reader_takePart_61 : decode m_Reader_takePart.2.1 61 = .ok (.aload_n 0, 1) := by decide +kernel
theorem d_Reader_takePart_62 : decode m_Reader_takePart.2.1 62 = .ok (.aload 4, 2) := by decide +kernel
theorem d_Reader_takePart_64 : decode m_Reader_takePart.2.1 64 = .ok (.bipush 48, 2) := by decide +kernel
theorem d_Reader_takePart_66 : decode m_Reader_takePart.2.1 66 = .ok (.iload_n 1, 1) := by decide +kernel
theorem d_Reader_takePart_67 : decode m_Reader_takePart.2.1 67 = .ok (.bipush 48, 2) := by decide +kernel
theorem d_Reader_takePart_69 : decode m_Reader_takePart.2.1 69 = .ok (.isub, 1) := by decide +kernel
theorem d_Reader_takePart_70 : decode m_Reader_takePart.2.1 70 = .ok (.iconst 1, 1) := by decide +kernel
theorem d_Reader_takePart_71 : decode m_Reader_takePart.2.1 71 = .ok (.invokevirtual 70, 3) := by decide +kernel
theorem d_Reader_takePart_74 : decode m_Reader_takePart.2.1 74 = .ok (.goto 56, 3) := by decide +kernel
theorem d_Reader_takePart_77 : decode m_Reader_takePart.2.1 77 = .ok (.iload 5, 2) := by decide +kernel
theorem d_Reader_takePart_79 : decode m_Reader_takePart.2.1 79 = .ok (.iconst 2, 1) := by decide +kernel
theorem d_Reader_takePart_80 : decode m_Reader_takePart.2.1 80 = .ok (.if_icmp .ne 42, 3) := by decide +kernel
theorem d_Reader_takePart_83 : decode m_Reader_takePart.2.1 83 = .ok (.iload_n 1, 1) := by decide +kernel
theorem d_Reader_takePart_84 : decode m_Reader_takePart.2.1 84 = .ok (.bipush 48, 2) := by decide +kernel
theorem d_Reader_takePart_86 : decode m_Reader_takePart.2.1 86 = .ok (.if_icmp .eq 36, 3) := by decide +kernel
theorem d_Reader_takePart_89 : decode m_Reader_takePart.2.1 89 = .ok (.aload_n 0, 1) := by decide +kernel
theorem d_Reader_takePart_90 : decode m_Reader_takePart.2.1 90 = .ok (.aload 4, 2) := by decide +kernel
theorem d_Reader_takePart_92 : decode m_Reader_takePart.2.1 92 = .ok (.bipush 48, 2) := by decide +kernel
theorem d_Reader_takePart_94 : decode m_Reader_takePart.2.1 94 = .ok (.iload_n 1, 1) := by decide +kernel
theorem d_Reader_takePart_95 : decode m_Reader_takePart.2.1 95 = .ok (.bipush 48, 2) := by decide +kernel
theorem d_Reader_takePart_97 : decode m_Reader_takePart.2.1 97 = .ok (.isub, 1) := by decide +kernel
theorem d_Reader_takePart_98 : decode m_Reader_takePart.2.1 98 = .ok (.bipush 10, 2) := by decide +kernel
theorem d_Reader_takePart_100 : decode m_Reader_takePart.2.1 100 = .ok (.imul, 1) := by decide +kernel
theorem d_Reader_takePart_101 : decode m_Reader_takePart.2.1 101 = .ok (.aload_n 2, 1) := by decide +kernel
theorem d_Reader_takePart_102 : decode m_Reader_takePart.2.1 102 = .ok (.aload_n 0, 1) := by decide +kernel
theorem d_Reader_takePart_103 : decode m_Reader_takePart.2.1 103 = .ok (.getfield 33, 3) := by decide +kernel
theorem d_Reader_takePart_106 : decode m_Reader_takePart.2.1 106 = .ok (.iconst 1, 1) := by decide +kernel
theorem d_Reader_takePart_107 : decode m_Reader_takePart.2.1 107 = .ok (.iadd, 1) := by decide +kernel
theorem d_Reader_takePart_108 : decode m_Reader_takePart.2.1 108 = .ok (.invokevirtual 51, 3) := by decide +kernel
theorem d_Reader_takePart_111 : decode m_Reader_takePart.2.1 111 = .ok (.iadd, 1) := by decide +kernel
theorem d_Reader_takePart_112 : decode m_Reader_takePart.2.1 112 = .ok (.bipush 48, 2) := by decide +kernel
theorem d_Reader_takePart_114 : decode m_Reader_takePart.2.1 114 = .ok (.isub, 1) := by decide +kernel
theorem d_Reader_takePart_115 : decode m_Reader_takePart.2.1 115 = .ok (.iconst 2, 1) := by decide +kernel
theorem d_Reader_takePart_116 : decode m_Reader_takePart.2.1 116 = .ok (.invokevirtual 70, 3) := by decide +kernel
theorem d_Reader_takePart_119 : decode m_Reader_takePart.2.1 119 = .ok (.goto 11, 3) := by decide +kernel
theorem d_Reader_takePart_122 : decode m_Reader_takePart.2.1 122 = .ok (.aload_n 0, 1) := by decide +kernel
theorem d_Reader_takePart_123 : decode m_Reader_takePart.2.1 123 = .ok (.aload_n 0, 1) := by decide +kernel
theorem d_Reader_takePart_124 : decode m_Reader_takePart.2.1 124 = .ok (.getfield 33, 3) := by decide +kernel
theorem d_Reader_takePart_127 : decode m_Reader_takePart.2.1 127 = .ok (.putfield 36, 3) := by decide +kernel
theorem d_Reader_takePart_130 : decode m_Reader_takePart.2.1 130 = .ok (.return_, 1) := by decide +kernel
theorem d_Reader_digitsHere_0 : decode m_Reader_digitsHere.2.1 0 = .ok (.iconst 0, 1) := by decide +kernel
theorem d_Reader_digitsHere_1 : decode m_Reader_digitsHere.2.1 1 = .ok (.istore_n 3, 1) := by decide +kernel
theorem d_Reader_digitsHere_2 : decode m_Reader_digitsHere.2.1 2 = .ok (.aload_n 0, 1) := by decide +kernel
theorem d_Reader_digitsHere_3 : decode m_Reader_digitsHere.2.1 3 = .ok (.getfield 33, 3) := by decide +kernel
theorem d_Reader_digitsHere_6 : decode m_Reader_digitsHere.2.1 6 = .ok (.iload_n 3, 1) := by decide +kernel
theorem d_Reader_digitsHere_7 : decode m_Reader_digitsHere.2.1 7 = .ok (.iadd, 1) := by decide +kernel
theorem d_Reader_digitsHere_8 : decode m_Reader_digitsHere.2.1 8 = .ok (.iload_n 2, 1) := by decide +kernel
theorem d_Reader_digitsHere_9 : decode m_Reader_digitsHere.2.1 9 = .ok (.if_icmp .ge 25, 3) := by decide +kernel
theorem d_Reader_digitsHere_12 : decode m_Reader_digitsHere.2.1 12 = .ok (.aload_n 1, 1) := by decide +kernel
theorem d_Reader_digitsHere_13 : decode m_Reader_digitsHere.2.1 13 = .ok (.aload_n 0, 1) := by decide +kernel
theorem d_Reader_digitsHere_14 : decode m_Reader_digitsHere.2.1 14 = .ok (.getfield 33, 3) := by decide +kernel
theorem d_Reader_digitsHere_17 : decode m_Reader_digitsHere.2.1 17 = .ok (.iload_n 3, 1) := by decide +kernel
theorem d_Reader_digitsHere_18 : decode m_Reader_digitsHere.2.1 18 = .ok (.iadd, 1) := by decide +kernel
theorem d_Reader_digitsHere_19 : decode m_Reader_digitsHere.2.1 19 = .ok (.invokevirtual 51, 3) := by decide +kernel
theorem d_Reader_digitsHere_22 : decode m_Reader_digitsHere.2.1 22 = .ok (.invokestatic 74, 3) := by decide +kernel
theorem d_Reader_digitsHere_25 : decode m_Reader_digitsHere.2.1 25 = .ok (.ifCond .eq 9, 3) := by decide +kernel
theorem d_Reader_digitsHere_28 : decode m_Reader_digitsHere.2.1 28 = .ok (.iinc 3 1, 3) := by decide +kernel
theorem d_Reader_digitsHere_31 : decode m_Reader_digitsHere.2.1 31 = .ok (.goto (-29), 3) := by decide +kernel
theorem d_Reader_digitsHere_34 : decode m_Reader_digitsHere.2.1 34 = .ok (.iload_n 3, 1) := by decide +kernel
theorem d_Reader_digitsHere_35 : decode m_Reader_digitsHere.2.1 35 = .ok (.ireturn, 1) := by decide +kernel
theorem d_Reader_isDigit_0 : decode m_Reader_isDigit.2.1 0 = .ok (.iload_n 0, 1) := by decide +kernel
theorem d_Reader_isDigit_1 : decode m_Reader_isDigit.2.1 1 = .ok (.bipush 48, 2) := by decide +kernel
theorem d_Reader_isDigit_3 : decode m_Reader_isDigit.2.1 3 = .ok (.if_icmp .lt 13, 3) := by decide +kernel
theorem d_Reader_isDigit_6 : decode m_Reader_isDigit.2.1 6 = .ok (.iload_n 0, 1) := by decide +kernel
theorem d_Reader_isDigit_7 : decode m_Reader_isDigit.2.1 7 = .ok (.bipush 57, 2) := by decide +kernel
theorem d_Reader_isDigit_9 : decode m_Reader_isDigit.2.1 9 = .ok (.if_icmp .gt 7, 3) := by decide +kernel
theorem d_Reader_isDigit_12 : decode m_Reader_isDigit.2.1 12 = .ok (.iconst 1, 1) := by decide +kernel
theorem d_Reader_isDigit_13 : decode m_Reader_isDigit.2.1 13 = .ok (.goto 4, 3) := by decide +kernel
theorem d_Reader_isDigit_16 : decode m_Reader_isDigit.2.1 16 = .ok (.iconst 0, 1) := by decide +kernel
