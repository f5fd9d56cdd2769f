theorem dT_zOf_0 : decode (Mc mT_zOf) 0 = .ok (.iload_n 0, 1) := by decide +kernel
theorem dT_zOf_1 : decode (Mc mT_zOf) 1 = .ok (.bipush 16, 2) := by decide +kernel
theorem dT_zOf_3 : decode (Mc mT_zOf) 3 = .ok (.idiv, 1) := by decide +kernel
theorem dT_zOf_4 : decode (Mc mT_zOf) 4 = .ok (.bipush (-4), 2) := by decide +kernel
theorem dT_zOf_6 : decode (Mc mT_zOf) 6 = .ok (.iadd, 1) := by decide +kernel
theorem dT_zOf_7 : decode (Mc mT_zOf) 7 = .ok (.ireturn, 1) := by decide +kernel
theorem dT_rOf_0 : decode (Mc mT_rOf) 0 = .ok (.iload_n 0, 1) := by decide +kernel
theorem dT_rOf_1 : decode (Mc mT_rOf) 1 = .ok (.bipush 16, 2) := by decide +kernel
theorem dT_rOf_3 : decode (Mc mT_rOf) 3 = .ok (.irem, 1) := by decide +kernel
theorem dT_rOf_4 : decode (Mc mT_rOf) 4 = .ok (.ireturn, 1) := by decide +kernel
theorem dT_positionOf_0 : decode (Mc mT_positionOf) 0 = .ok (.iload_n 0, 1) := by decide +kernel
theorem dT_positionOf_1 : decode (Mc mT_positionOf) 1 = .ok (.bipush (-4), 2) := by decide +kernel
theorem dT_positionOf_3 : decode (Mc mT_positionOf) 3 = .ok (.isub, 1) := by decide +kernel
theorem dT_positionOf_4 : decode (Mc mT_positionOf) 4 = .ok (.bipush 16, 2) := by decide +kernel
theorem dT_positionOf_6 : decode (Mc mT_positionOf) 6 = .ok (.imul, 1) := by decide +kernel
theorem dT_positionOf_7 : decode (Mc mT_positionOf) 7 = .ok (.iload_n 1, 1) := by decide +kernel
theorem dT_positionOf_8 : decode (Mc mT_positionOf) 8 = .ok (.iadd, 1) := by decide +kernel
theorem dT_positionOf_9 : decode (Mc mT_positionOf) 9 = .ok (.ireturn, 1) := by decide +kernel
theorem dW_isFound_0 : decode (Mc mW_isFound) 0 = .ok (.aload_n 0, 1) := by decide +kernel
theorem dW_isFound_1 : decode (Mc mW_isFound) 1 = .ok (.getfield 15, 3) := by decide +kernel
theorem dW_isFound_4 : decode (Mc mW_isFound) 4 = .ok (.iload_n 1, 1) := by decide +kernel
theorem dW_isFound_5 : decode (Mc mW_isFound) 5 = .ok (.iaload, 1) := by decide +kernel
theorem dW_isFound_6 : decode (Mc mW_isFound) 6 = .ok (.iconst (-1), 1) := by decide +kernel
theorem dW_isFound_7 : decode (Mc mW_isFound) 7 = .ok (.if_icmp .eq 7, 3) := by decide +kernel
theorem dW_isFound_10 : decode (Mc mW_isFound) 10 = .ok (.iconst 1, 1) := by decide +kernel
theorem dW_isFound_11 : decode (Mc mW_isFound) 11 = .ok (.goto 4, 3) := by decide +kernel
theorem dW_isFound_14 : decode (Mc mW_isFound) 14 = .ok (.iconst 0, 1) := by decide +kernel
theorem dW_isFound_15 : decode (Mc mW_isFound) 15 = .ok (.ireturn, 1) := by decide +kernel
theorem dI_coversWaste_0 : decode (Mc mI_coversWaste) 0 = .ok (.iconst 0, 1) := by decide +kernel
theorem dI_coversWaste_1 : decode (Mc mI_coversWaste) 1 = .ok (.istore 4, 2) := by decide +kernel
theorem dI_coversWaste_3 : decode (Mc mI_coversWaste) 3 = .ok (.iload 4, 2) := by decide +kernel
theorem dI_coversWaste_5 : decode (Mc mI_coversWaste) 5 = .ok (.aload_n 0, 1) := by decide +kernel
theorem dI_coversWaste_6 : decode (Mc mI_coversWaste) 6 = .ok (.getfield 9, 3) := by decide +kernel
theorem dI_coversWaste_9 : decode (Mc mI_coversWaste) 9 = .ok (.if_icmp .ge 36, 3) := by decide +kernel
theorem dI_coversWaste_12 : decode (Mc mI_coversWaste) 12 = .ok (.aload_n 1, 1) := by decide +kernel
theorem dI_coversWaste_13 : decode (Mc mI_coversWaste) 13 = .ok (.iload_n 2, 1) := by decide +kernel
theorem dI_coversWaste_14 : decode (Mc mI_coversWaste) 14 = .ok (.aload_n 0, 1) := by decide +kernel
theorem dI_coversWaste_15 : decode (Mc mI_coversWaste) 15 = .ok (.getfield 15, 3) := by decide +kernel
theorem dI_coversWaste_18 : decode (Mc mI_coversWaste) 18 = .ok (.iload 4, 2) := by decide +kernel
theorem dI_coversWaste_20 : decode (Mc mI_coversWaste) 20 = .ok (.iaload, 1) := by decide +kernel
theorem dI_coversWaste_21 : decode (Mc mI_coversWaste) 21 = .ok (.iadd, 1) := by decide +kernel
theorem dI_coversWaste_22 : decode (Mc mI_coversWaste) 22 = .ok (.iload_n 3, 1) := by decide +kernel
theorem dI_coversWaste_23 : decode (Mc mI_coversWaste) 23 = .ok (.aload_n 0, 1) := by decide +kernel
theorem dI_coversWaste_24 : decode (Mc mI_coversWaste) 24 = .ok (.getfield 19, 3) := by decide +kernel
theorem dI_coversWaste_27 : decode (Mc mI_coversWaste) 27 = .ok (.iload 4, 2) := by decide +kernel
theorem dI_coversWaste_29 : decode (Mc mI_coversWaste) 29 = .ok (.iaload, 1) := by decide +kernel
theorem dI_coversWaste_30 : decode (Mc mI_coversWaste) 30 = .ok (.iadd, 1) := by decide +kernel
theorem dI_coversWaste_31 : decode (Mc mI_coversWaste) 31 = .ok (.invokevirtual 31, 3) := by decide +kernel
theorem dI_coversWaste_34 : decode (Mc mI_coversWaste) 34 = .ok (.ifCond .eq 5, 3) := by decide +kernel
theorem dI_coversWaste_37 : decode (Mc mI_coversWaste) 37 = .ok (.iconst 1, 1) := by decide +kernel
theorem dI_coversWaste_38 : decode (Mc mI_coversWaste) 38 = .ok (.ireturn, 1) := by decide +kernel
theorem dI_coversWaste_39 : decode (Mc mI_coversWaste) 39 = .ok (.iinc 4 1, 3) := by decide +kernel
theorem dI_coversWaste_42 : decode (Mc mI_coversWaste) 42 = .ok (.goto (-39), 3) := by decide +kernel
theorem dI_coversWaste_45 : decode (Mc mI_coversWaste) 45 = .ok (.iconst 0, 1) := by decide +kernel
theorem dI_coversWaste_46 : decode (Mc mI_coversWaste) 46 = .ok (.ireturn, 1) := by decide +kernel
theorem dB_isWaste_0 : decode (Mc mB_isWaste) 0 = .ok (.aload_n 0, 1) := by decide +kernel
theorem dB_isWaste_1 : decode (Mc mB_isWaste) 1 = .ok (.iload_n 1, 1) := by decide +kernel
theorem dB_isWaste_2 : decode (Mc mB_isWaste) 2 = .ok (.iload_n 2, 1) := by decide +kernel
theorem dB_isWaste_3 : decode (Mc mB_isWaste) 3 = .ok (.invokevirtual 29, 3) := by decide +kernel
theorem dB_isWaste_6 : decode (Mc mB_isWaste) 6 = .ok (.ifCond .eq 17, 3) := by decide +kernel
theorem dB_isWaste_9 : decode (Mc mB_isWaste) 9 = .ok (.iload_n 2, 1) := by decide +kernel
theorem dB_isWaste_10 : decode (Mc mB_isWaste) 10 = .ok (.aload_n 0, 1) := by decide +kernel
theorem dB_isWaste_11 : decode (Mc mB_isWaste) 11 = .ok (.getfield 21, 3) := by decide +kernel
theorem dB_isWaste_14 : decode (Mc mB_isWaste) 14 = .ok (.iload_n 1, 1) := by decide +kernel
theorem dB_isWaste_15 : decode (Mc mB_isWaste) 15 = .ok (.iaload, 1) := by decide +kernel
theorem dB_isWaste_16 : decode (Mc mB_isWaste) 16 = .ok (.if_icmp .lt 7, 3) := by decide +kernel
theorem dB_isWaste_19 : decode (Mc mB_isWaste) 19 = .ok (.iconst 1, 1) := by decide +kernel
theorem dB_isWaste_20 : decode (Mc mB_isWaste) 20 = .ok (.goto 4, 3) := by decide +kernel
theorem dB_isWaste_23 : decode (Mc mB_isWaste) 23 = .ok (.iconst 0, 1) := by decide +kernel
theorem dB_isWaste_24 : decode (Mc mB_isWaste) 24 = .ok (.ireturn, 1) := by decide +kernel
theorem dT_reach_0 : decode (Mc mT_reach) 0 = .ok (.iload_n 1, 1) := by decide +kernel
theorem dT_reach_1 : decode (Mc mT_reach) 1 = .ok (.invokestatic 106, 3) := by decide +kernel
theorem dT_reach_4 : decode (Mc mT_reach) 4 = .ok (.ifCond .eq 11, 3) := by decide +kernel
theorem dT_reach_7 : decode (Mc mT_reach) 7 = .ok (.iload_n 2, 1) := by decide +kernel
theorem dT_reach_8 : decode (Mc mT_reach) 8 = .ok (.iload_n 3, 1) := by decide +kernel
theorem dT_reach_9 : decode (Mc mT_reach) 9 = .ok (.invokestatic 138, 3) := by decide +kernel
theorem dT_reach_12 : decode (Mc mT_reach) 12 = .ok (.ifCond .ne 5, 3) := by decide +kernel
theorem dT_reach_15 : decode (Mc mT_reach) 15 = .ok (.iconst 0, 1) := by decide +kernel
theorem dT_reach_16 : decode (Mc mT_reach) 16 = .ok (.ireturn, 1) := by decide +kernel
theorem dT_reach_17 : decode (Mc mT_reach) 17 = .ok (.aload_n 0, 1) := by decide +kernel
theorem dT_reach_18 : decode (Mc mT_reach) 18 = .ok (.getfield 19, 3) := by decide +kernel
theorem dT_reach_21 : decode (Mc mT_reach) 21 = .ok (.iload_n 1, 1) := by decide +kernel
theorem dT_reach_22 : decode (Mc mT_reach) 22 = .ok (.aaload, 1) := by decide +kernel
theorem dT_reach_23 : decode (Mc mT_reach) 23 = .ok (.astore 4, 2) := by decide +kernel
theorem dT_reach_25 : decode (Mc mT_reach) 25 = .ok (.aload_n 0, 1) := by decide +kernel
theorem dT_reach_26 : decode (Mc mT_reach) 26 = .ok (.getfield 57, 3) := by decide +kernel
theorem dT_reach_29 : decode (Mc mT_reach) 29 = .ok (.aload 4, 2) := by decide +kernel
theorem dT_reach_31 : decode (Mc mT_reach) 31 = .ok (.invokevirtual 141, 3) := by decide +kernel
theorem dT_reach_34 : decode (Mc mT_reach) 34 = .ok (.iconst 0, 1) := by decide +kernel
theorem dT_reach_35 : decode (Mc mT_reach) 35 = .ok (.istore 5, 2) := by decide +kernel
theorem dT_reach_37 : decode (Mc mT_reach) 37 = .ok (.iload 5, 2) := by decide +kernel
theorem dT_reach_39 : decode (Mc mT_reach) 39 = .ok (.aload 4, 2) := by decide +kernel
theorem dT_reach_41 : decode (Mc mT_reach) 41 = .ok (.getfield 114, 3) := by decide +kernel
theorem dT_reach_44 : decode (Mc mT_reach) 44 = .ok (.if_icmp .ge 62, 3) := by decide +kernel
theorem dT_reach_47 : decode (Mc mT_reach) 47 = .ok (.iload_n 2, 1) := by decide +kernel
theorem dT_reach_48 : decode (Mc mT_reach) 48 = .ok (.aload 4, 2) := by decide +kernel
theorem dT_reach_50 : decode (Mc mT_reach) 50 = .ok (.getfield 145, 3) := by decide +kernel
theorem dT_reach_53 : decode (Mc mT_reach) 53 = .ok (.iload 5, 2) := by decide +kernel
theorem dT_reach_55 : decode (Mc mT_reach) 55 = .ok (.iaload, 1) := by decide +kernel
theorem dT_reach_56 : decode (Mc mT_reach) 56 = .ok (.isub, 1) := by decide +kernel
theorem dT_reach_57 : decode (Mc mT_reach) 57 = .ok (.istore 6, 2) := by decide +kernel
theorem dT_reach_59 : decode (Mc mT_reach) 59 = .ok (.iload_n 3, 1) := by decide +kernel
theorem dT_reach_60 : decode (Mc mT_reach) 60 = .ok (.aload 4, 2) := by decide +kernel
theorem dT_reach_62 : decode (Mc mT_reach) 62 = .ok (.getfield 148, 3) := by decide +kernel
theorem dT_reach_65 : decode (Mc mT_reach) 65 = .ok (.iload 5, 2) := by decide +kernel
theorem dT_reach_67 : decode (Mc mT_reach) 67 = .ok (.iaload, 1) := by decide +kernel
theorem dT_reach_68 : decode (Mc mT_reach) 68 = .ok (.isub, 1) := by decide +kernel
theorem dT_reach_69 : decode (Mc mT_reach) 69 = .ok (.istore 7, 2) := by decide +kernel
theorem dT_reach_71 : decode (Mc mT_reach) 71 = .ok (.iload 6, 2) := by decide +kernel
theorem dT_reach_73 : decode (Mc mT_reach) 73 = .ok (.iload 7, 2) := by decide +kernel
theorem dT_reach_75 : decode (Mc mT_reach) 75 = .ok (.invokestatic 124, 3) := by decide +kernel
theorem dT_reach_78 : decode (Mc mT_reach) 78 = .ok (.ifCond .eq 22, 3) := by decide +kernel
theorem dT_reach_81 : decode (Mc mT_reach) 81 = .ok (.aload_n 0, 1) := by decide +kernel
theorem dT_reach_82 : decode (Mc mT_reach) 82 = .ok (.getfield 57, 3) := by decide +kernel
theorem dT_reach_85 : decode (Mc mT_reach) 85 = .ok (.iload 6, 2) := by decide +kernel
theorem dT_reach_87 : decode (Mc mT_reach) 87 = .ok (.iload 7, 2) := by decide +kernel
theorem dT_reach_89 : decode (Mc mT_reach) 89 = .ok (.invokestatic 151, 3) := by decide +kernel
theorem dT_reach_92 : decode (Mc mT_reach) 92 = .ok (.invokevirtual 155, 3) := by decide +kernel
theorem dT_reach_95 : decode (Mc mT_reach) 95 = .ok (.ifCond .eq 5, 3) := by decide +kernel
theorem dT_reach_98 : decode (Mc mT_reach) 98 = .ok (.iconst 1, 1) := by decide +kernel
theorem dT_reach_99 : decode (Mc mT_reach) 99 = .ok (.ireturn, 1) := by decide +kernel
theorem dT_reach_100 : decode (Mc mT_reach) 100 = .ok (.iinc 5 1, 3) := by decide +kernel
theorem dT_reach_103 : decode (Mc mT_reach) 103 = .ok (.goto (-66), 3) := by decide +kernel
theorem dT_reach_106 : decode (Mc mT_reach) 106 = .ok (.iconst 0, 1) := by decide +kernel
theorem dT_reach_107 : decode (Mc mT_reach) 107 = .ok (.ireturn, 1) := by decide +kernel
theorem dT_plan_0 : decode (Mc mT_plan) 0 = .ok (.aload_n 0, 1) := by decide +kernel
theorem dT_plan_1 : decode (Mc mT_plan) 1 = .ok (.invokevirtual 99, 3) := by decide +kernel
theorem dT_plan_4 : decode (Mc mT_plan) 4 = .ok (.aload_n 0, 1) := by decide +kernel
theorem dT_plan_5 : decode (Mc mT_plan) 5 = .ok (.getfield 28, 3) := by decide +kernel
theorem dT_plan_8 : decode (Mc mT_plan) 8 = .ok (.invokevirtual 158, 3) := by decide +kernel
theorem dT_plan_11 : decode (Mc mT_plan) 11 = .ok (.ifCond .eq 13, 3) := by decide +kernel
theorem dT_plan_14 : decode (Mc mT_plan) 14 = .ok (.aload_n 0, 1) := by decide +kernel
theorem dT_plan_15 : decode (Mc mT_plan) 15 = .ok (.getfield 66, 3) := by decide +kernel
theorem dT_plan_18 : decode (Mc mT_plan) 18 = .ok (.invokevirtual 162, 3) := by decide +kernel
theorem dT_plan_21 : decode (Mc mT_plan) 21 = .ok (.ifCond .ne 5, 3) := by decide +kernel
theorem dT_plan_24 : decode (Mc mT_plan) 24 = .ok (.iconst (-1), 1) := by decide +kernel
theorem dT_plan_25 : decode (Mc mT_plan) 25 = .ok (.ireturn, 1) := by decide +kernel
theorem dT_plan_26 : decode (Mc mT_plan) 26 = .ok (.aload_n 0, 1) := by decide +kernel
theorem dT_plan_27 : decode (Mc mT_plan) 27 = .ok (.aload_n 0, 1) := by decide +kernel
theorem dT_plan_28 : decode (Mc mT_plan) 28 = .ok (.getfield 49, 3) := by decide +kernel
theorem dT_plan_31 : decode (Mc mT_plan) 31 = .ok (.aload_n 0, 1) := by decide +kernel
theorem dT_plan_32 : decode (Mc mT_plan) 32 = .ok (.getfield 12, 3) := by decide +kernel
theorem dT_plan_35 : decode (Mc mT_plan) 35 = .ok (.invokevirtual 165, 3) := by decide +kernel
theorem dT_plan_38 : decode (Mc mT_plan) 38 = .ok (.putfield 83, 3) := by decide +kernel
theorem dT_plan_41 : decode (Mc mT_plan) 41 = .ok (.aload_n 0, 1) := by decide +kernel
theorem dT_plan_42 : decode (Mc mT_plan) 42 = .ok (.getfield 39, 3) := by decide +kernel
theorem dT_plan_45 : decode (Mc mT_plan) 45 = .ok (.aload_n 0, 1) := by decide +kernel
theorem dT_plan_46 : decode (Mc mT_plan) 46 = .ok (.getfield 35, 3) := by decide +kernel
theorem dT_plan_49 : decode (Mc mT_plan) 49 = .ok (.invokevirtual 169, 3) := by decide +kernel
theorem dT_plan_52 : decode (Mc mT_plan) 52 = .ok (.aload_n 0, 1) := by decide +kernel
theorem dT_plan_53 : decode (Mc mT_plan) 53 = .ok (.iconst 1, 1) := by decide +kernel
theorem dT_plan_54 : decode (Mc mT_plan) 54 = .ok (.putfield 79, 3) := by decide +kernel
theorem dT_plan_57 : decode (Mc mT_plan) 57 = .ok (.aload_n 0, 1) := by decide +kernel
theorem dT_plan_58 : decode (Mc mT_plan) 58 = .ok (.getfield 35, 3) := by decide +kernel
theorem dT_plan_61 : decode (Mc mT_plan) 61 = .ok (.getfield 173, 3) := by decide +kernel
theorem dT_plan_64 : decode (Mc mT_plan) 64 = .ok (.ireturn, 1) := by decide +kernel
theorem dJ_isReady_0 : decode (Mc mJ_isReady) 0 = .ok (.iconst 0, 1) := by decide +kernel
theorem dJ_isReady_1 : decode (Mc mJ_isReady) 1 = .ok (.istore_n 1, 1) := by decide +kernel
theorem dJ_isReady_2 : decode (Mc mJ_isReady) 2 = .ok (.iload_n 1, 1) := by decide +kernel
theorem dJ_isReady_3 : decode (Mc mJ_isReady) 3 = .ok (.aload_n 0, 1) := by decide +kernel
theorem dJ_isReady_4 : decode (Mc mJ_isReady) 4 = .ok (.getfield 15, 3) := by decide +kernel
theorem dJ_isReady_7 : decode (Mc mJ_isReady) 7 = .ok (.if_icmp .ge 22, 3) := by decide +kernel
theorem dJ_isReady_10 : decode (Mc mJ_isReady) 10 = .ok (.aload_n 0, 1) := by decide +kernel
theorem dJ_isReady_11 : decode (Mc mJ_isReady) 11 = .ok (.iload_n 1, 1) := by decide +kernel
theorem dJ_isReady_12 : decode (Mc mJ_isReady) 12 = .ok (.invokevirtual 23, 3) := by decide +kernel
theorem dJ_isReady_15 : decode (Mc mJ_isReady) 15 = .ok (.getfield 27, 3) := by decide +kernel
theorem dJ_isReady_18 : decode (Mc mJ_isReady) 18 = .ok (.ifCond .ne 5, 3) := by decide +kernel
theorem dJ_isReady_21 : decode (Mc mJ_isReady) 21 = .ok (.iconst 0, 1) := by decide +kernel
theorem dJ_isReady_22 : decode (Mc mJ_isReady) 22 = .ok (.ireturn, 1) := by decide +kernel
theorem dJ_isReady_23 : decode (Mc mJ_isReady) 23 = .ok (.iinc 1 1, 3) := by decide +kernel
theorem dJ_isReady_26 : decode (Mc mJ_isReady) 26 = .ok (.goto (-24), 3) := by decide +kernel
theorem dJ_isReady_29 : decode (Mc mJ_isReady) 29 = .ok (.aload_n 0, 1) := by decide +kernel
theorem dJ_isReady_30 : decode (Mc mJ_isReady) 30 = .ok (.getfield 15, 3) := by decide +kernel
theorem dJ_isReady_33 : decode (Mc mJ_isReady) 33 = .ok (.ifCond .le 7, 3) := by decide +kernel
theorem dJ_isReady_36 : decode (Mc mJ_isReady) 36 = .ok (.iconst 1, 1) := by decide +kernel
theorem dJ_isReady_37 : decode (Mc mJ_isReady) 37 = .ok (.goto 4, 3) := by decide +kernel
theorem dJ_isReady_40 : decode (Mc mJ_isReady) 40 = .ok (.iconst 0, 1) := by decide +kernel
theorem dJ_isReady_41 : decode (Mc mJ_isReady) 41 = .ok (.ireturn, 1) := by decide +kernel
theorem dJ_insertAt_0 : decode (Mc mJ_insertAt) 0 = .ok (.aload_n 0, 1) := by decide +kernel
theorem dJ_insertAt_1 : decode (Mc mJ_insertAt) 1 = .ok (.getfield 19, 3) := by decide +kernel
theorem dJ_insertAt_4 : decode (Mc mJ_insertAt) 4 = .ok (.aload_n 0, 1) := by decide +kernel
theorem dJ_insertAt_5 : decode (Mc mJ_insertAt) 5 = .ok (.getfield 9, 3) := by decide +kernel
theorem dJ_insertAt_8 : decode (Mc mJ_insertAt) 8 = .ok (.iload_n 1, 1) := by decide +kernel
theorem dJ_insertAt_9 : decode (Mc mJ_insertAt) 9 = .ok (.iaload, 1) := by decide +kernel
theorem dJ_insertAt_10 : decode (Mc mJ_insertAt) 10 = .ok (.aaload, 1) := by decide +kernel
theorem dJ_insertAt_11 : decode (Mc mJ_insertAt) 11 = .ok (.areturn, 1) := by decide +kernel
theorem dP_make_0 : decode (Mc mP_make) 0 = .ok (.aload_n 0, 1) := by decide +kernel
theorem dP_make_1 : decode (Mc mP_make) 1 = .ok (.getfield 27, 3) := by decide +kernel
theorem dP_make_4 : decode (Mc mP_make) 4 = .ok (.aload_n 0, 1) := by decide +kernel
theorem dP_make_5 : decode (Mc mP_make) 5 = .ok (.getfield 15, 3) := by decide +kernel
theorem dP_make_8 : decode (Mc mP_make) 8 = .ok (.invokevirtual 35, 3) := by decide +kernel
theorem dP_make_11 : decode (Mc mP_make) 11 = .ok (.aload_n 0, 1) := by decide +kernel
theorem dP_make_12 : decode (Mc mP_make) 12 = .ok (.getfield 31, 3) := by decide +kernel
theorem dP_make_15 : decode (Mc mP_make) 15 = .ok (.iconst 0, 1) := by decide +kernel
theorem dP_make_16 : decode (Mc mP_make) 16 = .ok (.putfield 41, 3) := by decide +kernel
theorem dP_make_19 : decode (Mc mP_make) 19 = .ok (.iconst 0, 1) := by decide +kernel
theorem dP_make_20 : decode (Mc mP_make) 20 = .ok (.istore_n 1, 1) := by decide +kernel
theorem dP_make_21 : decode (Mc mP_make) 21 = .ok (.iload_n 1, 1) := by decide +kernel
theorem dP_make_22 : decode (Mc mP_make) 22 = .ok (.aload_n 0, 1) := by decide +kernel
theorem dP_make_23 : decode (Mc mP_make) 23 = .ok (.getfield 19, 3) := by decide +kernel
theorem dP_make_26 : decode (Mc mP_make) 26 = .ok (.getfield 47, 3) := by decide +kernel
theorem dP_make_29 : decode (Mc mP_make) 29 = .ok (.if_icmp .ge 36, 3) := by decide +kernel
theorem dP_make_32 : decode (Mc mP_make) 32 = .ok (.aload_n 0, 1) := by decide +kernel
theorem dP_make_33 : decode (Mc mP_make) 33 = .ok (.getfield 31, 3) := by decide +kernel
theorem dP_make_36 : decode (Mc mP_make) 36 = .ok (.invokevirtual 52, 3) := by decide +kernel
theorem dP_make_39 : decode (Mc mP_make) 39 = .ok (.ifCond .eq 18, 3) := by decide +kernel
theorem dP_make_42 : decode (Mc mP_make) 42 = .ok (.aload_n 0, 1) := by decide +kernel
theorem dP_make_43 : decode (Mc mP_make) 43 = .ok (.aload_n 0, 1) := by decide +kernel
theorem dP_make_44 : decode (Mc mP_make) 44 = .ok (.getfield 19, 3) := by decide +kernel
theorem dP_make_47 : decode (Mc mP_make) 47 = .ok (.iload_n 1, 1) := by decide +kernel
theorem dP_make_48 : decode (Mc mP_make) 48 = .ok (.invokevirtual 56, 3) := by decide +kernel
theorem dP_make_51 : decode (Mc mP_make) 51 = .ok (.invokevirtual 60, 3) := by decide +kernel
theorem dP_make_54 : decode (Mc mP_make) 54 = .ok (.ifCond .ne 5, 3) := by decide +kernel
theorem dP_make_57 : decode (Mc mP_make) 57 = .ok (.iconst 0, 1) := by decide +kernel
theorem dP_make_58 : decode (Mc mP_make) 58 = .ok (.ireturn, 1) := by decide +kernel
theorem dP_make_59 : decode (Mc mP_make) 59 = .ok (.iinc 1 1, 3) := by decide +kernel
theorem dP_make_62 : decode (Mc mP_make) 62 = .ok (.goto (-41), 3) := by decide +kernel
theorem dP_make_65 : decode (Mc mP_make) 65 = .ok (.iconst 1, 1) := by decide +kernel
theorem dP_make_66 : decode (Mc mP_make) 66 = .ok (.ireturn, 1) := by decide +kernel
theorem dM_addChange_0 : decode (Mc mM_addChange) 0 = .ok (.aload_n 0, 1) := by decide +kernel
theorem dM_addChange_1 : decode (Mc mM_addChange) 1 = .ok (.iconst 2, 1) := by decide +kernel
theorem dM_addChange_2 : decode (Mc mM_addChange) 2 = .ok (.iconst 0, 1) := by decide +kernel
theorem dM_addChange_3 : decode (Mc mM_addChange) 3 = .ok (.iconst 0, 1) := by decide +kernel
theorem dM_addChange_4 : decode (Mc mM_addChange) 4 = .ok (.invokestatic 19, 3) := by decide +kernel
theorem dM_addChange_7 : decode (Mc mM_addChange) 7 = .ok (.invokevirtual 23, 3) := by decide +kernel
theorem dM_addChange_10 : decode (Mc mM_addChange) 10 = .ok (.ireturn, 1) := by decide +kernel
theorem dM_packed_0 : decode (Mc mM_packed) 0 = .ok (.iload_n 0, 1) := by decide +kernel
theorem dM_packed_1 : decode (Mc mM_packed) 1 = .ok (.iload_n 1, 1) := by decide +kernel
theorem dM_packed_2 : decode (Mc mM_packed) 2 = .ok (.iconst 2, 1) := by decide +kernel
theorem dM_packed_3 : decode (Mc mM_packed) 3 = .ok (.ishl, 1) := by decide +kernel
theorem dM_packed_4 : decode (Mc mM_packed) 4 = .ok (.ior, 1) := by decide +kernel
theorem dM_packed_5 : decode (Mc mM_packed) 5 = .ok (.iload_n 2, 1) := by decide +kernel
theorem dM_packed_6 : decode (Mc mM_packed) 6 = .ok (.iconst 4, 1) := by decide +kernel
theorem dM_packed_7 : decode (Mc mM_packed) 7 = .ok (.ishl, 1) := by decide +kernel
theorem dM_packed_8 : decode (Mc mM_packed) 8 = .ok (.ior, 1) := by decide +kernel
theorem dM_packed_9 : decode (Mc mM_packed) 9 = .ok (.ireturn, 1) := by decide +kernel
theorem dM_append_0 : decode (Mc mM_append) 0 = .ok (.aload_n 0, 1) := by decide +kernel
theorem dM_append_1 : decode (Mc mM_append) 1 = .ok (.getfield 15, 3) := by decide +kernel
theorem dM_append_4 : decode (Mc mM_append) 4 = .ok (.sipush 2000, 3) := by decide +kernel
theorem dM_append_7 : decode (Mc mM_append) 7 = .ok (.if_icmp .lt 5, 3) := by decide +kernel
theorem dM_append_10 : decode (Mc mM_append) 10 = .ok (.iconst 0, 1) := by decide +kernel
theorem dM_append_11 : decode (Mc mM_append) 11 = .ok (.ireturn, 1) := by decide +kernel
theorem dM_append_12 : decode (Mc mM_append) 12 = .ok (.aload_n 0, 1) := by decide +kernel
theorem dM_append_13 : decode (Mc mM_append) 13 = .ok (.getfield 9, 3) := by decide +kernel
theorem dM_append_16 : decode (Mc mM_append) 16 = .ok (.aload_n 0, 1) := by decide +kernel
theorem dM_append_17 : decode (Mc mM_append) 17 = .ok (.getfield 15, 3) := by decide +kernel
theorem dM_append_20 : decode (Mc mM_append) 20 = .ok (.iload_n 1, 1) := by decide +kernel
theorem dM_append_21 : decode (Mc mM_append) 21 = .ok (.iastore, 1) := by decide +kernel
theorem dM_append_22 : decode (Mc mM_append) 22 = .ok (.aload_n 0, 1) := by decide +kernel
theorem dM_append_23 : decode (Mc mM_append) 23 = .ok (.dup, 1) := by decide +kernel
theorem dM_append_24 : decode (Mc mM_append) 24 = .ok (.getfield 15, 3) := by decide +kernel
theorem dM_append_27 : decode (Mc mM_append) 27 = .ok (.iconst 1, 1) := by decide +kernel
theorem dM_append_28 : decode (Mc mM_append) 28 = .ok (.iadd, 1) := by decide +kernel
theorem dM_append_29 : decode (Mc mM_append) 29 = .ok (.putfield 15, 3) := by decide +kernel
theorem dM_append_32 : decode (Mc mM_append) 32 = .ok (.iconst 1, 1) := by decide +kernel
theorem dM_append_33 : decode (Mc mM_append) 33 = .ok (.ireturn, 1) := by decide +kernel
theorem dP_useInsert_0 : decode (Mc mP_useInsert) 0 = .ok (.bipush 15, 2) := by decide +kernel
theorem dP_useInsert_2 : decode (Mc mP_useInsert) 2 = .ok (.istore_n 2, 1) := by decide +kernel
theorem dP_useInsert_3 : decode (Mc mP_useInsert) 3 = .ok (.iconst 0, 1) := by decide +kernel
theorem dP_useInsert_4 : decode (Mc mP_useInsert) 4 = .ok (.istore_n 3, 1) := by decide +kernel
theorem dP_useInsert_5 : decode (Mc mP_useInsert) 5 = .ok (.iload_n 3, 1) := by decide +kernel
theorem dP_useInsert_6 : decode (Mc mP_useInsert) 6 = .ok (.bipush 96, 2) := by decide +kernel
theorem dP_useInsert_8 : decode (Mc mP_useInsert) 8 = .ok (.if_icmp .ge 65, 3) := by decide +kernel
theorem dP_useInsert_11 : decode (Mc mP_useInsert) 11 = .ok (.aload_n 0, 1) := by decide +kernel
theorem dP_useInsert_12 : decode (Mc mP_useInsert) 12 = .ok (.getfield 23, 3) := by decide +kernel
theorem dP_useInsert_15 : decode (Mc mP_useInsert) 15 = .ok (.aload_n 1, 1) := by decide +kernel
theorem dP_useInsert_16 : decode (Mc mP_useInsert) 16 = .ok (.aload_n 0, 1) := by decide +kernel
theorem dP_useInsert_17 : decode (Mc mP_useInsert) 17 = .ok (.getfield 27, 3) := by decide +kernel
theorem dP_useInsert_20 : decode (Mc mP_useInsert) 20 = .ok (.iload_n 2, 1) := by decide +kernel
theorem dP_useInsert_21 : decode (Mc mP_useInsert) 21 = .ok (.invokevirtual 64, 3) := by decide +kernel
theorem dP_useInsert_24 : decode (Mc mP_useInsert) 24 = .ok (.istore 4, 2) := by decide +kernel
theorem dP_useInsert_26 : decode (Mc mP_useInsert) 26 = .ok (.iload 4, 2) := by decide +kernel
theorem dP_useInsert_28 : decode (Mc mP_useInsert) 28 = .ok (.iconst (-1), 1) := by decide +kernel
theorem dP_useInsert_29 : decode (Mc mP_useInsert) 29 = .ok (.if_icmp .ne 5, 3) := by decide +kernel
theorem dP_useInsert_32 : decode (Mc mP_useInsert) 32 = .ok (.iconst 1, 1) := by decide +kernel
theorem dP_useInsert_33 : decode (Mc mP_useInsert) 33 = .ok (.ireturn, 1) := by decide +kernel
theorem dP_useInsert_34 : decode (Mc mP_useInsert) 34 = .ok (.aload_n 0, 1) := by decide +kernel
theorem dP_useInsert_35 : decode (Mc mP_useInsert) 35 = .ok (.iload 4, 2) := by decide +kernel
theorem dP_useInsert_37 : decode (Mc mP_useInsert) 37 = .ok (.invokevirtual 70, 3) := by decide +kernel
theorem dP_useInsert_40 : decode (Mc mP_useInsert) 40 = .ok (.ifCond .ne 5, 3) := by decide +kernel
theorem dP_useInsert_43 : decode (Mc mP_useInsert) 43 = .ok (.iconst 0, 1) := by decide +kernel
theorem dP_useInsert_44 : decode (Mc mP_useInsert) 44 = .ok (.ireturn, 1) := by decide +kernel
theorem dP_useInsert_45 : decode (Mc mP_useInsert) 45 = .ok (.aload_n 0, 1) := by decide +kernel
theorem dP_useInsert_46 : decode (Mc mP_useInsert) 46 = .ok (.getfield 27, 3) := by decide +kernel
theorem dP_useInsert_49 : decode (Mc mP_useInsert) 49 = .ok (.aload_n 1, 1) := by decide +kernel
theorem dP_useInsert_50 : decode (Mc mP_useInsert) 50 = .ok (.iload 4, 2) := by decide +kernel
theorem dP_useInsert_52 : decode (Mc mP_useInsert) 52 = .ok (.invokestatic 74, 3) := by decide +kernel
theorem dP_useInsert_55 : decode (Mc mP_useInsert) 55 = .ok (.iload 4, 2) := by decide +kernel
theorem dP_useInsert_57 : decode (Mc mP_useInsert) 57 = .ok (.invokestatic 78, 3) := by decide +kernel
theorem dP_useInsert_60 : decode (Mc mP_useInsert) 60 = .ok (.invokevirtual 81, 3) := by decide +kernel
theorem dP_useInsert_63 : decode (Mc mP_useInsert) 63 = .ok (.pop, 1) := by decide +kernel
theorem dP_useInsert_64 : decode (Mc mP_useInsert) 64 = .ok (.iload 4, 2) := by decide +kernel
theorem dP_useInsert_66 : decode (Mc mP_useInsert) 66 = .ok (.istore_n 2, 1) := by decide +kernel
theorem dP_useInsert_67 : decode (Mc mP_useInsert) 67 = .ok (.iinc 3 1, 3) := by decide +kernel
theorem dP_useInsert_70 : decode (Mc mP_useInsert) 70 = .ok (.goto (-65), 3) := by decide +kernel
theorem dP_useInsert_73 : decode (Mc mP_useInsert) 73 = .ok (.iconst 1, 1) := by decide +kernel
theorem dP_useInsert_74 : decode (Mc mP_useInsert) 74 = .ok (.ireturn, 1) := by decide +kernel
theorem dW_findNearestStock_0 : decode (Mc mW_findNearestStock) 0 = .ok (.aload_n 0, 1) := by decide +kernel
theorem dW_findNearestStock_1 : decode (Mc mW_findNearestStock) 1 = .ok (.iload_n 3, 1) := by decide +kernel
theorem dW_findNearestStock_2 : decode (Mc mW_findNearestStock) 2 = .ok (.invokevirtual 29, 3) := by decide +kernel
theorem dW_findNearestStock_5 : decode (Mc mW_findNearestStock) 5 = .ok (.iconst (-1), 1) := by decide +kernel
theorem dW_findNearestStock_6 : decode (Mc mW_findNearestStock) 6 = .ok (.istore 4, 2) := by decide +kernel
theorem dW_findNearestStock_8 : decode (Mc mW_findNearestStock) 8 = .ok (.iconst 0, 1) := by decide +kernel
theorem dW_findNearestStock_9 : decode (Mc mW_findNearestStock) 9 = .ok (.istore 5, 2) := by decide +kernel
theorem dW_findNearestStock_11 : decode (Mc mW_findNearestStock) 11 = .ok (.iload 5, 2) := by decide +kernel
theorem dW_findNearestStock_13 : decode (Mc mW_findNearestStock) 13 = .ok (.aload_n 0, 1) := by decide +kernel
theorem dW_findNearestStock_14 : decode (Mc mW_findNearestStock) 14 = .ok (.getfield 21, 3) := by decide +kernel
theorem dW_findNearestStock_17 : decode (Mc mW_findNearestStock) 17 = .ok (.if_icmp .ge 106, 3) := by decide +kernel
theorem dW_findNearestStock_20 : decode (Mc mW_findNearestStock) 20 = .ok (.iload 5, 2) := by decide +kernel
theorem dW_findNearestStock_22 : decode (Mc mW_findNearestStock) 22 = .ok (.sipush 320, 3) := by decide +kernel
theorem dW_findNearestStock_25 : decode (Mc mW_findNearestStock) 25 = .ok (.if_icmp .ge 98, 3) := by decide +kernel
theorem dW_findNearestStock_28 : decode (Mc mW_findNearestStock) 28 = .ok (.aload_n 0, 1) := by decide +kernel
theorem dW_findNearestStock_29 : decode (Mc mW_findNearestStock) 29 = .ok (.getfield 9, 3) := by decide +kernel
theorem dW_findNearestStock_32 : decode (Mc mW_findNearestStock) 32 = .ok (.iload 5, 2) := by decide +kernel
theorem dW_findNearestStock_34 : decode (Mc mW_findNearestStock) 34 = .ok (.iaload, 1) := by decide +kernel
theorem dW_findNearestStock_35 : decode (Mc mW_findNearestStock) 35 = .ok (.istore 6, 2) := by decide +kernel
theorem dW_findNearestStock_37 : decode (Mc mW_findNearestStock) 37 = .ok (.iload 4, 2) := by decide +kernel
theorem dW_findNearestStock_39 : decode (Mc mW_findNearestStock) 39 = .ok (.iconst (-1), 1) := by decide +kernel
theorem dW_findNearestStock_40 : decode (Mc mW_findNearestStock) 40 = .ok (.if_icmp .eq 23, 3) := by decide +kernel
theorem dW_findNearestStock_43 : decode (Mc mW_findNearestStock) 43 = .ok (.aload_n 0, 1) := by decide +kernel
theorem dW_findNearestStock_44 : decode (Mc mW_findNearestStock) 44 = .ok (.getfield 15, 3) := by decide +kernel
theorem dW_findNearestStock_47 : decode (Mc mW_findNearestStock) 47 = .ok (.iload 6, 2) := by decide +kernel
theorem dW_findNearestStock_49 : decode (Mc mW_findNearestStock) 49 = .ok (.iaload, 1) := by decide +kernel
theorem dW_findNearestStock_50 : decode (Mc mW_findNearestStock) 50 = .ok (.aload_n 0, 1) := by decide +kernel
theorem dW_findNearestStock_51 : decode (Mc mW_findNearestStock) 51 = .ok (.getfield 15, 3) := by decide +kernel
theorem dW_findNearestStock_54 : decode (Mc mW_findNearestStock) 54 = .ok (.iload 4, 2) := by decide +kernel
theorem dW_findNearestStock_56 : decode (Mc mW_findNearestStock) 56 = .ok (.iaload, 1) := by decide +kernel
theorem dW_findNearestStock_57 : decode (Mc mW_findNearestStock) 57 = .ok (.if_icmp .le 6, 3) := by decide +kernel
theorem dW_findNearestStock_60 : decode (Mc mW_findNearestStock) 60 = .ok (.iload 4, 2) := by decide +kernel
theorem dW_findNearestStock_62 : decode (Mc mW_findNearestStock) 62 = .ok (.ireturn, 1) := by decide +kernel
theorem dW_findNearestStock_63 : decode (Mc mW_findNearestStock) 63 = .ok (.aload_n 2, 1) := by decide +kernel
theorem dW_findNearestStock_64 : decode (Mc mW_findNearestStock) 64 = .ok (.aload_n 1, 1) := by decide +kernel
theorem dW_findNearestStock_65 : decode (Mc mW_findNearestStock) 65 = .ok (.iload 6, 2) := by decide +kernel
theorem dW_findNearestStock_67 : decode (Mc mW_findNearestStock) 67 = .ok (.invokestatic 37, 3) := by decide +kernel
theorem dW_findNearestStock_70 : decode (Mc mW_findNearestStock) 70 = .ok (.iload 6, 2) := by decide +kernel
theorem dW_findNearestStock_72 : decode (Mc mW_findNearestStock) 72 = .ok (.invokestatic 41, 3) := by decide +kernel
theorem dW_findNearestStock_75 : decode (Mc mW_findNearestStock) 75 = .ok (.invokevirtual 44, 3) := by decide +kernel
theorem dW_findNearestStock_78 : decode (Mc mW_findNearestStock) 78 = .ok (.ifCond .eq 26, 3) := by decide +kernel
theorem dW_findNearestStock_81 : decode (Mc mW_findNearestStock) 81 = .ok (.iload 4, 2) := by decide +kernel
theorem dW_findNearestStock_83 : decode (Mc mW_findNearestStock) 83 = .ok (.iconst (-1), 1) := by decide +kernel
theorem dW_findNearestStock_84 : decode (Mc mW_findNearestStock) 84 = .ok (.if_icmp .ne 8, 3) := by decide +kernel
theorem dW_findNearestStock_87 : decode (Mc mW_findNearestStock) 87 = .ok (.iload 6, 2) := by decide +kernel
theorem dW_findNearestStock_89 : decode (Mc mW_findNearestStock) 89 = .ok (.goto 10, 3) := by decide +kernel
theorem dW_findNearestStock_92 : decode (Mc mW_findNearestStock) 92 = .ok (.iload 4, 2) := by decide +kernel
theorem dW_findNearestStock_94 : decode (Mc mW_findNearestStock) 94 = .ok (.iload 6, 2) := by decide +kernel
theorem dW_findNearestStock_96 : decode (Mc mW_findNearestStock) 96 = .ok (.invokestatic 50, 3) := by decide +kernel
theorem dW_findNearestStock_99 : decode (Mc mW_findNearestStock) 99 = .ok (.istore 4, 2) := by decide +kernel
theorem dW_findNearestStock_101 : decode (Mc mW_findNearestStock) 101 = .ok (.goto 16, 3) := by decide +kernel
theorem dW_findNearestStock_104 : decode (Mc mW_findNearestStock) 104 = .ok (.iload 4, 2) := by decide +kernel
theorem dW_findNearestStock_106 : decode (Mc mW_findNearestStock) 106 = .ok (.iconst (-1), 1) := by decide +kernel
theorem dW_findNearestStock_107 : decode (Mc mW_findNearestStock) 107 = .ok (.if_icmp .ne 10, 3) := by decide +kernel
theorem dW_findNearestStock_110 : decode (Mc mW_findNearestStock) 110 = .ok (.aload_n 0, 1) := by decide +kernel
theorem dW_findNearestStock_111 : decode (Mc mW_findNearestStock) 111 = .ok (.aload_n 1, 1) := by decide +kernel
theorem dW_findNearestStock_112 : decode (Mc mW_findNearestStock) 112 = .ok (.iload 6, 2) := by decide +kernel
theorem dW_findNearestStock_114 : decode (Mc mW_findNearestStock) 114 = .ok (.invokevirtual 33, 3) := by decide +kernel
theorem dW_findNearestStock_117 : decode (Mc mW_findNearestStock) 117 = .ok (.iinc 5 1, 3) := by decide +kernel
theorem dW_findNearestStock_120 : decode (Mc mW_findNearestStock) 120 = .ok (.goto (-109), 3) := by decide +kernel
theorem dW_findNearestStock_123 : decode (Mc mW_findNearestStock) 123 = .ok (.iload 4, 2) := by decide +kernel
theorem dW_findNearestStock_125 : decode (Mc mW_findNearestStock) 125 = .ok (.ireturn, 1) := by decide +kernel
theorem dS_isCoveredBy_0 : decode (Mc mS_isCoveredBy) 0 = .ok (.iconst 0, 1) := by decide +kernel
theorem dS_isCoveredBy_1 : decode (Mc mS_isCoveredBy) 1 = .ok (.istore 4, 2) := by decide +kernel
theorem dS_isCoveredBy_3 : decode (Mc mS_isCoveredBy) 3 = .ok (.iload 4, 2) := by decide +kernel
theorem dS_isCoveredBy_5 : decode (Mc mS_isCoveredBy) 5 = .ok (.aload_n 1, 1) := by decide +kernel
theorem dS_isCoveredBy_6 : decode (Mc mS_isCoveredBy) 6 = .ok (.getfield 24, 3) := by decide +kernel
theorem dS_isCoveredBy_9 : decode (Mc mS_isCoveredBy) 9 = .ok (.if_icmp .ge 36, 3) := by decide +kernel
theorem dS_isCoveredBy_12 : decode (Mc mS_isCoveredBy) 12 = .ok (.aload_n 0, 1) := by decide +kernel
theorem dS_isCoveredBy_13 : decode (Mc mS_isCoveredBy) 13 = .ok (.iload_n 2, 1) := by decide +kernel
theorem dS_isCoveredBy_14 : decode (Mc mS_isCoveredBy) 14 = .ok (.aload_n 1, 1) := by decide +kernel
theorem dS_isCoveredBy_15 : decode (Mc mS_isCoveredBy) 15 = .ok (.getfield 30, 3) := by decide +kernel
theorem dS_isCoveredBy_18 : decode (Mc mS_isCoveredBy) 18 = .ok (.iload 4, 2) := by decide +kernel
theorem dS_isCoveredBy_20 : decode (Mc mS_isCoveredBy) 20 = .ok (.iaload, 1) := by decide +kernel
theorem dS_isCoveredBy_21 : decode (Mc mS_isCoveredBy) 21 = .ok (.iadd, 1) := by decide +kernel
theorem dS_isCoveredBy_22 : decode (Mc mS_isCoveredBy) 22 = .ok (.iload_n 3, 1) := by decide +kernel
theorem dS_isCoveredBy_23 : decode (Mc mS_isCoveredBy) 23 = .ok (.aload_n 1, 1) := by decide +kernel
theorem dS_isCoveredBy_24 : decode (Mc mS_isCoveredBy) 24 = .ok (.getfield 34, 3) := by decide +kernel
theorem dS_isCoveredBy_27 : decode (Mc mS_isCoveredBy) 27 = .ok (.iload 4, 2) := by decide +kernel
theorem dS_isCoveredBy_29 : decode (Mc mS_isCoveredBy) 29 = .ok (.iaload, 1) := by decide +kernel
theorem dS_isCoveredBy_30 : decode (Mc mS_isCoveredBy) 30 = .ok (.iadd, 1) := by decide +kernel
theorem dS_isCoveredBy_31 : decode (Mc mS_isCoveredBy) 31 = .ok (.invokevirtual 37, 3) := by decide +kernel
theorem dS_isCoveredBy_34 : decode (Mc mS_isCoveredBy) 34 = .ok (.ifCond .eq 5, 3) := by decide +kernel
theorem dS_isCoveredBy_37 : decode (Mc mS_isCoveredBy) 37 = .ok (.iconst 1, 1) := by decide +kernel
theorem dS_isCoveredBy_38 : decode (Mc mS_isCoveredBy) 38 = .ok (.ireturn, 1) := by decide +kernel
theorem dS_isCoveredBy_39 : decode (Mc mS_isCoveredBy) 39 = .ok (.iinc 4 1, 3) := by decide +kernel
theorem dS_isCoveredBy_42 : decode (Mc mS_isCoveredBy) 42 = .ok (.goto (-39), 3) := by decide +kernel
theorem dS_isCoveredBy_45 : decode (Mc mS_isCoveredBy) 45 = .ok (.iconst 0, 1) := by decide +kernel
theorem dS_isCoveredBy_46 : decode (Mc mS_isCoveredBy) 46 = .ok (.ireturn, 1) := by decide +kernel
theorem dS_has_0 : decode (Mc mS_has) 0 = .ok (.iload_n 1, 1) := by decide +kernel
theorem dS_has_1 : decode (Mc mS_has) 1 = .ok (.iload_n 2, 1) := by decide +kernel
theorem dS_has_2 : decode (Mc mS_has) 2 = .ok (.invokestatic 21, 3) := by decide +kernel
theorem dS_has_5 : decode (Mc mS_has) 5 = .ok (.ifCond .eq 21, 3) := by decide +kernel
theorem dS_has_8 : decode (Mc mS_has) 8 = .ok (.aload_n 0, 1) := by decide +kernel
theorem dS_has_9 : decode (Mc mS_has) 9 = .ok (.getfield 9, 3) := by decide +kernel
theorem dS_has_12 : decode (Mc mS_has) 12 = .ok (.iload_n 1, 1) := by decide +kernel
theorem dS_has_13 : decode (Mc mS_has) 13 = .ok (.bipush 8, 2) := by decide +kernel
theorem dS_has_15 : decode (Mc mS_has) 15 = .ok (.imul, 1) := by decide +kernel
theorem dS_has_16 : decode (Mc mS_has) 16 = .ok (.iload_n 2, 1) := by decide +kernel
theorem dS_has_17 : decode (Mc mS_has) 17 = .ok (.iadd, 1) := by decide +kernel
theorem dS_has_18 : decode (Mc mS_has) 18 = .ok (.baload, 1) := by decide +kernel
theorem dS_has_19 : decode (Mc mS_has) 19 = .ok (.ifCond .eq 7, 3) := by decide +kernel
theorem dS_has_22 : decode (Mc mS_has) 22 = .ok (.iconst 1, 1) := by decide +kernel
theorem dS_has_23 : decode (Mc mS_has) 23 = .ok (.goto 4, 3) := by decide +kernel
theorem dS_has_26 : decode (Mc mS_has) 26 = .ok (.iconst 0, 1) := by decide +kernel
theorem dS_has_27 : decode (Mc mS_has) 27 = .ok (.ireturn, 1) := by decide +kernel
theorem dP_addWay_0 : decode (Mc mP_addWay) 0 = .ok (.aload_n 0, 1) := by decide +kernel
theorem dP_addWay_1 : decode (Mc mP_addWay) 1 = .ok (.getfield 23, 3) := by decide +kernel
theorem dP_addWay_4 : decode (Mc mP_addWay) 4 = .ok (.iload_n 1, 1) := by decide +kernel
theorem dP_addWay_5 : decode (Mc mP_addWay) 5 = .ok (.aload_n 0, 1) := by decide +kernel
theorem dP_addWay_6 : decode (Mc mP_addWay) 6 = .ok (.getfield 9, 3) := by decide +kernel
theorem dP_addWay_9 : decode (Mc mP_addWay) 9 = .ok (.invokevirtual 85, 3) := by decide +kernel
theorem dP_addWay_12 : decode (Mc mP_addWay) 12 = .ok (.istore_n 2, 1) := by decide +kernel
theorem dP_addWay_13 : decode (Mc mP_addWay) 13 = .ok (.iconst 0, 1) := by decide +kernel
theorem dP_addWay_14 : decode (Mc mP_addWay) 14 = .ok (.istore_n 3, 1) := by decide +kernel
theorem dP_addWay_15 : decode (Mc mP_addWay) 15 = .ok (.iload_n 3, 1) := by decide +kernel
theorem dP_addWay_16 : decode (Mc mP_addWay) 16 = .ok (.iload_n 2, 1) := by decide +kernel
theorem dP_addWay_17 : decode (Mc mP_addWay) 17 = .ok (.if_icmp .ge 43, 3) := by decide +kernel
theorem dP_addWay_20 : decode (Mc mP_addWay) 20 = .ok (.iload_n 3, 1) := by decide +kernel
theorem dP_addWay_21 : decode (Mc mP_addWay) 21 = .ok (.iload_n 2, 1) := by decide +kernel
theorem dP_addWay_22 : decode (Mc mP_addWay) 22 = .ok (.iconst 1, 1) := by decide +kernel
theorem dP_addWay_23 : decode (Mc mP_addWay) 23 = .ok (.isub, 1) := by decide +kernel
theorem dP_addWay_24 : decode (Mc mP_addWay) 24 = .ok (.if_icmp .ne 7, 3) := by decide +kernel
theorem dP_addWay_27 : decode (Mc mP_addWay) 27 = .ok (.iconst 1, 1) := by decide +kernel
theorem dP_addWay_28 : decode (Mc mP_addWay) 28 = .ok (.goto 4, 3) := by decide +kernel
theorem dP_addWay_31 : decode (Mc mP_addWay) 31 = .ok (.iconst 0, 1) := by decide +kernel
theorem dP_addWay_32 : decode (Mc mP_addWay) 32 = .ok (.istore 4, 2) := by decide +kernel
theorem dP_addWay_34 : decode (Mc mP_addWay) 34 = .ok (.aload_n 0, 1) := by decide +kernel
theorem dP_addWay_35 : decode (Mc mP_addWay) 35 = .ok (.getfield 31, 3) := by decide +kernel
theorem dP_addWay_38 : decode (Mc mP_addWay) 38 = .ok (.iload 4, 2) := by decide +kernel
theorem dP_addWay_40 : decode (Mc mP_addWay) 40 = .ok (.aload_n 0, 1) := by decide +kernel
theorem dP_addWay_41 : decode (Mc mP_addWay) 41 = .ok (.getfield 9, 3) := by decide +kernel
theorem dP_addWay_44 : decode (Mc mP_addWay) 44 = .ok (.iload_n 3, 1) := by decide +kernel
theorem dP_addWay_45 : decode (Mc mP_addWay) 45 = .ok (.iaload, 1) := by decide +kernel
theorem dP_addWay_46 : decode (Mc mP_addWay) 46 = .ok (.invokevirtual 89, 3) := by decide +kernel
theorem dP_addWay_49 : decode (Mc mP_addWay) 49 = .ok (.ifCond .ne 5, 3) := by decide +kernel
theorem dP_addWay_52 : decode (Mc mP_addWay) 52 = .ok (.iconst 0, 1) := by decide +kernel
theorem dP_addWay_53 : decode (Mc mP_addWay) 53 = .ok (.ireturn, 1) := by decide +kernel
theorem dP_addWay_54 : decode (Mc mP_addWay) 54 = .ok (.iinc 3 1, 3) := by decide +kernel
theorem dP_addWay_57 : decode (Mc mP_addWay) 57 = .ok (.goto (-42), 3) := by decide +kernel
theorem dP_addWay_60 : decode (Mc mP_addWay) 60 = .ok (.iconst 1, 1) := by decide +kernel
theorem dP_addWay_61 : decode (Mc mP_addWay) 61 = .ok (.ireturn, 1) := by decide +kernel
theorem dW_tellWay_0 : decode (Mc mW_tellWay) 0 = .ok (.aload_n 0, 1) := by decide +kernel
theorem dW_tellWay_1 : decode (Mc mW_tellWay) 1 = .ok (.getfield 15, 3) := by decide +kernel
theorem dW_tellWay_4 : decode (Mc mW_tellWay) 4 = .ok (.iload_n 1, 1) := by decide +kernel
theorem dW_tellWay_5 : decode (Mc mW_tellWay) 5 = .ok (.iaload, 1) := by decide +kernel
theorem dW_tellWay_6 : decode (Mc mW_tellWay) 6 = .ok (.istore_n 3, 1) := by decide +kernel
theorem dW_tellWay_7 : decode (Mc mW_tellWay) 7 = .ok (.iload_n 1, 1) := by decide +kernel
theorem dW_tellWay_8 : decode (Mc mW_tellWay) 8 = .ok (.istore 4, 2) := by decide +kernel
theorem dW_tellWay_10 : decode (Mc mW_tellWay) 10 = .ok (.iload_n 3, 1) := by decide +kernel
theorem dW_tellWay_11 : decode (Mc mW_tellWay) 11 = .ok (.iconst 1, 1) := by decide +kernel
theorem dW_tellWay_12 : decode (Mc mW_tellWay) 12 = .ok (.isub, 1) := by decide +kernel
theorem dW_tellWay_13 : decode (Mc mW_tellWay) 13 = .ok (.istore 5, 2) := by decide +kernel
theorem dW_tellWay_15 : decode (Mc mW_tellWay) 15 = .ok (.iload 5, 2) := by decide +kernel
theorem dW_tellWay_17 : decode (Mc mW_tellWay) 17 = .ok (.ifCond .lt 53, 3) := by decide +kernel
theorem dW_tellWay_20 : decode (Mc mW_tellWay) 20 = .ok (.aload_n 0, 1) := by decide +kernel
theorem dW_tellWay_21 : decode (Mc mW_tellWay) 21 = .ok (.getfield 18, 3) := by decide +kernel
theorem dW_tellWay_24 : decode (Mc mW_tellWay) 24 = .ok (.iload 4, 2) := by decide +kernel
theorem dW_tellWay_26 : decode (Mc mW_tellWay) 26 = .ok (.iaload, 1) := by decide +kernel
theorem dW_tellWay_27 : decode (Mc mW_tellWay) 27 = .ok (.istore 6, 2) := by decide +kernel
theorem dW_tellWay_29 : decode (Mc mW_tellWay) 29 = .ok (.aload_n 2, 1) := by decide +kernel
theorem dW_tellWay_30 : decode (Mc mW_tellWay) 30 = .ok (.iload 5, 2) := by decide +kernel
theorem dW_tellWay_32 : decode (Mc mW_tellWay) 32 = .ok (.iload 6, 2) := by decide +kernel
theorem dW_tellWay_34 : decode (Mc mW_tellWay) 34 = .ok (.iastore, 1) := by decide +kernel
theorem dW_tellWay_35 : decode (Mc mW_tellWay) 35 = .ok (.iload 4, 2) := by decide +kernel
theorem dW_tellWay_37 : decode (Mc mW_tellWay) 37 = .ok (.invokestatic 37, 3) := by decide +kernel
theorem dW_tellWay_40 : decode (Mc mW_tellWay) 40 = .ok (.getstatic 56, 3) := by decide +kernel
theorem dW_tellWay_43 : decode (Mc mW_tellWay) 43 = .ok (.iload 6, 2) := by decide +kernel
theorem dW_tellWay_45 : decode (Mc mW_tellWay) 45 = .ok (.iaload, 1) := by decide +kernel
theorem dW_tellWay_46 : decode (Mc mW_tellWay) 46 = .ok (.isub, 1) := by decide +kernel
theorem dW_tellWay_47 : decode (Mc mW_tellWay) 47 = .ok (.iload 4, 2) := by decide +kernel
theorem dW_tellWay_49 : decode (Mc mW_tellWay) 49 = .ok (.invokestatic 41, 3) := by decide +kernel
theorem dW_tellWay_52 : decode (Mc mW_tellWay) 52 = .ok (.getstatic 59, 3) := by decide +kernel
theorem dW_tellWay_55 : decode (Mc mW_tellWay) 55 = .ok (.iload 6, 2) := by decide +kernel
theorem dW_tellWay_57 : decode (Mc mW_tellWay) 57 = .ok (.iaload, 1) := by decide +kernel
theorem dW_tellWay_58 : decode (Mc mW_tellWay) 58 = .ok (.isub, 1) := by decide +kernel
theorem dW_tellWay_59 : decode (Mc mW_tellWay) 59 = .ok (.invokestatic 62, 3) := by decide +kernel
theorem dW_tellWay_62 : decode (Mc mW_tellWay) 62 = .ok (.istore 4, 2) := by decide +kernel
theorem dW_tellWay_64 : decode (Mc mW_tellWay) 64 = .ok (.iinc 5 (-1), 3) := by decide +kernel
theorem dW_tellWay_67 : decode (Mc mW_tellWay) 67 = .ok (.goto (-52), 3) := by decide +kernel
theorem dW_tellWay_70 : decode (Mc mW_tellWay) 70 = .ok (.iload_n 3, 1) := by decide +kernel
theorem dW_tellWay_71 : decode (Mc mW_tellWay) 71 = .ok (.ireturn, 1) := by decide +kernel
theorem dM_addStep_0 : decode (Mc mM_addStep) 0 = .ok (.aload_n 0, 1) := by decide +kernel
theorem dM_addStep_1 : decode (Mc mM_addStep) 1 = .ok (.getfield 15, 3) := by decide +kernel
theorem dM_addStep_4 : decode (Mc mM_addStep) 4 = .ok (.ifCond .le 55, 3) := by decide +kernel
theorem dM_addStep_7 : decode (Mc mM_addStep) 7 = .ok (.aload_n 0, 1) := by decide +kernel
theorem dM_addStep_8 : decode (Mc mM_addStep) 8 = .ok (.getfield 9, 3) := by decide +kernel
theorem dM_addStep_11 : decode (Mc mM_addStep) 11 = .ok (.aload_n 0, 1) := by decide +kernel
theorem dM_addStep_12 : decode (Mc mM_addStep) 12 = .ok (.getfield 15, 3) := by decide +kernel
theorem dM_addStep_15 : decode (Mc mM_addStep) 15 = .ok (.iconst 1, 1) := by decide +kernel
theorem dM_addStep_16 : decode (Mc mM_addStep) 16 = .ok (.isub, 1) := by decide +kernel
theorem dM_addStep_17 : decode (Mc mM_addStep) 17 = .ok (.iaload, 1) := by decide +kernel
theorem dM_addStep_18 : decode (Mc mM_addStep) 18 = .ok (.istore_n 3, 1) := by decide +kernel
theorem dM_addStep_19 : decode (Mc mM_addStep) 19 = .ok (.iload_n 3, 1) := by decide +kernel
theorem dM_addStep_20 : decode (Mc mM_addStep) 20 = .ok (.invokestatic 27, 3) := by decide +kernel
theorem dM_addStep_23 : decode (Mc mM_addStep) 23 = .ok (.iload_n 1, 1) := by decide +kernel
theorem dM_addStep_24 : decode (Mc mM_addStep) 24 = .ok (.if_icmp .ne 35, 3) := by decide +kernel
theorem dM_addStep_27 : decode (Mc mM_addStep) 27 = .ok (.iload_n 3, 1) := by decide +kernel
theorem dM_addStep_28 : decode (Mc mM_addStep) 28 = .ok (.invokestatic 31, 3) := by decide +kernel
theorem dM_addStep_31 : decode (Mc mM_addStep) 31 = .ok (.iload_n 2, 1) := by decide +kernel
theorem dM_addStep_32 : decode (Mc mM_addStep) 32 = .ok (.if_icmp .ne 27, 3) := by decide +kernel
theorem dM_addStep_35 : decode (Mc mM_addStep) 35 = .ok (.aload_n 0, 1) := by decide +kernel
theorem dM_addStep_36 : decode (Mc mM_addStep) 36 = .ok (.getfield 9, 3) := by decide +kernel
theorem dM_addStep_39 : decode (Mc mM_addStep) 39 = .ok (.aload_n 0, 1) := by decide +kernel
theorem dM_addStep_40 : decode (Mc mM_addStep) 40 = .ok (.getfield 15, 3) := by decide +kernel
theorem dM_addStep_43 : decode (Mc mM_addStep) 43 = .ok (.iconst 1, 1) := by decide +kernel
theorem dM_addStep_44 : decode (Mc mM_addStep) 44 = .ok (.isub, 1) := by decide +kernel
theorem dM_addStep_45 : decode (Mc mM_addStep) 45 = .ok (.iload_n 1, 1) := by decide +kernel
theorem dM_addStep_46 : decode (Mc mM_addStep) 46 = .ok (.iload_n 2, 1) := by decide +kernel
theorem dM_addStep_47 : decode (Mc mM_addStep) 47 = .ok (.iload_n 3, 1) := by decide +kernel
theorem dM_addStep_48 : decode (Mc mM_addStep) 48 = .ok (.invokestatic 34, 3) := by decide +kernel
theorem dM_addStep_51 : decode (Mc mM_addStep) 51 = .ok (.iconst 1, 1) := by decide +kernel
theorem dM_addStep_52 : decode (Mc mM_addStep) 52 = .ok (.iadd, 1) := by decide +kernel
theorem dM_addStep_53 : decode (Mc mM_addStep) 53 = .ok (.invokestatic 19, 3) := by decide +kernel
theorem dM_addStep_56 : decode (Mc mM_addStep) 56 = .ok (.iastore, 1) := by decide +kernel
theorem dM_addStep_57 : decode (Mc mM_addStep) 57 = .ok (.iconst 1, 1) := by decide +kernel
theorem dM_addStep_58 : decode (Mc mM_addStep) 58 = .ok (.ireturn, 1) := by decide +kernel
theorem dM_addStep_59 : decode (Mc mM_addStep) 59 = .ok (.aload_n 0, 1) := by decide +kernel
theorem dM_addStep_60 : decode (Mc mM_addStep) 60 = .ok (.iload_n 1, 1) := by decide +kernel
theorem dM_addStep_61 : decode (Mc mM_addStep) 61 = .ok (.iload_n 2, 1) := by decide +kernel
theorem dM_addStep_62 : decode (Mc mM_addStep) 62 = .ok (.iconst 1, 1) := by decide +kernel
theorem dM_addStep_63 : decode (Mc mM_addStep) 63 = .ok (.invokestatic 19, 3) := by decide +kernel
theorem dM_addStep_66 : decode (Mc mM_addStep) 66 = .ok (.invokevirtual 23, 3) := by decide +kernel
theorem dM_addStep_69 : decode (Mc mM_addStep) 69 = .ok (.ireturn, 1) := by decide +kernel
theorem dM_kindOf_0 : decode (Mc mM_kindOf) 0 = .ok (.iload_n 0, 1) := by decide +kernel
theorem dM_kindOf_1 : decode (Mc mM_kindOf) 1 = .ok (.iconst 3, 1) := by decide +kernel
theorem dM_kindOf_2 : decode (Mc mM_kindOf) 2 = .ok (.iand, 1) := by decide +kernel
theorem dM_kindOf_3 : decode (Mc mM_kindOf) 3 = .ok (.ireturn, 1) := by decide +kernel
theorem dM_directionOf_0 : decode (Mc mM_directionOf) 0 = .ok (.iload_n 0, 1) := by decide +kernel
theorem dM_directionOf_1 : decode (Mc mM_directionOf) 1 = .ok (.iconst 2, 1) := by decide +kernel
theorem dM_directionOf_2 : decode (Mc mM_directionOf) 2 = .ok (.ishr, 1) := by decide +kernel
theorem dM_directionOf_3 : decode (Mc mM_directionOf) 3 = .ok (.iconst 3, 1) := by decide +kernel
theorem dM_directionOf_4 : decode (Mc mM_directionOf) 4 = .ok (.iand, 1) := by decide +kernel
theorem dM_directionOf_5 : decode (Mc mM_directionOf) 5 = .ok (.ireturn, 1) := by decide +kernel
theorem dM_stepsOf_0 : decode (Mc mM_stepsOf) 0 = .ok (.iload_n 0, 1) := by decide +kernel
theorem dM_stepsOf_1 : decode (Mc mM_stepsOf) 1 = .ok (.iconst 4, 1) := by decide +kernel
theorem dM_stepsOf_2 : decode (Mc mM_stepsOf) 2 = .ok (.ishr, 1) := by decide +kernel
theorem dM_stepsOf_3 : decode (Mc mM_stepsOf) 3 = .ok (.ireturn, 1) := by decide +kernel
theorem dS_cutBy_0 : decode (Mc mS_cutBy) 0 = .ok (.iconst 0, 1) := by decide +kernel
theorem dS_cutBy_1 : decode (Mc mS_cutBy) 1 = .ok (.istore 4, 2) := by decide +kernel
theorem dS_cutBy_3 : decode (Mc mS_cutBy) 3 = .ok (.iconst 0, 1) := by decide +kernel
theorem dS_cutBy_4 : decode (Mc mS_cutBy) 4 = .ok (.istore 5, 2) := by decide +kernel
theorem dS_cutBy_6 : decode (Mc mS_cutBy) 6 = .ok (.iload 5, 2) := by decide +kernel
theorem dS_cutBy_8 : decode (Mc mS_cutBy) 8 = .ok (.aload_n 1, 1) := by decide +kernel
theorem dS_cutBy_9 : decode (Mc mS_cutBy) 9 = .ok (.getfield 24, 3) := by decide +kernel
theorem dS_cutBy_12 : decode (Mc mS_cutBy) 12 = .ok (.if_icmp .ge 59, 3) := by decide +kernel
theorem dS_cutBy_15 : decode (Mc mS_cutBy) 15 = .ok (.iload_n 2, 1) := by decide +kernel
theorem dS_cutBy_16 : decode (Mc mS_cutBy) 16 = .ok (.aload_n 1, 1) := by decide +kernel
theorem dS_cutBy_17 : decode (Mc mS_cutBy) 17 = .ok (.getfield 30, 3) := by decide +kernel
theorem dS_cutBy_20 : decode (Mc mS_cutBy) 20 = .ok (.iload 5, 2) := by decide +kernel
theorem dS_cutBy_22 : decode (Mc mS_cutBy) 22 = .ok (.iaload, 1) := by decide +kernel
theorem dS_cutBy_23 : decode (Mc mS_cutBy) 23 = .ok (.iadd, 1) := by decide +kernel
theorem dS_cutBy_24 : decode (Mc mS_cutBy) 24 = .ok (.istore 6, 2) := by decide +kernel
theorem dS_cutBy_26 : decode (Mc mS_cutBy) 26 = .ok (.iload_n 3, 1) := by decide +kernel
theorem dS_cutBy_27 : decode (Mc mS_cutBy) 27 = .ok (.aload_n 1, 1) := by decide +kernel
theorem dS_cutBy_28 : decode (Mc mS_cutBy) 28 = .ok (.getfield 34, 3) := by decide +kernel
theorem dS_cutBy_31 : decode (Mc mS_cutBy) 31 = .ok (.iload 5, 2) := by decide +kernel
theorem dS_cutBy_33 : decode (Mc mS_cutBy) 33 = .ok (.iaload, 1) := by decide +kernel
theorem dS_cutBy_34 : decode (Mc mS_cutBy) 34 = .ok (.iadd, 1) := by decide +kernel
theorem dS_cutBy_35 : decode (Mc mS_cutBy) 35 = .ok (.istore 7, 2) := by decide +kernel
theorem dS_cutBy_37 : decode (Mc mS_cutBy) 37 = .ok (.aload_n 0, 1) := by decide +kernel
theorem dS_cutBy_38 : decode (Mc mS_cutBy) 38 = .ok (.iload 6, 2) := by decide +kernel
theorem dS_cutBy_40 : decode (Mc mS_cutBy) 40 = .ok (.iload 7, 2) := by decide +kernel
theorem dS_cutBy_42 : decode (Mc mS_cutBy) 42 = .ok (.invokevirtual 37, 3) := by decide +kernel
theorem dS_cutBy_45 : decode (Mc mS_cutBy) 45 = .ok (.ifCond .eq 20, 3) := by decide +kernel
theorem dS_cutBy_48 : decode (Mc mS_cutBy) 48 = .ok (.aload_n 0, 1) := by decide +kernel
theorem dS_cutBy_49 : decode (Mc mS_cutBy) 49 = .ok (.getfield 9, 3) := by decide +kernel
theorem dS_cutBy_52 : decode (Mc mS_cutBy) 52 = .ok (.iload 6, 2) := by decide +kernel
theorem dS_cutBy_54 : decode (Mc mS_cutBy) 54 = .ok (.bipush 8, 2) := by decide +kernel
theorem dS_cutBy_56 : decode (Mc mS_cutBy) 56 = .ok (.imul, 1) := by decide +kernel
theorem dS_cutBy_57 : decode (Mc mS_cutBy) 57 = .ok (.iload 7, 2) := by decide +kernel
theorem dS_cutBy_59 : decode (Mc mS_cutBy) 59 = .ok (.iadd, 1) := by decide +kernel
theorem dS_cutBy_60 : decode (Mc mS_cutBy) 60 = .ok (.iconst 0, 1) := by decide +kernel
theorem dS_cutBy_61 : decode (Mc mS_cutBy) 61 = .ok (.bastore, 1) := by decide +kernel
theorem dS_cutBy_62 : decode (Mc mS_cutBy) 62 = .ok (.iinc 4 1, 3) := by decide +kernel
theorem dS_cutBy_65 : decode (Mc mS_cutBy) 65 = .ok (.iinc 5 1, 3) := by decide +kernel
theorem dS_cutBy_68 : decode (Mc mS_cutBy) 68 = .ok (.goto (-62), 3) := by decide +kernel
theorem dS_cutBy_71 : decode (Mc mS_cutBy) 71 = .ok (.iload 4, 2) := by decide +kernel
theorem dS_cutBy_73 : decode (Mc mS_cutBy) 73 = .ok (.ireturn, 1) := by decide +kernel
theorem dS_countWaste_0 : decode (Mc mS_countWaste) 0 = .ok (.iconst 0, 1) := by decide +kernel
theorem dS_countWaste_1 : decode (Mc mS_countWaste) 1 = .ok (.istore_n 2, 1) := by decide +kernel
theorem dS_countWaste_2 : decode (Mc mS_countWaste) 2 = .ok (.iconst 0, 1) := by decide +kernel
theorem dS_countWaste_3 : decode (Mc mS_countWaste) 3 = .ok (.istore_n 3, 1) := by decide +kernel
theorem dS_countWaste_4 : decode (Mc mS_countWaste) 4 = .ok (.iload_n 3, 1) := by decide +kernel
theorem dS_countWaste_5 : decode (Mc mS_countWaste) 5 = .ok (.bipush 96, 2) := by decide +kernel
theorem dS_countWaste_7 : decode (Mc mS_countWaste) 7 = .ok (.if_icmp .ge 36, 3) := by decide +kernel
theorem dS_countWaste_10 : decode (Mc mS_countWaste) 10 = .ok (.aload_n 0, 1) := by decide +kernel
theorem dS_countWaste_11 : decode (Mc mS_countWaste) 11 = .ok (.getfield 9, 3) := by decide +kernel
theorem dS_countWaste_14 : decode (Mc mS_countWaste) 14 = .ok (.iload_n 3, 1) := by decide +kernel
theorem dS_countWaste_15 : decode (Mc mS_countWaste) 15 = .ok (.baload, 1) := by decide +kernel
theorem dS_countWaste_16 : decode (Mc mS_countWaste) 16 = .ok (.ifCond .eq 21, 3) := by decide +kernel
theorem dS_countWaste_19 : decode (Mc mS_countWaste) 19 = .ok (.aload_n 1, 1) := by decide +kernel
theorem dS_countWaste_20 : decode (Mc mS_countWaste) 20 = .ok (.iload_n 3, 1) := by decide +kernel
theorem dS_countWaste_21 : decode (Mc mS_countWaste) 21 = .ok (.bipush 8, 2) := by decide +kernel
theorem dS_countWaste_23 : decode (Mc mS_countWaste) 23 = .ok (.idiv, 1) := by decide +kernel
theorem dS_countWaste_24 : decode (Mc mS_countWaste) 24 = .ok (.iload_n 3, 1) := by decide +kernel
theorem dS_countWaste_25 : decode (Mc mS_countWaste) 25 = .ok (.bipush 8, 2) := by decide +kernel
theorem dS_countWaste_27 : decode (Mc mS_countWaste) 27 = .ok (.irem, 1) := by decide +kernel
theorem dS_countWaste_28 : decode (Mc mS_countWaste) 28 = .ok (.invokevirtual 40, 3) := by decide +kernel
theorem dS_countWaste_31 : decode (Mc mS_countWaste) 31 = .ok (.ifCond .eq 6, 3) := by decide +kernel
theorem dS_countWaste_34 : decode (Mc mS_countWaste) 34 = .ok (.iinc 2 1, 3) := by decide +kernel
theorem dS_countWaste_37 : decode (Mc mS_countWaste) 37 = .ok (.iinc 3 1, 3) := by decide +kernel
theorem dS_countWaste_40 : decode (Mc mS_countWaste) 40 = .ok (.goto (-36), 3) := by decide +kernel
theorem dS_countWaste_43 : decode (Mc mS_countWaste) 43 = .ok (.iload_n 2, 1) := by decide +kernel
theorem dS_countWaste_44 : decode (Mc mS_countWaste) 44 = .ok (.ireturn, 1) := by decide +kernel
theorem dM_copyFrom_0 : decode (Mc mM_copyFrom) 0 = .ok (.aload_n 1, 1) := by decide +kernel
theorem dM_copyFrom_1 : decode (Mc mM_copyFrom) 1 = .ok (.getfield 9, 3) := by decide +kernel
theorem dM_copyFrom_4 : decode (Mc mM_copyFrom) 4 = .ok (.iconst 0, 1) := by decide +kernel
theorem dM_copyFrom_5 : decode (Mc mM_copyFrom) 5 = .ok (.aload_n 0, 1) := by decide +kernel
theorem dM_copyFrom_6 : decode (Mc mM_copyFrom) 6 = .ok (.getfield 9, 3) := by decide +kernel
theorem dM_copyFrom_9 : decode (Mc mM_copyFrom) 9 = .ok (.iconst 0, 1) := by decide +kernel
theorem dM_copyFrom_10 : decode (Mc mM_copyFrom) 10 = .ok (.aload_n 1, 1) := by decide +kernel
theorem dM_copyFrom_11 : decode (Mc mM_copyFrom) 11 = .ok (.getfield 15, 3) := by decide +kernel
theorem dM_copyFrom_14 : decode (Mc mM_copyFrom) 14 = .ok (.invokestatic 37, 3) := by decide +kernel
theorem dM_copyFrom_17 : decode (Mc mM_copyFrom) 17 = .ok (.aload_n 0, 1) := by decide +kernel
theorem dM_copyFrom_18 : decode (Mc mM_copyFrom) 18 = .ok (.aload_n 1, 1) := by decide +kernel
theorem dM_copyFrom_19 : decode (Mc mM_copyFrom) 19 = .ok (.getfield 15, 3) := by decide +kernel
theorem dM_copyFrom_22 : decode (Mc mM_copyFrom) 22 = .ok (.putfield 15, 3) := by decide +kernel
theorem dM_copyFrom_25 : decode (Mc mM_copyFrom) 25 = .ok (.return_, 1) := by decide +kernel
theorem dT_move_0 : decode (Mc mT_move) 0 = .ok (.aload_n 0, 1) := by decide +kernel
theorem dT_move_1 : decode (Mc mT_move) 1 = .ok (.iload_n 1, 1) := by decide +kernel
theorem dT_move_2 : decode (Mc mT_move) 2 = .ok (.invokevirtual 176, 3) := by decide +kernel
theorem dT_move_5 : decode (Mc mT_move) 5 = .ok (.ifCond .ne 5, 3) := by decide +kernel
theorem dT_move_8 : decode (Mc mT_move) 8 = .ok (.iconst (-1), 1) := by decide +kernel
theorem dT_move_9 : decode (Mc mT_move) 9 = .ok (.ireturn, 1) := by decide +kernel
theorem dT_move_10 : decode (Mc mT_move) 10 = .ok (.aload_n 0, 1) := by decide +kernel
theorem dT_move_11 : decode (Mc mT_move) 11 = .ok (.getfield 39, 3) := by decide +kernel
theorem dT_move_14 : decode (Mc mT_move) 14 = .ok (.getfield 179, 3) := by decide +kernel
theorem dT_move_17 : decode (Mc mT_move) 17 = .ok (.iload_n 1, 1) := by decide +kernel
theorem dT_move_18 : decode (Mc mT_move) 18 = .ok (.iaload, 1) := by decide +kernel
theorem dT_move_19 : decode (Mc mT_move) 19 = .ok (.istore_n 3, 1) := by decide +kernel
theorem dT_move_20 : decode (Mc mT_move) 20 = .ok (.iload_n 2, 1) := by decide +kernel
theorem dT_move_21 : decode (Mc mT_move) 21 = .ok (.tableswitch 42 0 2 #[27, 32, 37], 27) := by decide +kernel
theorem dT_move_48 : decode (Mc mT_move) 48 = .ok (.iload_n 3, 1) := by decide +kernel
theorem dT_move_49 : decode (Mc mT_move) 49 = .ok (.invokestatic 182, 3) := by decide +kernel
theorem dT_move_52 : decode (Mc mT_move) 52 = .ok (.ireturn, 1) := by decide +kernel
theorem dT_move_53 : decode (Mc mT_move) 53 = .ok (.iload_n 3, 1) := by decide +kernel
theorem dT_move_54 : decode (Mc mT_move) 54 = .ok (.invokestatic 186, 3) := by decide +kernel
theorem dT_move_57 : decode (Mc mT_move) 57 = .ok (.ireturn, 1) := by decide +kernel
theorem dT_move_58 : decode (Mc mT_move) 58 = .ok (.iload_n 3, 1) := by decide +kernel
theorem dT_move_59 : decode (Mc mT_move) 59 = .ok (.invokestatic 189, 3) := by decide +kernel
theorem dT_move_62 : decode (Mc mT_move) 62 = .ok (.ireturn, 1) := by decide +kernel
theorem dT_move_63 : decode (Mc mT_move) 63 = .ok (.iconst (-1), 1) := by decide +kernel
theorem dT_move_64 : decode (Mc mT_move) 64 = .ok (.ireturn, 1) := by decide +kernel
theorem dT_isMove_0 : decode (Mc mT_isMove) 0 = .ok (.aload_n 0, 1) := by decide +kernel
theorem dT_isMove_1 : decode (Mc mT_isMove) 1 = .ok (.getfield 79, 3) := by decide +kernel
theorem dT_isMove_4 : decode (Mc mT_isMove) 4 = .ok (.ifCond .eq 22, 3) := by decide +kernel
theorem dT_isMove_7 : decode (Mc mT_isMove) 7 = .ok (.iload_n 1, 1) := by decide +kernel
theorem dT_isMove_8 : decode (Mc mT_isMove) 8 = .ok (.ifCond .lt 18, 3) := by decide +kernel
theorem dT_isMove_11 : decode (Mc mT_isMove) 11 = .ok (.iload_n 1, 1) := by decide +kernel
theorem dT_isMove_12 : decode (Mc mT_isMove) 12 = .ok (.aload_n 0, 1) := by decide +kernel
theorem dT_isMove_13 : decode (Mc mT_isMove) 13 = .ok (.getfield 39, 3) := by decide +kernel
theorem dT_isMove_16 : decode (Mc mT_isMove) 16 = .ok (.getfield 173, 3) := by decide +kernel
theorem dT_isMove_19 : decode (Mc mT_isMove) 19 = .ok (.if_icmp .ge 7, 3) := by decide +kernel
theorem dT_isMove_22 : decode (Mc mT_isMove) 22 = .ok (.iconst 1, 1) := by decide +kernel
theorem dT_isMove_23 : decode (Mc mT_isMove) 23 = .ok (.goto 4, 3) := by decide +kernel
theorem dT_isMove_26 : decode (Mc mT_isMove) 26 = .ok (.iconst 0, 1) := by decide +kernel
theorem dT_isMove_27 : decode (Mc mT_isMove) 27 = .ok (.ireturn, 1) := by decide +kernel
theorem dT_edit_0 : decode (Mc mT_edit) 0 = .ok (.aload_n 0, 1) := by decide +kernel
theorem dT_edit_1 : decode (Mc mT_edit) 1 = .ok (.iload_n 1, 1) := by decide +kernel
theorem dT_edit_2 : decode (Mc mT_edit) 2 = .ok (.invokevirtual 176, 3) := by decide +kernel
theorem dT_edit_5 : decode (Mc mT_edit) 5 = .ok (.ifCond .ne 5, 3) := by decide +kernel
theorem dT_edit_8 : decode (Mc mT_edit) 8 = .ok (.iconst 0, 1) := by decide +kernel
theorem dT_edit_9 : decode (Mc mT_edit) 9 = .ok (.ireturn, 1) := by decide +kernel
theorem dT_edit_10 : decode (Mc mT_edit) 10 = .ok (.iload_n 2, 1) := by decide +kernel
theorem dT_edit_11 : decode (Mc mT_edit) 11 = .ok (.iconst 2, 1) := by decide +kernel
theorem dT_edit_12 : decode (Mc mT_edit) 12 = .ok (.if_icmp .ne 20, 3) := by decide +kernel
theorem dT_edit_15 : decode (Mc mT_edit) 15 = .ok (.aload_n 0, 1) := by decide +kernel
theorem dT_edit_16 : decode (Mc mT_edit) 16 = .ok (.getfield 39, 3) := by decide +kernel
theorem dT_edit_19 : decode (Mc mT_edit) 19 = .ok (.getfield 179, 3) := by decide +kernel
theorem dT_edit_22 : decode (Mc mT_edit) 22 = .ok (.iload_n 1, 1) := by decide +kernel
theorem dT_edit_23 : decode (Mc mT_edit) 23 = .ok (.iconst 2, 1) := by decide +kernel
theorem dT_edit_24 : decode (Mc mT_edit) 24 = .ok (.iconst 0, 1) := by decide +kernel
theorem dT_edit_25 : decode (Mc mT_edit) 25 = .ok (.iconst 0, 1) := by decide +kernel
theorem dT_edit_26 : decode (Mc mT_edit) 26 = .ok (.invokestatic 192, 3) := by decide +kernel
theorem dT_edit_29 : decode (Mc mT_edit) 29 = .ok (.iastore, 1) := by decide +kernel
theorem dT_edit_30 : decode (Mc mT_edit) 30 = .ok (.iconst 1, 1) := by decide +kernel
theorem dT_edit_31 : decode (Mc mT_edit) 31 = .ok (.ireturn, 1) := by decide +kernel
theorem dT_edit_32 : decode (Mc mT_edit) 32 = .ok (.iload_n 2, 1) := by decide +kernel
theorem dT_edit_33 : decode (Mc mT_edit) 33 = .ok (.ifCond .eq 10, 3) := by decide +kernel
theorem dT_edit_36 : decode (Mc mT_edit) 36 = .ok (.iload_n 2, 1) := by decide +kernel
theorem dT_edit_37 : decode (Mc mT_edit) 37 = .ok (.iconst 1, 1) := by decide +kernel
theorem dT_edit_38 : decode (Mc mT_edit) 38 = .ok (.if_icmp .eq 5, 3) := by decide +kernel
theorem dT_edit_41 : decode (Mc mT_edit) 41 = .ok (.iconst 0, 1) := by decide +kernel
theorem dT_edit_42 : decode (Mc mT_edit) 42 = .ok (.ireturn, 1) := by decide +kernel
theorem dT_edit_43 : decode (Mc mT_edit) 43 = .ok (.iload_n 3, 1) := by decide +kernel
theorem dT_edit_44 : decode (Mc mT_edit) 44 = .ok (.ifCond .lt 21, 3) := by decide +kernel
theorem dT_edit_47 : decode (Mc mT_edit) 47 = .ok (.iload_n 3, 1) := by decide +kernel
theorem dT_edit_48 : decode (Mc mT_edit) 48 = .ok (.iconst 4, 1) := by decide +kernel
theorem dT_edit_49 : decode (Mc mT_edit) 49 = .ok (.if_icmp .ge 16, 3) := by decide +kernel
theorem dT_edit_52 : decode (Mc mT_edit) 52 = .ok (.iload 4, 2) := by decide +kernel
theorem dT_edit_54 : decode (Mc mT_edit) 54 = .ok (.iconst 1, 1) := by decide +kernel
theorem dT_edit_55 : decode (Mc mT_edit) 55 = .ok (.if_icmp .lt 10, 3) := by decide +kernel
theorem dT_edit_58 : decode (Mc mT_edit) 58 = .ok (.iload 4, 2) := by decide +kernel
theorem dT_edit_60 : decode (Mc mT_edit) 60 = .ok (.bipush 40, 2) := by decide +kernel
theorem dT_edit_62 : decode (Mc mT_edit) 62 = .ok (.if_icmp .le 5, 3) := by decide +kernel
theorem dT_edit_65 : decode (Mc mT_edit) 65 = .ok (.iconst 0, 1) := by decide +kernel
theorem dT_edit_66 : decode (Mc mT_edit) 66 = .ok (.ireturn, 1) := by decide +kernel
theorem dT_edit_67 : decode (Mc mT_edit) 67 = .ok (.aload_n 0, 1) := by decide +kernel
theorem dT_edit_68 : decode (Mc mT_edit) 68 = .ok (.getfield 39, 3) := by decide +kernel
theorem dT_edit_71 : decode (Mc mT_edit) 71 = .ok (.getfield 179, 3) := by decide +kernel
theorem dT_edit_74 : decode (Mc mT_edit) 74 = .ok (.iload_n 1, 1) := by decide +kernel
theorem dT_edit_75 : decode (Mc mT_edit) 75 = .ok (.iload_n 2, 1) := by decide +kernel
theorem dT_edit_76 : decode (Mc mT_edit) 76 = .ok (.iload_n 3, 1) := by decide +kernel
theorem dT_edit_77 : decode (Mc mT_edit) 77 = .ok (.iload 4, 2) := by decide +kernel
theorem dT_edit_79 : decode (Mc mT_edit) 79 = .ok (.invokestatic 192, 3) := by decide +kernel
theorem dT_edit_82 : decode (Mc mT_edit) 82 = .ok (.iastore, 1) := by decide +kernel
theorem dT_edit_83 : decode (Mc mT_edit) 83 = .ok (.iconst 1, 1) := by decide +kernel
theorem dT_edit_84 : decode (Mc mT_edit) 84 = .ok (.ireturn, 1) := by decide +kernel
