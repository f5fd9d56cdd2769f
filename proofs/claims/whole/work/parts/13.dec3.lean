theorem dT_undo_0 : decode (Mc mT_undo) 0 = .ok (.aload_n 0, 1) := by decide +kernel
theorem dT_undo_1 : decode (Mc mT_undo) 1 = .ok (.getfield 79, 3) := by decide +kernel
theorem dT_undo_4 : decode (Mc mT_undo) 4 = .ok (.ifCond .ne 5, 3) := by decide +kernel
theorem dT_undo_7 : decode (Mc mT_undo) 7 = .ok (.iconst 0, 1) := by decide +kernel
theorem dT_undo_8 : decode (Mc mT_undo) 8 = .ok (.ireturn, 1) := by decide +kernel
theorem dT_undo_9 : decode (Mc mT_undo) 9 = .ok (.aload_n 0, 1) := by decide +kernel
theorem dT_undo_10 : decode (Mc mT_undo) 10 = .ok (.getfield 39, 3) := by decide +kernel
theorem dT_undo_13 : decode (Mc mT_undo) 13 = .ok (.aload_n 0, 1) := by decide +kernel
theorem dT_undo_14 : decode (Mc mT_undo) 14 = .ok (.getfield 35, 3) := by decide +kernel
theorem dT_undo_17 : decode (Mc mT_undo) 17 = .ok (.invokevirtual 196, 3) := by decide +kernel
theorem dT_undo_20 : decode (Mc mT_undo) 20 = .ok (.istore_n 1, 1) := by decide +kernel
theorem dT_undo_21 : decode (Mc mT_undo) 21 = .ok (.aload_n 0, 1) := by decide +kernel
theorem dT_undo_22 : decode (Mc mT_undo) 22 = .ok (.getfield 39, 3) := by decide +kernel
theorem dT_undo_25 : decode (Mc mT_undo) 25 = .ok (.aload_n 0, 1) := by decide +kernel
theorem dT_undo_26 : decode (Mc mT_undo) 26 = .ok (.getfield 35, 3) := by decide +kernel
theorem dT_undo_29 : decode (Mc mT_undo) 29 = .ok (.invokevirtual 169, 3) := by decide +kernel
theorem dT_undo_32 : decode (Mc mT_undo) 32 = .ok (.iload_n 1, 1) := by decide +kernel
theorem dT_undo_33 : decode (Mc mT_undo) 33 = .ok (.ireturn, 1) := by decide +kernel
theorem dM_countDifferent_0 : decode (Mc mM_countDifferent) 0 = .ok (.iconst 0, 1) := by decide +kernel
theorem dM_countDifferent_1 : decode (Mc mM_countDifferent) 1 = .ok (.istore_n 2, 1) := by decide +kernel
theorem dM_countDifferent_2 : decode (Mc mM_countDifferent) 2 = .ok (.iconst 0, 1) := by decide +kernel
theorem dM_countDifferent_3 : decode (Mc mM_countDifferent) 3 = .ok (.istore_n 3, 1) := by decide +kernel
theorem dM_countDifferent_4 : decode (Mc mM_countDifferent) 4 = .ok (.iload_n 3, 1) := by decide +kernel
theorem dM_countDifferent_5 : decode (Mc mM_countDifferent) 5 = .ok (.aload_n 0, 1) := by decide +kernel
theorem dM_countDifferent_6 : decode (Mc mM_countDifferent) 6 = .ok (.getfield 15, 3) := by decide +kernel
theorem dM_countDifferent_9 : decode (Mc mM_countDifferent) 9 = .ok (.if_icmp .ge 35, 3) := by decide +kernel
theorem dM_countDifferent_12 : decode (Mc mM_countDifferent) 12 = .ok (.iload_n 3, 1) := by decide +kernel
theorem dM_countDifferent_13 : decode (Mc mM_countDifferent) 13 = .ok (.aload_n 1, 1) := by decide +kernel
theorem dM_countDifferent_14 : decode (Mc mM_countDifferent) 14 = .ok (.getfield 15, 3) := by decide +kernel
theorem dM_countDifferent_17 : decode (Mc mM_countDifferent) 17 = .ok (.if_icmp .ge 27, 3) := by decide +kernel
theorem dM_countDifferent_20 : decode (Mc mM_countDifferent) 20 = .ok (.aload_n 0, 1) := by decide +kernel
theorem dM_countDifferent_21 : decode (Mc mM_countDifferent) 21 = .ok (.getfield 9, 3) := by decide +kernel
theorem dM_countDifferent_24 : decode (Mc mM_countDifferent) 24 = .ok (.iload_n 3, 1) := by decide +kernel
theorem dM_countDifferent_25 : decode (Mc mM_countDifferent) 25 = .ok (.iaload, 1) := by decide +kernel
theorem dM_countDifferent_26 : decode (Mc mM_countDifferent) 26 = .ok (.aload_n 1, 1) := by decide +kernel
theorem dM_countDifferent_27 : decode (Mc mM_countDifferent) 27 = .ok (.getfield 9, 3) := by decide +kernel
theorem dM_countDifferent_30 : decode (Mc mM_countDifferent) 30 = .ok (.iload_n 3, 1) := by decide +kernel
theorem dM_countDifferent_31 : decode (Mc mM_countDifferent) 31 = .ok (.iaload, 1) := by decide +kernel
theorem dM_countDifferent_32 : decode (Mc mM_countDifferent) 32 = .ok (.if_icmp .eq 6, 3) := by decide +kernel
theorem dM_countDifferent_35 : decode (Mc mM_countDifferent) 35 = .ok (.iinc 2 1, 3) := by decide +kernel
theorem dM_countDifferent_38 : decode (Mc mM_countDifferent) 38 = .ok (.iinc 3 1, 3) := by decide +kernel
theorem dM_countDifferent_41 : decode (Mc mM_countDifferent) 41 = .ok (.goto (-37), 3) := by decide +kernel
theorem dM_countDifferent_44 : decode (Mc mM_countDifferent) 44 = .ok (.iload_n 2, 1) := by decide +kernel
theorem dM_countDifferent_45 : decode (Mc mM_countDifferent) 45 = .ok (.ireturn, 1) := by decide +kernel
theorem dT_simulate_0 : decode (Mc mT_simulate) 0 = .ok (.iload_n 1, 1) := by decide +kernel
theorem dT_simulate_1 : decode (Mc mT_simulate) 1 = .ok (.ifCond .lt 10, 3) := by decide +kernel
theorem dT_simulate_4 : decode (Mc mT_simulate) 4 = .ok (.aload_n 0, 1) := by decide +kernel
theorem dT_simulate_5 : decode (Mc mT_simulate) 5 = .ok (.getfield 79, 3) := by decide +kernel
theorem dT_simulate_8 : decode (Mc mT_simulate) 8 = .ok (.ifCond .ne 5, 3) := by decide +kernel
theorem dT_simulate_11 : decode (Mc mT_simulate) 11 = .ok (.iconst (-1), 1) := by decide +kernel
theorem dT_simulate_12 : decode (Mc mT_simulate) 12 = .ok (.ireturn, 1) := by decide +kernel
theorem dT_simulate_13 : decode (Mc mT_simulate) 13 = .ok (.aload_n 0, 1) := by decide +kernel
theorem dT_simulate_14 : decode (Mc mT_simulate) 14 = .ok (.getfield 75, 3) := by decide +kernel
theorem dT_simulate_17 : decode (Mc mT_simulate) 17 = .ok (.aload_n 0, 1) := by decide +kernel
theorem dT_simulate_18 : decode (Mc mT_simulate) 18 = .ok (.getfield 39, 3) := by decide +kernel
theorem dT_simulate_21 : decode (Mc mT_simulate) 21 = .ok (.iload_n 1, 1) := by decide +kernel
theorem dT_simulate_22 : decode (Mc mT_simulate) 22 = .ok (.aload_n 0, 1) := by decide +kernel
theorem dT_simulate_23 : decode (Mc mT_simulate) 23 = .ok (.getfield 45, 3) := by decide +kernel
theorem dT_simulate_26 : decode (Mc mT_simulate) 26 = .ok (.invokevirtual 200, 3) := by decide +kernel
theorem dT_simulate_29 : decode (Mc mT_simulate) 29 = .ok (.aload_n 0, 1) := by decide +kernel
theorem dT_simulate_30 : decode (Mc mT_simulate) 30 = .ok (.getfield 75, 3) := by decide +kernel
theorem dT_simulate_33 : decode (Mc mT_simulate) 33 = .ok (.getfield 204, 3) := by decide +kernel
theorem dT_simulate_36 : decode (Mc mT_simulate) 36 = .ok (.ireturn, 1) := by decide +kernel
theorem dR_goThrough_0 : decode (Mc mR_goThrough) 0 = .ok (.aload_n 3, 1) := by decide +kernel
theorem dR_goThrough_1 : decode (Mc mR_goThrough) 1 = .ok (.aload_n 0, 1) := by decide +kernel
theorem dR_goThrough_2 : decode (Mc mR_goThrough) 2 = .ok (.getfield 27, 3) := by decide +kernel
theorem dR_goThrough_5 : decode (Mc mR_goThrough) 5 = .ok (.invokevirtual 35, 3) := by decide +kernel
theorem dR_goThrough_8 : decode (Mc mR_goThrough) 8 = .ok (.aload_n 0, 1) := by decide +kernel
theorem dR_goThrough_9 : decode (Mc mR_goThrough) 9 = .ok (.iconst 0, 1) := by decide +kernel
theorem dR_goThrough_10 : decode (Mc mR_goThrough) 10 = .ok (.putfield 9, 3) := by decide +kernel
theorem dR_goThrough_13 : decode (Mc mR_goThrough) 13 = .ok (.aload_n 0, 1) := by decide +kernel
theorem dR_goThrough_14 : decode (Mc mR_goThrough) 14 = .ok (.iconst 0, 1) := by decide +kernel
theorem dR_goThrough_15 : decode (Mc mR_goThrough) 15 = .ok (.putfield 21, 3) := by decide +kernel
theorem dR_goThrough_18 : decode (Mc mR_goThrough) 18 = .ok (.aload_n 0, 1) := by decide +kernel
theorem dR_goThrough_19 : decode (Mc mR_goThrough) 19 = .ok (.iconst (-1), 1) := by decide +kernel
theorem dR_goThrough_20 : decode (Mc mR_goThrough) 20 = .ok (.putfield 24, 3) := by decide +kernel
theorem dR_goThrough_23 : decode (Mc mR_goThrough) 23 = .ok (.iload_n 2, 1) := by decide +kernel
theorem dR_goThrough_24 : decode (Mc mR_goThrough) 24 = .ok (.aload_n 1, 1) := by decide +kernel
theorem dR_goThrough_25 : decode (Mc mR_goThrough) 25 = .ok (.getfield 41, 3) := by decide +kernel
theorem dR_goThrough_28 : decode (Mc mR_goThrough) 28 = .ok (.invokestatic 46, 3) := by decide +kernel
theorem dR_goThrough_31 : decode (Mc mR_goThrough) 31 = .ok (.istore 4, 2) := by decide +kernel
theorem dR_goThrough_33 : decode (Mc mR_goThrough) 33 = .ok (.iconst 0, 1) := by decide +kernel
theorem dR_goThrough_34 : decode (Mc mR_goThrough) 34 = .ok (.istore 5, 2) := by decide +kernel
theorem dR_goThrough_36 : decode (Mc mR_goThrough) 36 = .ok (.iload 5, 2) := by decide +kernel
theorem dR_goThrough_38 : decode (Mc mR_goThrough) 38 = .ok (.iload 4, 2) := by decide +kernel
theorem dR_goThrough_40 : decode (Mc mR_goThrough) 40 = .ok (.if_icmp .ge 49, 3) := by decide +kernel
theorem dR_goThrough_43 : decode (Mc mR_goThrough) 43 = .ok (.aload_n 0, 1) := by decide +kernel
theorem dR_goThrough_44 : decode (Mc mR_goThrough) 44 = .ok (.getfield 24, 3) := by decide +kernel
theorem dR_goThrough_47 : decode (Mc mR_goThrough) 47 = .ok (.iconst (-1), 1) := by decide +kernel
theorem dR_goThrough_48 : decode (Mc mR_goThrough) 48 = .ok (.if_icmp .ne 41, 3) := by decide +kernel
theorem dR_goThrough_51 : decode (Mc mR_goThrough) 51 = .ok (.aload_n 0, 1) := by decide +kernel
theorem dR_goThrough_52 : decode (Mc mR_goThrough) 52 = .ok (.aload_n 1, 1) := by decide +kernel
theorem dR_goThrough_53 : decode (Mc mR_goThrough) 53 = .ok (.getfield 52, 3) := by decide +kernel
theorem dR_goThrough_56 : decode (Mc mR_goThrough) 56 = .ok (.iload 5, 2) := by decide +kernel
theorem dR_goThrough_58 : decode (Mc mR_goThrough) 58 = .ok (.iaload, 1) := by decide +kernel
theorem dR_goThrough_59 : decode (Mc mR_goThrough) 59 = .ok (.aload_n 3, 1) := by decide +kernel
theorem dR_goThrough_60 : decode (Mc mR_goThrough) 60 = .ok (.invokevirtual 56, 3) := by decide +kernel
theorem dR_goThrough_63 : decode (Mc mR_goThrough) 63 = .ok (.istore 6, 2) := by decide +kernel
theorem dR_goThrough_65 : decode (Mc mR_goThrough) 65 = .ok (.iload 6, 2) := by decide +kernel
theorem dR_goThrough_67 : decode (Mc mR_goThrough) 67 = .ok (.iconst (-1), 1) := by decide +kernel
theorem dR_goThrough_68 : decode (Mc mR_goThrough) 68 = .ok (.if_icmp .eq 15, 3) := by decide +kernel
theorem dR_goThrough_71 : decode (Mc mR_goThrough) 71 = .ok (.aload_n 0, 1) := by decide +kernel
theorem dR_goThrough_72 : decode (Mc mR_goThrough) 72 = .ok (.bipush 10, 2) := by decide +kernel
theorem dR_goThrough_74 : decode (Mc mR_goThrough) 74 = .ok (.iload 5, 2) := by decide +kernel
theorem dR_goThrough_76 : decode (Mc mR_goThrough) 76 = .ok (.imul, 1) := by decide +kernel
theorem dR_goThrough_77 : decode (Mc mR_goThrough) 77 = .ok (.iload 6, 2) := by decide +kernel
theorem dR_goThrough_79 : decode (Mc mR_goThrough) 79 = .ok (.iadd, 1) := by decide +kernel
theorem dR_goThrough_80 : decode (Mc mR_goThrough) 80 = .ok (.putfield 24, 3) := by decide +kernel
theorem dR_goThrough_83 : decode (Mc mR_goThrough) 83 = .ok (.iinc 5 1, 3) := by decide +kernel
theorem dR_goThrough_86 : decode (Mc mR_goThrough) 86 = .ok (.goto (-50), 3) := by decide +kernel
theorem dR_goThrough_89 : decode (Mc mR_goThrough) 89 = .ok (.return_, 1) := by decide +kernel
theorem dR_goMove_0 : decode (Mc mR_goMove) 0 = .ok (.iload_n 1, 1) := by decide +kernel
theorem dR_goMove_1 : decode (Mc mR_goMove) 1 = .ok (.invokestatic 60, 3) := by decide +kernel
theorem dR_goMove_4 : decode (Mc mR_goMove) 4 = .ok (.istore_n 3, 1) := by decide +kernel
theorem dR_goMove_5 : decode (Mc mR_goMove) 5 = .ok (.iload_n 3, 1) := by decide +kernel
theorem dR_goMove_6 : decode (Mc mR_goMove) 6 = .ok (.iconst 2, 1) := by decide +kernel
theorem dR_goMove_7 : decode (Mc mR_goMove) 7 = .ok (.if_icmp .ne 8, 3) := by decide +kernel
theorem dR_goMove_10 : decode (Mc mR_goMove) 10 = .ok (.aload_n 0, 1) := by decide +kernel
theorem dR_goMove_11 : decode (Mc mR_goMove) 11 = .ok (.invokevirtual 64, 3) := by decide +kernel
theorem dR_goMove_14 : decode (Mc mR_goMove) 14 = .ok (.ireturn, 1) := by decide +kernel
theorem dR_goMove_15 : decode (Mc mR_goMove) 15 = .ok (.aload_n 0, 1) := by decide +kernel
theorem dR_goMove_16 : decode (Mc mR_goMove) 16 = .ok (.getfield 9, 3) := by decide +kernel
theorem dR_goMove_19 : decode (Mc mR_goMove) 19 = .ok (.ifCond .ne 5, 3) := by decide +kernel
theorem dR_goMove_22 : decode (Mc mR_goMove) 22 = .ok (.iconst 3, 1) := by decide +kernel
theorem dR_goMove_23 : decode (Mc mR_goMove) 23 = .ok (.ireturn, 1) := by decide +kernel
theorem dR_goMove_24 : decode (Mc mR_goMove) 24 = .ok (.iload_n 1, 1) := by decide +kernel
theorem dR_goMove_25 : decode (Mc mR_goMove) 25 = .ok (.invokestatic 68, 3) := by decide +kernel
theorem dR_goMove_28 : decode (Mc mR_goMove) 28 = .ok (.istore 4, 2) := by decide +kernel
theorem dR_goMove_30 : decode (Mc mR_goMove) 30 = .ok (.iconst 0, 1) := by decide +kernel
theorem dR_goMove_31 : decode (Mc mR_goMove) 31 = .ok (.istore 5, 2) := by decide +kernel
theorem dR_goMove_33 : decode (Mc mR_goMove) 33 = .ok (.iload 5, 2) := by decide +kernel
theorem dR_goMove_35 : decode (Mc mR_goMove) 35 = .ok (.iload 4, 2) := by decide +kernel
theorem dR_goMove_37 : decode (Mc mR_goMove) 37 = .ok (.if_icmp .ge 30, 3) := by decide +kernel
theorem dR_goMove_40 : decode (Mc mR_goMove) 40 = .ok (.aload_n 0, 1) := by decide +kernel
theorem dR_goMove_41 : decode (Mc mR_goMove) 41 = .ok (.iload_n 3, 1) := by decide +kernel
theorem dR_goMove_42 : decode (Mc mR_goMove) 42 = .ok (.iload_n 1, 1) := by decide +kernel
theorem dR_goMove_43 : decode (Mc mR_goMove) 43 = .ok (.invokestatic 71, 3) := by decide +kernel
theorem dR_goMove_46 : decode (Mc mR_goMove) 46 = .ok (.aload_n 2, 1) := by decide +kernel
theorem dR_goMove_47 : decode (Mc mR_goMove) 47 = .ok (.invokevirtual 74, 3) := by decide +kernel
theorem dR_goMove_50 : decode (Mc mR_goMove) 50 = .ok (.istore 6, 2) := by decide +kernel
theorem dR_goMove_52 : decode (Mc mR_goMove) 52 = .ok (.iload 6, 2) := by decide +kernel
theorem dR_goMove_54 : decode (Mc mR_goMove) 54 = .ok (.iconst (-1), 1) := by decide +kernel
theorem dR_goMove_55 : decode (Mc mR_goMove) 55 = .ok (.if_icmp .eq 6, 3) := by decide +kernel
theorem dR_goMove_58 : decode (Mc mR_goMove) 58 = .ok (.iload 6, 2) := by decide +kernel
theorem dR_goMove_60 : decode (Mc mR_goMove) 60 = .ok (.ireturn, 1) := by decide +kernel
theorem dR_goMove_61 : decode (Mc mR_goMove) 61 = .ok (.iinc 5 1, 3) := by decide +kernel
theorem dR_goMove_64 : decode (Mc mR_goMove) 64 = .ok (.goto (-31), 3) := by decide +kernel
theorem dR_goMove_67 : decode (Mc mR_goMove) 67 = .ok (.iconst (-1), 1) := by decide +kernel
theorem dR_goMove_68 : decode (Mc mR_goMove) 68 = .ok (.ireturn, 1) := by decide +kernel
theorem dR_goChange_0 : decode (Mc mR_goChange) 0 = .ok (.aload_n 0, 1) := by decide +kernel
theorem dR_goChange_1 : decode (Mc mR_goChange) 1 = .ok (.getfield 9, 3) := by decide +kernel
theorem dR_goChange_4 : decode (Mc mR_goChange) 4 = .ok (.aload_n 0, 1) := by decide +kernel
theorem dR_goChange_5 : decode (Mc mR_goChange) 5 = .ok (.getfield 31, 3) := by decide +kernel
theorem dR_goChange_8 : decode (Mc mR_goChange) 8 = .ok (.getfield 78, 3) := by decide +kernel
theorem dR_goChange_11 : decode (Mc mR_goChange) 11 = .ok (.if_icmp .lt 5, 3) := by decide +kernel
theorem dR_goChange_14 : decode (Mc mR_goChange) 14 = .ok (.iconst 4, 1) := by decide +kernel
theorem dR_goChange_15 : decode (Mc mR_goChange) 15 = .ok (.ireturn, 1) := by decide +kernel
theorem dR_goChange_16 : decode (Mc mR_goChange) 16 = .ok (.aload_n 0, 1) := by decide +kernel
theorem dR_goChange_17 : decode (Mc mR_goChange) 17 = .ok (.dup, 1) := by decide +kernel
theorem dR_goChange_18 : decode (Mc mR_goChange) 18 = .ok (.getfield 9, 3) := by decide +kernel
theorem dR_goChange_21 : decode (Mc mR_goChange) 21 = .ok (.iconst 1, 1) := by decide +kernel
theorem dR_goChange_22 : decode (Mc mR_goChange) 22 = .ok (.iadd, 1) := by decide +kernel
theorem dR_goChange_23 : decode (Mc mR_goChange) 23 = .ok (.putfield 9, 3) := by decide +kernel
theorem dR_goChange_26 : decode (Mc mR_goChange) 26 = .ok (.aload_n 0, 1) := by decide +kernel
theorem dR_goChange_27 : decode (Mc mR_goChange) 27 = .ok (.bipush 15, 2) := by decide +kernel
theorem dR_goChange_29 : decode (Mc mR_goChange) 29 = .ok (.invokestatic 83, 3) := by decide +kernel
theorem dR_goChange_32 : decode (Mc mR_goChange) 32 = .ok (.putfield 15, 3) := by decide +kernel
theorem dR_goChange_35 : decode (Mc mR_goChange) 35 = .ok (.aload_n 0, 1) := by decide +kernel
theorem dR_goChange_36 : decode (Mc mR_goChange) 36 = .ok (.bipush 15, 2) := by decide +kernel
theorem dR_goChange_38 : decode (Mc mR_goChange) 38 = .ok (.invokestatic 86, 3) := by decide +kernel
theorem dR_goChange_41 : decode (Mc mR_goChange) 41 = .ok (.putfield 18, 3) := by decide +kernel
theorem dR_goChange_44 : decode (Mc mR_goChange) 44 = .ok (.iconst (-1), 1) := by decide +kernel
theorem dR_goChange_45 : decode (Mc mR_goChange) 45 = .ok (.ireturn, 1) := by decide +kernel
theorem dR_goStep_0 : decode (Mc mR_goStep) 0 = .ok (.aload_n 0, 1) := by decide +kernel
theorem dR_goStep_1 : decode (Mc mR_goStep) 1 = .ok (.getfield 31, 3) := by decide +kernel
theorem dR_goStep_4 : decode (Mc mR_goStep) 4 = .ok (.aload_n 0, 1) := by decide +kernel
theorem dR_goStep_5 : decode (Mc mR_goStep) 5 = .ok (.getfield 9, 3) := by decide +kernel
theorem dR_goStep_8 : decode (Mc mR_goStep) 8 = .ok (.iconst 1, 1) := by decide +kernel
theorem dR_goStep_9 : decode (Mc mR_goStep) 9 = .ok (.isub, 1) := by decide +kernel
theorem dR_goStep_10 : decode (Mc mR_goStep) 10 = .ok (.invokevirtual 89, 3) := by decide +kernel
theorem dR_goStep_13 : decode (Mc mR_goStep) 13 = .ok (.astore 4, 2) := by decide +kernel
theorem dR_goStep_15 : decode (Mc mR_goStep) 15 = .ok (.aload_n 0, 1) := by decide +kernel
theorem dR_goStep_16 : decode (Mc mR_goStep) 16 = .ok (.getfield 15, 3) := by decide +kernel
theorem dR_goStep_19 : decode (Mc mR_goStep) 19 = .ok (.getstatic 93, 3) := by decide +kernel
theorem dR_goStep_22 : decode (Mc mR_goStep) 22 = .ok (.iload_n 2, 1) := by decide +kernel
theorem dR_goStep_23 : decode (Mc mR_goStep) 23 = .ok (.iaload, 1) := by decide +kernel
theorem dR_goStep_24 : decode (Mc mR_goStep) 24 = .ok (.iadd, 1) := by decide +kernel
theorem dR_goStep_25 : decode (Mc mR_goStep) 25 = .ok (.istore 5, 2) := by decide +kernel
theorem dR_goStep_27 : decode (Mc mR_goStep) 27 = .ok (.aload_n 0, 1) := by decide +kernel
theorem dR_goStep_28 : decode (Mc mR_goStep) 28 = .ok (.getfield 18, 3) := by decide +kernel
theorem dR_goStep_31 : decode (Mc mR_goStep) 31 = .ok (.getstatic 96, 3) := by decide +kernel
theorem dR_goStep_34 : decode (Mc mR_goStep) 34 = .ok (.iload_n 2, 1) := by decide +kernel
theorem dR_goStep_35 : decode (Mc mR_goStep) 35 = .ok (.iaload, 1) := by decide +kernel
theorem dR_goStep_36 : decode (Mc mR_goStep) 36 = .ok (.iadd, 1) := by decide +kernel
theorem dR_goStep_37 : decode (Mc mR_goStep) 37 = .ok (.istore 6, 2) := by decide +kernel
theorem dR_goStep_39 : decode (Mc mR_goStep) 39 = .ok (.iload 5, 2) := by decide +kernel
theorem dR_goStep_41 : decode (Mc mR_goStep) 41 = .ok (.iload 6, 2) := by decide +kernel
theorem dR_goStep_43 : decode (Mc mR_goStep) 43 = .ok (.invokestatic 99, 3) := by decide +kernel
theorem dR_goStep_46 : decode (Mc mR_goStep) 46 = .ok (.ifCond .eq 19, 3) := by decide +kernel
theorem dR_goStep_49 : decode (Mc mR_goStep) 49 = .ok (.aload 4, 2) := by decide +kernel
theorem dR_goStep_51 : decode (Mc mR_goStep) 51 = .ok (.aload_n 0, 1) := by decide +kernel
theorem dR_goStep_52 : decode (Mc mR_goStep) 52 = .ok (.getfield 27, 3) := by decide +kernel
theorem dR_goStep_55 : decode (Mc mR_goStep) 55 = .ok (.iload 5, 2) := by decide +kernel
theorem dR_goStep_57 : decode (Mc mR_goStep) 57 = .ok (.iload 6, 2) := by decide +kernel
theorem dR_goStep_59 : decode (Mc mR_goStep) 59 = .ok (.invokevirtual 103, 3) := by decide +kernel
theorem dR_goStep_62 : decode (Mc mR_goStep) 62 = .ok (.ifCond .ne 5, 3) := by decide +kernel
theorem dR_goStep_65 : decode (Mc mR_goStep) 65 = .ok (.iconst 1, 1) := by decide +kernel
theorem dR_goStep_66 : decode (Mc mR_goStep) 66 = .ok (.ireturn, 1) := by decide +kernel
theorem dR_goStep_67 : decode (Mc mR_goStep) 67 = .ok (.iload_n 1, 1) := by decide +kernel
theorem dR_goStep_68 : decode (Mc mR_goStep) 68 = .ok (.ifCond .ne 18, 3) := by decide +kernel
theorem dR_goStep_71 : decode (Mc mR_goStep) 71 = .ok (.aload_n 3, 1) := by decide +kernel
theorem dR_goStep_72 : decode (Mc mR_goStep) 72 = .ok (.aload 4, 2) := by decide +kernel
theorem dR_goStep_74 : decode (Mc mR_goStep) 74 = .ok (.iload 5, 2) := by decide +kernel
theorem dR_goStep_76 : decode (Mc mR_goStep) 76 = .ok (.iload 6, 2) := by decide +kernel
theorem dR_goStep_78 : decode (Mc mR_goStep) 78 = .ok (.invokevirtual 109, 3) := by decide +kernel
theorem dR_goStep_81 : decode (Mc mR_goStep) 81 = .ok (.ifCond .eq 5, 3) := by decide +kernel
theorem dR_goStep_84 : decode (Mc mR_goStep) 84 = .ok (.iconst 2, 1) := by decide +kernel
theorem dR_goStep_85 : decode (Mc mR_goStep) 85 = .ok (.ireturn, 1) := by decide +kernel
theorem dR_goStep_86 : decode (Mc mR_goStep) 86 = .ok (.iload_n 1, 1) := by decide +kernel
theorem dR_goStep_87 : decode (Mc mR_goStep) 87 = .ok (.iconst 1, 1) := by decide +kernel
theorem dR_goStep_88 : decode (Mc mR_goStep) 88 = .ok (.if_icmp .ne 22, 3) := by decide +kernel
theorem dR_goStep_91 : decode (Mc mR_goStep) 91 = .ok (.aload_n 0, 1) := by decide +kernel
theorem dR_goStep_92 : decode (Mc mR_goStep) 92 = .ok (.dup, 1) := by decide +kernel
theorem dR_goStep_93 : decode (Mc mR_goStep) 93 = .ok (.getfield 21, 3) := by decide +kernel
theorem dR_goStep_96 : decode (Mc mR_goStep) 96 = .ok (.aload_n 3, 1) := by decide +kernel
theorem dR_goStep_97 : decode (Mc mR_goStep) 97 = .ok (.aload 4, 2) := by decide +kernel
theorem dR_goStep_99 : decode (Mc mR_goStep) 99 = .ok (.iload 5, 2) := by decide +kernel
theorem dR_goStep_101 : decode (Mc mR_goStep) 101 = .ok (.iload 6, 2) := by decide +kernel
theorem dR_goStep_103 : decode (Mc mR_goStep) 103 = .ok (.invokevirtual 113, 3) := by decide +kernel
theorem dR_goStep_106 : decode (Mc mR_goStep) 106 = .ok (.iadd, 1) := by decide +kernel
theorem dR_goStep_107 : decode (Mc mR_goStep) 107 = .ok (.putfield 21, 3) := by decide +kernel
theorem dR_goStep_110 : decode (Mc mR_goStep) 110 = .ok (.aload_n 0, 1) := by decide +kernel
theorem dR_goStep_111 : decode (Mc mR_goStep) 111 = .ok (.iload 5, 2) := by decide +kernel
theorem dR_goStep_113 : decode (Mc mR_goStep) 113 = .ok (.putfield 15, 3) := by decide +kernel
theorem dR_goStep_116 : decode (Mc mR_goStep) 116 = .ok (.aload_n 0, 1) := by decide +kernel
theorem dR_goStep_117 : decode (Mc mR_goStep) 117 = .ok (.iload 6, 2) := by decide +kernel
theorem dR_goStep_119 : decode (Mc mR_goStep) 119 = .ok (.putfield 18, 3) := by decide +kernel
theorem dR_goStep_122 : decode (Mc mR_goStep) 122 = .ok (.iconst (-1), 1) := by decide +kernel
theorem dR_goStep_123 : decode (Mc mR_goStep) 123 = .ok (.ireturn, 1) := by decide +kernel
theorem dT_stock_0 : decode (Mc mT_stock) 0 = .ok (.aload_n 0, 1) := by decide +kernel
theorem dT_stock_1 : decode (Mc mT_stock) 1 = .ok (.getfield 45, 3) := by decide +kernel
theorem dT_stock_4 : decode (Mc mT_stock) 4 = .ok (.iload_n 1, 1) := by decide +kernel
theorem dT_stock_5 : decode (Mc mT_stock) 5 = .ok (.iload_n 2, 1) := by decide +kernel
theorem dT_stock_6 : decode (Mc mT_stock) 6 = .ok (.invokevirtual 207, 3) := by decide +kernel
theorem dT_stock_9 : decode (Mc mT_stock) 9 = .ok (.ireturn, 1) := by decide +kernel
theorem dT_fault_0 : decode (Mc mT_fault) 0 = .ok (.aload_n 0, 1) := by decide +kernel
theorem dT_fault_1 : decode (Mc mT_fault) 1 = .ok (.getfield 79, 3) := by decide +kernel
theorem dT_fault_4 : decode (Mc mT_fault) 4 = .ok (.ifCond .ne 5, 3) := by decide +kernel
theorem dT_fault_7 : decode (Mc mT_fault) 7 = .ok (.iconst (-1), 1) := by decide +kernel
theorem dT_fault_8 : decode (Mc mT_fault) 8 = .ok (.ireturn, 1) := by decide +kernel
theorem dT_fault_9 : decode (Mc mT_fault) 9 = .ok (.aload_n 0, 1) := by decide +kernel
theorem dT_fault_10 : decode (Mc mT_fault) 10 = .ok (.getfield 75, 3) := by decide +kernel
theorem dT_fault_13 : decode (Mc mT_fault) 13 = .ok (.aload_n 0, 1) := by decide +kernel
theorem dT_fault_14 : decode (Mc mT_fault) 14 = .ok (.getfield 39, 3) := by decide +kernel
theorem dT_fault_17 : decode (Mc mT_fault) 17 = .ok (.aload_n 0, 1) := by decide +kernel
theorem dT_fault_18 : decode (Mc mT_fault) 18 = .ok (.getfield 39, 3) := by decide +kernel
theorem dT_fault_21 : decode (Mc mT_fault) 21 = .ok (.getfield 173, 3) := by decide +kernel
theorem dT_fault_24 : decode (Mc mT_fault) 24 = .ok (.aload_n 0, 1) := by decide +kernel
theorem dT_fault_25 : decode (Mc mT_fault) 25 = .ok (.getfield 49, 3) := by decide +kernel
theorem dT_fault_28 : decode (Mc mT_fault) 28 = .ok (.invokevirtual 200, 3) := by decide +kernel
theorem dT_fault_31 : decode (Mc mT_fault) 31 = .ok (.aload_n 0, 1) := by decide +kernel
theorem dT_fault_32 : decode (Mc mT_fault) 32 = .ok (.getfield 75, 3) := by decide +kernel
theorem dT_fault_35 : decode (Mc mT_fault) 35 = .ok (.getfield 210, 3) := by decide +kernel
theorem dT_fault_38 : decode (Mc mT_fault) 38 = .ok (.ireturn, 1) := by decide +kernel
theorem dT_left_0 : decode (Mc mT_left) 0 = .ok (.aload_n 0, 1) := by decide +kernel
theorem dT_left_1 : decode (Mc mT_left) 1 = .ok (.getfield 79, 3) := by decide +kernel
theorem dT_left_4 : decode (Mc mT_left) 4 = .ok (.ifCond .eq 10, 3) := by decide +kernel
theorem dT_left_7 : decode (Mc mT_left) 7 = .ok (.aload_n 0, 1) := by decide +kernel
theorem dT_left_8 : decode (Mc mT_left) 8 = .ok (.getfield 83, 3) := by decide +kernel
theorem dT_left_11 : decode (Mc mT_left) 11 = .ok (.goto 4, 3) := by decide +kernel
theorem dT_left_14 : decode (Mc mT_left) 14 = .ok (.iconst (-1), 1) := by decide +kernel
theorem dT_left_15 : decode (Mc mT_left) 15 = .ok (.ireturn, 1) := by decide +kernel
theorem dT_steps_0 : decode (Mc mT_steps) 0 = .ok (.aload_n 0, 1) := by decide +kernel
theorem dT_steps_1 : decode (Mc mT_steps) 1 = .ok (.getfield 79, 3) := by decide +kernel
theorem dT_steps_4 : decode (Mc mT_steps) 4 = .ok (.ifCond .eq 12, 3) := by decide +kernel
theorem dT_steps_7 : decode (Mc mT_steps) 7 = .ok (.iload_n 1, 1) := by decide +kernel
theorem dT_steps_8 : decode (Mc mT_steps) 8 = .ok (.ifCond .eq 10, 3) := by decide +kernel
theorem dT_steps_11 : decode (Mc mT_steps) 11 = .ok (.iload_n 1, 1) := by decide +kernel
theorem dT_steps_12 : decode (Mc mT_steps) 12 = .ok (.iconst 1, 1) := by decide +kernel
theorem dT_steps_13 : decode (Mc mT_steps) 13 = .ok (.if_icmp .eq 5, 3) := by decide +kernel
theorem dT_steps_16 : decode (Mc mT_steps) 16 = .ok (.iconst 0, 1) := by decide +kernel
theorem dT_steps_17 : decode (Mc mT_steps) 17 = .ok (.ireturn, 1) := by decide +kernel
theorem dT_steps_18 : decode (Mc mT_steps) 18 = .ok (.aload_n 0, 1) := by decide +kernel
theorem dT_steps_19 : decode (Mc mT_steps) 19 = .ok (.getfield 39, 3) := by decide +kernel
theorem dT_steps_22 : decode (Mc mT_steps) 22 = .ok (.iload_n 1, 1) := by decide +kernel
theorem dT_steps_23 : decode (Mc mT_steps) 23 = .ok (.invokevirtual 213, 3) := by decide +kernel
theorem dT_steps_26 : decode (Mc mT_steps) 26 = .ok (.ireturn, 1) := by decide +kernel
theorem dM_countSteps_0 : decode (Mc mM_countSteps) 0 = .ok (.iconst 0, 1) := by decide +kernel
theorem dM_countSteps_1 : decode (Mc mM_countSteps) 1 = .ok (.istore_n 2, 1) := by decide +kernel
theorem dM_countSteps_2 : decode (Mc mM_countSteps) 2 = .ok (.iconst 0, 1) := by decide +kernel
theorem dM_countSteps_3 : decode (Mc mM_countSteps) 3 = .ok (.istore_n 3, 1) := by decide +kernel
theorem dM_countSteps_4 : decode (Mc mM_countSteps) 4 = .ok (.iload_n 3, 1) := by decide +kernel
theorem dM_countSteps_5 : decode (Mc mM_countSteps) 5 = .ok (.aload_n 0, 1) := by decide +kernel
theorem dM_countSteps_6 : decode (Mc mM_countSteps) 6 = .ok (.getfield 15, 3) := by decide +kernel
theorem dM_countSteps_9 : decode (Mc mM_countSteps) 9 = .ok (.if_icmp .ge 34, 3) := by decide +kernel
theorem dM_countSteps_12 : decode (Mc mM_countSteps) 12 = .ok (.aload_n 0, 1) := by decide +kernel
theorem dM_countSteps_13 : decode (Mc mM_countSteps) 13 = .ok (.getfield 9, 3) := by decide +kernel
theorem dM_countSteps_16 : decode (Mc mM_countSteps) 16 = .ok (.iload_n 3, 1) := by decide +kernel
theorem dM_countSteps_17 : decode (Mc mM_countSteps) 17 = .ok (.iaload, 1) := by decide +kernel
theorem dM_countSteps_18 : decode (Mc mM_countSteps) 18 = .ok (.invokestatic 27, 3) := by decide +kernel
theorem dM_countSteps_21 : decode (Mc mM_countSteps) 21 = .ok (.iload_n 1, 1) := by decide +kernel
theorem dM_countSteps_22 : decode (Mc mM_countSteps) 22 = .ok (.if_icmp .ne 15, 3) := by decide +kernel
theorem dM_countSteps_25 : decode (Mc mM_countSteps) 25 = .ok (.iload_n 2, 1) := by decide +kernel
theorem dM_countSteps_26 : decode (Mc mM_countSteps) 26 = .ok (.aload_n 0, 1) := by decide +kernel
theorem dM_countSteps_27 : decode (Mc mM_countSteps) 27 = .ok (.getfield 9, 3) := by decide +kernel
theorem dM_countSteps_30 : decode (Mc mM_countSteps) 30 = .ok (.iload_n 3, 1) := by decide +kernel
theorem dM_countSteps_31 : decode (Mc mM_countSteps) 31 = .ok (.iaload, 1) := by decide +kernel
theorem dM_countSteps_32 : decode (Mc mM_countSteps) 32 = .ok (.invokestatic 34, 3) := by decide +kernel
theorem dM_countSteps_35 : decode (Mc mM_countSteps) 35 = .ok (.iadd, 1) := by decide +kernel
theorem dM_countSteps_36 : decode (Mc mM_countSteps) 36 = .ok (.istore_n 2, 1) := by decide +kernel
theorem dM_countSteps_37 : decode (Mc mM_countSteps) 37 = .ok (.iinc 3 1, 3) := by decide +kernel
theorem dM_countSteps_40 : decode (Mc mM_countSteps) 40 = .ok (.goto (-36), 3) := by decide +kernel
theorem dM_countSteps_43 : decode (Mc mM_countSteps) 43 = .ok (.iload_n 2, 1) := by decide +kernel
theorem dM_countSteps_44 : decode (Mc mM_countSteps) 44 = .ok (.ireturn, 1) := by decide +kernel
theorem dD_init_0 : decode (Mc mD_init) 0 = .ok (.aload_n 0, 1) := by decide +kernel
theorem dD_init_1 : decode (Mc mD_init) 1 = .ok (.invokespecial 1, 3) := by decide +kernel
theorem dD_init_4 : decode (Mc mD_init) 4 = .ok (.aload_n 0, 1) := by decide +kernel
theorem dD_init_5 : decode (Mc mD_init) 5 = .ok (.iconst 1, 1) := by decide +kernel
theorem dD_init_6 : decode (Mc mD_init) 6 = .ok (.putfield 7, 3) := by decide +kernel
theorem dD_init_9 : decode (Mc mD_init) 9 = .ok (.aload_n 0, 1) := by decide +kernel
theorem dD_init_10 : decode (Mc mD_init) 10 = .ok (.iconst 1, 1) := by decide +kernel
theorem dD_init_11 : decode (Mc mD_init) 11 = .ok (.putfield 13, 3) := by decide +kernel
theorem dD_init_14 : decode (Mc mD_init) 14 = .ok (.aload_n 0, 1) := by decide +kernel
theorem dD_init_15 : decode (Mc mD_init) 15 = .ok (.bipush 12, 2) := by decide +kernel
theorem dD_init_17 : decode (Mc mD_init) 17 = .ok (.putfield 16, 3) := by decide +kernel
theorem dD_init_20 : decode (Mc mD_init) 20 = .ok (.aload_n 0, 1) := by decide +kernel
theorem dD_init_21 : decode (Mc mD_init) 21 = .ok (.bipush 12, 2) := by decide +kernel
theorem dD_init_23 : decode (Mc mD_init) 23 = .ok (.newarray .int, 2) := by decide +kernel
theorem dD_init_25 : decode (Mc mD_init) 25 = .ok (.putfield 19, 3) := by decide +kernel
theorem dD_init_28 : decode (Mc mD_init) 28 = .ok (.aload_n 0, 1) := by decide +kernel
theorem dD_init_29 : decode (Mc mD_init) 29 = .ok (.iconst 3, 1) := by decide +kernel
theorem dD_init_30 : decode (Mc mD_init) 30 = .ok (.newarray .int, 2) := by decide +kernel
theorem dD_init_32 : decode (Mc mD_init) 32 = .ok (.putfield 23, 3) := by decide +kernel
theorem dD_init_35 : decode (Mc mD_init) 35 = .ok (.aload_n 0, 1) := by decide +kernel
theorem dD_init_36 : decode (Mc mD_init) 36 = .ok (.bipush 24, 2) := by decide +kernel
theorem dD_init_38 : decode (Mc mD_init) 38 = .ok (.newarray .int, 2) := by decide +kernel
theorem dD_init_40 : decode (Mc mD_init) 40 = .ok (.putfield 26, 3) := by decide +kernel
theorem dD_init_43 : decode (Mc mD_init) 43 = .ok (.aload_n 0, 1) := by decide +kernel
theorem dD_init_44 : decode (Mc mD_init) 44 = .ok (.bipush 24, 2) := by decide +kernel
theorem dD_init_46 : decode (Mc mD_init) 46 = .ok (.newarray .int, 2) := by decide +kernel
theorem dD_init_48 : decode (Mc mD_init) 48 = .ok (.putfield 29, 3) := by decide +kernel
theorem dD_init_51 : decode (Mc mD_init) 51 = .ok (.aload_n 0, 1) := by decide +kernel
theorem dD_init_52 : decode (Mc mD_init) 52 = .ok (.iconst 3, 1) := by decide +kernel
theorem dD_init_53 : decode (Mc mD_init) 53 = .ok (.newarray .int, 2) := by decide +kernel
theorem dD_init_55 : decode (Mc mD_init) 55 = .ok (.putfield 32, 3) := by decide +kernel
theorem dD_init_58 : decode (Mc mD_init) 58 = .ok (.aload_n 0, 1) := by decide +kernel
theorem dD_init_59 : decode (Mc mD_init) 59 = .ok (.sipush 2000, 3) := by decide +kernel
theorem dD_init_62 : decode (Mc mD_init) 62 = .ok (.newarray .int, 2) := by decide +kernel
theorem dD_init_64 : decode (Mc mD_init) 64 = .ok (.putfield 35, 3) := by decide +kernel
theorem dD_init_67 : decode (Mc mD_init) 67 = .ok (.aload_n 0, 1) := by decide +kernel
theorem dD_init_68 : decode (Mc mD_init) 68 = .ok (.sipush 2000, 3) := by decide +kernel
theorem dD_init_71 : decode (Mc mD_init) 71 = .ok (.newarray .int, 2) := by decide +kernel
theorem dD_init_73 : decode (Mc mD_init) 73 = .ok (.putfield 38, 3) := by decide +kernel
theorem dD_init_76 : decode (Mc mD_init) 76 = .ok (.aload_n 0, 1) := by decide +kernel
theorem dD_init_77 : decode (Mc mD_init) 77 = .ok (.sipush 2000, 3) := by decide +kernel
theorem dD_init_80 : decode (Mc mD_init) 80 = .ok (.newarray .int, 2) := by decide +kernel
theorem dD_init_82 : decode (Mc mD_init) 82 = .ok (.putfield 41, 3) := by decide +kernel
theorem dD_init_85 : decode (Mc mD_init) 85 = .ok (.aload_n 0, 1) := by decide +kernel
theorem dD_init_86 : decode (Mc mD_init) 86 = .ok (.sipush 2000, 3) := by decide +kernel
theorem dD_init_89 : decode (Mc mD_init) 89 = .ok (.newarray .int, 2) := by decide +kernel
theorem dD_init_91 : decode (Mc mD_init) 91 = .ok (.putfield 44, 3) := by decide +kernel
theorem dD_init_94 : decode (Mc mD_init) 94 = .ok (.aload_n 0, 1) := by decide +kernel
theorem dD_init_95 : decode (Mc mD_init) 95 = .ok (.sipush 2000, 3) := by decide +kernel
theorem dD_init_98 : decode (Mc mD_init) 98 = .ok (.newarray .int, 2) := by decide +kernel
theorem dD_init_100 : decode (Mc mD_init) 100 = .ok (.putfield 47, 3) := by decide +kernel
theorem dD_init_103 : decode (Mc mD_init) 103 = .ok (.aload_n 0, 1) := by decide +kernel
theorem dD_init_104 : decode (Mc mD_init) 104 = .ok (.sipush 2000, 3) := by decide +kernel
theorem dD_init_107 : decode (Mc mD_init) 107 = .ok (.newarray .int, 2) := by decide +kernel
theorem dD_init_109 : decode (Mc mD_init) 109 = .ok (.putfield 50, 3) := by decide +kernel
theorem dD_init_112 : decode (Mc mD_init) 112 = .ok (.aload_n 0, 1) := by decide +kernel
theorem dD_init_113 : decode (Mc mD_init) 113 = .ok (.bipush 96, 2) := by decide +kernel
theorem dD_init_115 : decode (Mc mD_init) 115 = .ok (.newarray .boolean, 2) := by decide +kernel
theorem dD_init_117 : decode (Mc mD_init) 117 = .ok (.putfield 53, 3) := by decide +kernel
theorem dD_init_120 : decode (Mc mD_init) 120 = .ok (.aload_n 0, 1) := by decide +kernel
theorem dD_init_121 : decode (Mc mD_init) 121 = .ok (.bipush 96, 2) := by decide +kernel
theorem dD_init_123 : decode (Mc mD_init) 123 = .ok (.newarray .boolean, 2) := by decide +kernel
theorem dD_init_125 : decode (Mc mD_init) 125 = .ok (.putfield 57, 3) := by decide +kernel
theorem dD_init_128 : decode (Mc mD_init) 128 = .ok (.aload_n 0, 1) := by decide +kernel
theorem dD_init_129 : decode (Mc mD_init) 129 = .ok (.sipush 320, 3) := by decide +kernel
theorem dD_init_132 : decode (Mc mD_init) 132 = .ok (.newarray .boolean, 2) := by decide +kernel
theorem dD_init_134 : decode (Mc mD_init) 134 = .ok (.putfield 60, 3) := by decide +kernel
theorem dD_init_137 : decode (Mc mD_init) 137 = .ok (.aload_n 0, 1) := by decide +kernel
theorem dD_init_138 : decode (Mc mD_init) 138 = .ok (.sipush 320, 3) := by decide +kernel
theorem dD_init_141 : decode (Mc mD_init) 141 = .ok (.newarray .int, 2) := by decide +kernel
theorem dD_init_143 : decode (Mc mD_init) 143 = .ok (.putfield 63, 3) := by decide +kernel
theorem dD_init_146 : decode (Mc mD_init) 146 = .ok (.aload_n 0, 1) := by decide +kernel
theorem dD_init_147 : decode (Mc mD_init) 147 = .ok (.sipush 320, 3) := by decide +kernel
theorem dD_init_150 : decode (Mc mD_init) 150 = .ok (.newarray .int, 2) := by decide +kernel
theorem dD_init_152 : decode (Mc mD_init) 152 = .ok (.putfield 66, 3) := by decide +kernel
theorem dD_init_155 : decode (Mc mD_init) 155 = .ok (.return_, 1) := by decide +kernel
theorem dD_bar_0 : decode (Mc mD_bar) 0 = .ok (.iload_n 1, 1) := by decide +kernel
theorem dD_bar_1 : decode (Mc mD_bar) 1 = .ok (.iconst 1, 1) := by decide +kernel
theorem dD_bar_2 : decode (Mc mD_bar) 2 = .ok (.if_icmp .lt 30, 3) := by decide +kernel
theorem dD_bar_5 : decode (Mc mD_bar) 5 = .ok (.iload_n 1, 1) := by decide +kernel
theorem dD_bar_6 : decode (Mc mD_bar) 6 = .ok (.bipush 8, 2) := by decide +kernel
theorem dD_bar_8 : decode (Mc mD_bar) 8 = .ok (.if_icmp .gt 24, 3) := by decide +kernel
theorem dD_bar_11 : decode (Mc mD_bar) 11 = .ok (.iload_n 2, 1) := by decide +kernel
theorem dD_bar_12 : decode (Mc mD_bar) 12 = .ok (.iconst 1, 1) := by decide +kernel
theorem dD_bar_13 : decode (Mc mD_bar) 13 = .ok (.if_icmp .lt 19, 3) := by decide +kernel
theorem dD_bar_16 : decode (Mc mD_bar) 16 = .ok (.iload_n 2, 1) := by decide +kernel
theorem dD_bar_17 : decode (Mc mD_bar) 17 = .ok (.bipush 12, 2) := by decide +kernel
theorem dD_bar_19 : decode (Mc mD_bar) 19 = .ok (.if_icmp .gt 13, 3) := by decide +kernel
theorem dD_bar_22 : decode (Mc mD_bar) 22 = .ok (.iload_n 3, 1) := by decide +kernel
theorem dD_bar_23 : decode (Mc mD_bar) 23 = .ok (.ifCond .lt 9, 3) := by decide +kernel
theorem dD_bar_26 : decode (Mc mD_bar) 26 = .ok (.iload_n 3, 1) := by decide +kernel
theorem dD_bar_27 : decode (Mc mD_bar) 27 = .ok (.bipush 12, 2) := by decide +kernel
theorem dD_bar_29 : decode (Mc mD_bar) 29 = .ok (.if_icmp .le 5, 3) := by decide +kernel
theorem dD_bar_32 : decode (Mc mD_bar) 32 = .ok (.iconst 0, 1) := by decide +kernel
theorem dD_bar_33 : decode (Mc mD_bar) 33 = .ok (.ireturn, 1) := by decide +kernel
theorem dD_bar_34 : decode (Mc mD_bar) 34 = .ok (.aload_n 0, 1) := by decide +kernel
theorem dD_bar_35 : decode (Mc mD_bar) 35 = .ok (.iload_n 1, 1) := by decide +kernel
theorem dD_bar_36 : decode (Mc mD_bar) 36 = .ok (.putfield 7, 3) := by decide +kernel
theorem dD_bar_39 : decode (Mc mD_bar) 39 = .ok (.aload_n 0, 1) := by decide +kernel
theorem dD_bar_40 : decode (Mc mD_bar) 40 = .ok (.iload_n 2, 1) := by decide +kernel
theorem dD_bar_41 : decode (Mc mD_bar) 41 = .ok (.putfield 13, 3) := by decide +kernel
theorem dD_bar_44 : decode (Mc mD_bar) 44 = .ok (.aload_n 0, 1) := by decide +kernel
theorem dD_bar_45 : decode (Mc mD_bar) 45 = .ok (.iload_n 3, 1) := by decide +kernel
theorem dD_bar_46 : decode (Mc mD_bar) 46 = .ok (.putfield 16, 3) := by decide +kernel
theorem dD_bar_49 : decode (Mc mD_bar) 49 = .ok (.aload_n 0, 1) := by decide +kernel
theorem dD_bar_50 : decode (Mc mD_bar) 50 = .ok (.invokevirtual 79, 3) := by decide +kernel
theorem dD_bar_53 : decode (Mc mD_bar) 53 = .ok (.iconst 1, 1) := by decide +kernel
theorem dD_bar_54 : decode (Mc mD_bar) 54 = .ok (.ireturn, 1) := by decide +kernel
theorem dD_drop_0 : decode (Mc mD_drop) 0 = .ok (.aload_n 0, 1) := by decide +kernel
theorem dD_drop_1 : decode (Mc mD_drop) 1 = .ok (.iconst 0, 1) := by decide +kernel
theorem dD_drop_2 : decode (Mc mD_drop) 2 = .ok (.putfield 69, 3) := by decide +kernel
theorem dD_drop_5 : decode (Mc mD_drop) 5 = .ok (.aload_n 0, 1) := by decide +kernel
theorem dD_drop_6 : decode (Mc mD_drop) 6 = .ok (.iconst 0, 1) := by decide +kernel
theorem dD_drop_7 : decode (Mc mD_drop) 7 = .ok (.putfield 73, 3) := by decide +kernel
theorem dD_drop_10 : decode (Mc mD_drop) 10 = .ok (.aload_n 0, 1) := by decide +kernel
theorem dD_drop_11 : decode (Mc mD_drop) 11 = .ok (.iconst 0, 1) := by decide +kernel
theorem dD_drop_12 : decode (Mc mD_drop) 12 = .ok (.putfield 76, 3) := by decide +kernel
theorem dD_drop_15 : decode (Mc mD_drop) 15 = .ok (.return_, 1) := by decide +kernel
theorem dD_profile_0 : decode (Mc mD_profile) 0 = .ok (.iload_n 1, 1) := by decide +kernel
theorem dD_profile_1 : decode (Mc mD_profile) 1 = .ok (.ifCond .lt 19, 3) := by decide +kernel
theorem dD_profile_4 : decode (Mc mD_profile) 4 = .ok (.iload_n 1, 1) := by decide +kernel
theorem dD_profile_5 : decode (Mc mD_profile) 5 = .ok (.bipush 11, 2) := by decide +kernel
theorem dD_profile_7 : decode (Mc mD_profile) 7 = .ok (.if_icmp .gt 13, 3) := by decide +kernel
theorem dD_profile_10 : decode (Mc mD_profile) 10 = .ok (.iload_n 2, 1) := by decide +kernel
theorem dD_profile_11 : decode (Mc mD_profile) 11 = .ok (.ifCond .lt 9, 3) := by decide +kernel
theorem dD_profile_14 : decode (Mc mD_profile) 14 = .ok (.iload_n 2, 1) := by decide +kernel
theorem dD_profile_15 : decode (Mc mD_profile) 15 = .ok (.bipush 8, 2) := by decide +kernel
theorem dD_profile_17 : decode (Mc mD_profile) 17 = .ok (.if_icmp .le 5, 3) := by decide +kernel
theorem dD_profile_20 : decode (Mc mD_profile) 20 = .ok (.iconst 0, 1) := by decide +kernel
theorem dD_profile_21 : decode (Mc mD_profile) 21 = .ok (.ireturn, 1) := by decide +kernel
theorem dD_profile_22 : decode (Mc mD_profile) 22 = .ok (.aload_n 0, 1) := by decide +kernel
theorem dD_profile_23 : decode (Mc mD_profile) 23 = .ok (.getfield 19, 3) := by decide +kernel
theorem dD_profile_26 : decode (Mc mD_profile) 26 = .ok (.iload_n 1, 1) := by decide +kernel
theorem dD_profile_27 : decode (Mc mD_profile) 27 = .ok (.iload_n 2, 1) := by decide +kernel
theorem dD_profile_28 : decode (Mc mD_profile) 28 = .ok (.iastore, 1) := by decide +kernel
theorem dD_profile_29 : decode (Mc mD_profile) 29 = .ok (.aload_n 0, 1) := by decide +kernel
theorem dD_profile_30 : decode (Mc mD_profile) 30 = .ok (.invokevirtual 79, 3) := by decide +kernel
theorem dD_profile_33 : decode (Mc mD_profile) 33 = .ok (.iconst 1, 1) := by decide +kernel
theorem dD_profile_34 : decode (Mc mD_profile) 34 = .ok (.ireturn, 1) := by decide +kernel
theorem dD_spot_0 : decode (Mc mD_spot) 0 = .ok (.iload_n 1, 1) := by decide +kernel
theorem dD_spot_1 : decode (Mc mD_spot) 1 = .ok (.invokestatic 82, 3) := by decide +kernel
theorem dD_spot_4 : decode (Mc mD_spot) 4 = .ok (.ifCond .eq 34, 3) := by decide +kernel
theorem dD_spot_7 : decode (Mc mD_spot) 7 = .ok (.iload_n 2, 1) := by decide +kernel
theorem dD_spot_8 : decode (Mc mD_spot) 8 = .ok (.bipush (-2), 2) := by decide +kernel
theorem dD_spot_10 : decode (Mc mD_spot) 10 = .ok (.if_icmp .lt 28, 3) := by decide +kernel
theorem dD_spot_13 : decode (Mc mD_spot) 13 = .ok (.iload_n 2, 1) := by decide +kernel
theorem dD_spot_14 : decode (Mc mD_spot) 14 = .ok (.iconst 2, 1) := by decide +kernel
theorem dD_spot_15 : decode (Mc mD_spot) 15 = .ok (.if_icmp .gt 23, 3) := by decide +kernel
theorem dD_spot_18 : decode (Mc mD_spot) 18 = .ok (.iload_n 3, 1) := by decide +kernel
theorem dD_spot_19 : decode (Mc mD_spot) 19 = .ok (.ifCond .lt 19, 3) := by decide +kernel
theorem dD_spot_22 : decode (Mc mD_spot) 22 = .ok (.iload_n 3, 1) := by decide +kernel
theorem dD_spot_23 : decode (Mc mD_spot) 23 = .ok (.iconst 4, 1) := by decide +kernel
theorem dD_spot_24 : decode (Mc mD_spot) 24 = .ok (.if_icmp .gt 14, 3) := by decide +kernel
theorem dD_spot_27 : decode (Mc mD_spot) 27 = .ok (.aload_n 0, 1) := by decide +kernel
theorem dD_spot_28 : decode (Mc mD_spot) 28 = .ok (.getfield 23, 3) := by decide +kernel
theorem dD_spot_31 : decode (Mc mD_spot) 31 = .ok (.iload_n 1, 1) := by decide +kernel
theorem dD_spot_32 : decode (Mc mD_spot) 32 = .ok (.iaload, 1) := by decide +kernel
theorem dD_spot_33 : decode (Mc mD_spot) 33 = .ok (.bipush 8, 2) := by decide +kernel
theorem dD_spot_35 : decode (Mc mD_spot) 35 = .ok (.if_icmp .ne 5, 3) := by decide +kernel
theorem dD_spot_38 : decode (Mc mD_spot) 38 = .ok (.iconst 0, 1) := by decide +kernel
theorem dD_spot_39 : decode (Mc mD_spot) 39 = .ok (.ireturn, 1) := by decide +kernel
theorem dD_spot_40 : decode (Mc mD_spot) 40 = .ok (.iconst 0, 1) := by decide +kernel
theorem dD_spot_41 : decode (Mc mD_spot) 41 = .ok (.istore 4, 2) := by decide +kernel
theorem dD_spot_43 : decode (Mc mD_spot) 43 = .ok (.bipush 8, 2) := by decide +kernel
theorem dD_spot_45 : decode (Mc mD_spot) 45 = .ok (.iload_n 1, 1) := by decide +kernel
theorem dD_spot_46 : decode (Mc mD_spot) 46 = .ok (.imul, 1) := by decide +kernel
theorem dD_spot_47 : decode (Mc mD_spot) 47 = .ok (.istore 5, 2) := by decide +kernel
theorem dD_spot_49 : decode (Mc mD_spot) 49 = .ok (.iload 5, 2) := by decide +kernel
theorem dD_spot_51 : decode (Mc mD_spot) 51 = .ok (.bipush 8, 2) := by decide +kernel
theorem dD_spot_53 : decode (Mc mD_spot) 53 = .ok (.iload_n 1, 1) := by decide +kernel
theorem dD_spot_54 : decode (Mc mD_spot) 54 = .ok (.imul, 1) := by decide +kernel
theorem dD_spot_55 : decode (Mc mD_spot) 55 = .ok (.aload_n 0, 1) := by decide +kernel
theorem dD_spot_56 : decode (Mc mD_spot) 56 = .ok (.getfield 23, 3) := by decide +kernel
theorem dD_spot_59 : decode (Mc mD_spot) 59 = .ok (.iload_n 1, 1) := by decide +kernel
theorem dD_spot_60 : decode (Mc mD_spot) 60 = .ok (.iaload, 1) := by decide +kernel
theorem dD_spot_61 : decode (Mc mD_spot) 61 = .ok (.iadd, 1) := by decide +kernel
theorem dD_spot_62 : decode (Mc mD_spot) 62 = .ok (.if_icmp .ge 43, 3) := by decide +kernel
theorem dD_spot_65 : decode (Mc mD_spot) 65 = .ok (.iload 4, 2) := by decide +kernel
theorem dD_spot_67 : decode (Mc mD_spot) 67 = .ok (.ifCond .ne 25, 3) := by decide +kernel
theorem dD_spot_70 : decode (Mc mD_spot) 70 = .ok (.aload_n 0, 1) := by decide +kernel
theorem dD_spot_71 : decode (Mc mD_spot) 71 = .ok (.getfield 26, 3) := by decide +kernel
theorem dD_spot_74 : decode (Mc mD_spot) 74 = .ok (.iload 5, 2) := by decide +kernel
theorem dD_spot_76 : decode (Mc mD_spot) 76 = .ok (.iaload, 1) := by decide +kernel
theorem dD_spot_77 : decode (Mc mD_spot) 77 = .ok (.iload_n 2, 1) := by decide +kernel
theorem dD_spot_78 : decode (Mc mD_spot) 78 = .ok (.if_icmp .ne 18, 3) := by decide +kernel
theorem dD_spot_81 : decode (Mc mD_spot) 81 = .ok (.aload_n 0, 1) := by decide +kernel
theorem dD_spot_82 : decode (Mc mD_spot) 82 = .ok (.getfield 29, 3) := by decide +kernel
theorem dD_spot_85 : decode (Mc mD_spot) 85 = .ok (.iload 5, 2) := by decide +kernel
theorem dD_spot_87 : decode (Mc mD_spot) 87 = .ok (.iaload, 1) := by decide +kernel
theorem dD_spot_88 : decode (Mc mD_spot) 88 = .ok (.iload_n 3, 1) := by decide +kernel
theorem dD_spot_89 : decode (Mc mD_spot) 89 = .ok (.if_icmp .ne 7, 3) := by decide +kernel
theorem dD_spot_92 : decode (Mc mD_spot) 92 = .ok (.iconst 1, 1) := by decide +kernel
theorem dD_spot_93 : decode (Mc mD_spot) 93 = .ok (.goto 4, 3) := by decide +kernel
theorem dD_spot_96 : decode (Mc mD_spot) 96 = .ok (.iconst 0, 1) := by decide +kernel
theorem dD_spot_97 : decode (Mc mD_spot) 97 = .ok (.istore 4, 2) := by decide +kernel
theorem dD_spot_99 : decode (Mc mD_spot) 99 = .ok (.iinc 5 1, 3) := by decide +kernel
theorem dD_spot_102 : decode (Mc mD_spot) 102 = .ok (.goto (-53), 3) := by decide +kernel
theorem dD_spot_105 : decode (Mc mD_spot) 105 = .ok (.iload 4, 2) := by decide +kernel
theorem dD_spot_107 : decode (Mc mD_spot) 107 = .ok (.ifCond .eq 5, 3) := by decide +kernel
theorem dD_spot_110 : decode (Mc mD_spot) 110 = .ok (.iconst 0, 1) := by decide +kernel
theorem dD_spot_111 : decode (Mc mD_spot) 111 = .ok (.ireturn, 1) := by decide +kernel
theorem dD_spot_112 : decode (Mc mD_spot) 112 = .ok (.aload_n 0, 1) := by decide +kernel
theorem dD_spot_113 : decode (Mc mD_spot) 113 = .ok (.getfield 26, 3) := by decide +kernel
theorem dD_spot_116 : decode (Mc mD_spot) 116 = .ok (.bipush 8, 2) := by decide +kernel
theorem dD_spot_118 : decode (Mc mD_spot) 118 = .ok (.iload_n 1, 1) := by decide +kernel
theorem dD_spot_119 : decode (Mc mD_spot) 119 = .ok (.imul, 1) := by decide +kernel
theorem dD_spot_120 : decode (Mc mD_spot) 120 = .ok (.aload_n 0, 1) := by decide +kernel
theorem dD_spot_121 : decode (Mc mD_spot) 121 = .ok (.getfield 23, 3) := by decide +kernel
theorem dD_spot_124 : decode (Mc mD_spot) 124 = .ok (.iload_n 1, 1) := by decide +kernel
theorem dD_spot_125 : decode (Mc mD_spot) 125 = .ok (.iaload, 1) := by decide +kernel
theorem dD_spot_126 : decode (Mc mD_spot) 126 = .ok (.iadd, 1) := by decide +kernel
theorem dD_spot_127 : decode (Mc mD_spot) 127 = .ok (.iload_n 2, 1) := by decide +kernel
theorem dD_spot_128 : decode (Mc mD_spot) 128 = .ok (.iastore, 1) := by decide +kernel
theorem dD_spot_129 : decode (Mc mD_spot) 129 = .ok (.aload_n 0, 1) := by decide +kernel
theorem dD_spot_130 : decode (Mc mD_spot) 130 = .ok (.getfield 29, 3) := by decide +kernel
theorem dD_spot_133 : decode (Mc mD_spot) 133 = .ok (.bipush 8, 2) := by decide +kernel
theorem dD_spot_135 : decode (Mc mD_spot) 135 = .ok (.iload_n 1, 1) := by decide +kernel
theorem dD_spot_136 : decode (Mc mD_spot) 136 = .ok (.imul, 1) := by decide +kernel
theorem dD_spot_137 : decode (Mc mD_spot) 137 = .ok (.aload_n 0, 1) := by decide +kernel
theorem dD_spot_138 : decode (Mc mD_spot) 138 = .ok (.getfield 23, 3) := by decide +kernel
theorem dD_spot_141 : decode (Mc mD_spot) 141 = .ok (.iload_n 1, 1) := by decide +kernel
theorem dD_spot_142 : decode (Mc mD_spot) 142 = .ok (.iaload, 1) := by decide +kernel
theorem dD_spot_143 : decode (Mc mD_spot) 143 = .ok (.iadd, 1) := by decide +kernel
theorem dD_spot_144 : decode (Mc mD_spot) 144 = .ok (.iload_n 3, 1) := by decide +kernel
theorem dD_spot_145 : decode (Mc mD_spot) 145 = .ok (.iastore, 1) := by decide +kernel
theorem dD_spot_146 : decode (Mc mD_spot) 146 = .ok (.aload_n 0, 1) := by decide +kernel
theorem dD_spot_147 : decode (Mc mD_spot) 147 = .ok (.getfield 23, 3) := by decide +kernel
theorem dD_spot_150 : decode (Mc mD_spot) 150 = .ok (.iload_n 1, 1) := by decide +kernel
theorem dD_spot_151 : decode (Mc mD_spot) 151 = .ok (.aload_n 0, 1) := by decide +kernel
theorem dD_spot_152 : decode (Mc mD_spot) 152 = .ok (.getfield 23, 3) := by decide +kernel
theorem dD_spot_155 : decode (Mc mD_spot) 155 = .ok (.iload_n 1, 1) := by decide +kernel
theorem dD_spot_156 : decode (Mc mD_spot) 156 = .ok (.iaload, 1) := by decide +kernel
theorem dD_spot_157 : decode (Mc mD_spot) 157 = .ok (.iconst 1, 1) := by decide +kernel
theorem dD_spot_158 : decode (Mc mD_spot) 158 = .ok (.iadd, 1) := by decide +kernel
theorem dD_spot_159 : decode (Mc mD_spot) 159 = .ok (.iastore, 1) := by decide +kernel
theorem dD_spot_160 : decode (Mc mD_spot) 160 = .ok (.aload_n 0, 1) := by decide +kernel
theorem dD_spot_161 : decode (Mc mD_spot) 161 = .ok (.invokevirtual 79, 3) := by decide +kernel
theorem dD_spot_164 : decode (Mc mD_spot) 164 = .ok (.iconst 1, 1) := by decide +kernel
theorem dD_spot_165 : decode (Mc mD_spot) 165 = .ok (.ireturn, 1) := by decide +kernel
theorem dD_isInsert_0 : decode (Mc mD_isInsert) 0 = .ok (.iload_n 0, 1) := by decide +kernel
theorem dD_isInsert_1 : decode (Mc mD_isInsert) 1 = .ok (.ifCond .lt 12, 3) := by decide +kernel
theorem dD_isInsert_4 : decode (Mc mD_isInsert) 4 = .ok (.iload_n 0, 1) := by decide +kernel
theorem dD_isInsert_5 : decode (Mc mD_isInsert) 5 = .ok (.iconst 3, 1) := by decide +kernel
theorem dD_isInsert_6 : decode (Mc mD_isInsert) 6 = .ok (.if_icmp .ge 7, 3) := by decide +kernel
theorem dD_isInsert_9 : decode (Mc mD_isInsert) 9 = .ok (.iconst 1, 1) := by decide +kernel
theorem dD_isInsert_10 : decode (Mc mD_isInsert) 10 = .ok (.goto 4, 3) := by decide +kernel
theorem dD_isInsert_13 : decode (Mc mD_isInsert) 13 = .ok (.iconst 0, 1) := by decide +kernel
theorem dD_isInsert_14 : decode (Mc mD_isInsert) 14 = .ok (.ireturn, 1) := by decide +kernel
theorem dD_clear_0 : decode (Mc mD_clear) 0 = .ok (.iload_n 1, 1) := by decide +kernel
theorem dD_clear_1 : decode (Mc mD_clear) 1 = .ok (.invokestatic 82, 3) := by decide +kernel
theorem dD_clear_4 : decode (Mc mD_clear) 4 = .ok (.ifCond .ne 5, 3) := by decide +kernel
theorem dD_clear_7 : decode (Mc mD_clear) 7 = .ok (.iconst (-1), 1) := by decide +kernel
theorem dD_clear_8 : decode (Mc mD_clear) 8 = .ok (.ireturn, 1) := by decide +kernel
theorem dD_clear_9 : decode (Mc mD_clear) 9 = .ok (.aload_n 0, 1) := by decide +kernel
theorem dD_clear_10 : decode (Mc mD_clear) 10 = .ok (.getfield 23, 3) := by decide +kernel
theorem dD_clear_13 : decode (Mc mD_clear) 13 = .ok (.iload_n 1, 1) := by decide +kernel
theorem dD_clear_14 : decode (Mc mD_clear) 14 = .ok (.iaload, 1) := by decide +kernel
theorem dD_clear_15 : decode (Mc mD_clear) 15 = .ok (.istore_n 2, 1) := by decide +kernel
theorem dD_clear_16 : decode (Mc mD_clear) 16 = .ok (.aload_n 0, 1) := by decide +kernel
theorem dD_clear_17 : decode (Mc mD_clear) 17 = .ok (.getfield 23, 3) := by decide +kernel
theorem dD_clear_20 : decode (Mc mD_clear) 20 = .ok (.iload_n 1, 1) := by decide +kernel
theorem dD_clear_21 : decode (Mc mD_clear) 21 = .ok (.iconst 0, 1) := by decide +kernel
theorem dD_clear_22 : decode (Mc mD_clear) 22 = .ok (.iastore, 1) := by decide +kernel
theorem dD_clear_23 : decode (Mc mD_clear) 23 = .ok (.aload_n 0, 1) := by decide +kernel
theorem dD_clear_24 : decode (Mc mD_clear) 24 = .ok (.invokevirtual 79, 3) := by decide +kernel
theorem dD_clear_27 : decode (Mc mD_clear) 27 = .ok (.iload_n 2, 1) := by decide +kernel
theorem dD_clear_28 : decode (Mc mD_clear) 28 = .ok (.ireturn, 1) := by decide +kernel
theorem dD_choose_0 : decode (Mc mD_choose) 0 = .ok (.iload_n 1, 1) := by decide +kernel
theorem dD_choose_1 : decode (Mc mD_choose) 1 = .ok (.invokestatic 82, 3) := by decide +kernel
theorem dD_choose_4 : decode (Mc mD_choose) 4 = .ok (.ifCond .eq 20, 3) := by decide +kernel
theorem dD_choose_7 : decode (Mc mD_choose) 7 = .ok (.aload_n 0, 1) := by decide +kernel
theorem dD_choose_8 : decode (Mc mD_choose) 8 = .ok (.getfield 23, 3) := by decide +kernel
theorem dD_choose_11 : decode (Mc mD_choose) 11 = .ok (.iload_n 1, 1) := by decide +kernel
theorem dD_choose_12 : decode (Mc mD_choose) 12 = .ok (.iaload, 1) := by decide +kernel
theorem dD_choose_13 : decode (Mc mD_choose) 13 = .ok (.ifCond .eq 11, 3) := by decide +kernel
theorem dD_choose_16 : decode (Mc mD_choose) 16 = .ok (.aload_n 0, 1) := by decide +kernel
theorem dD_choose_17 : decode (Mc mD_choose) 17 = .ok (.getfield 86, 3) := by decide +kernel
theorem dD_choose_20 : decode (Mc mD_choose) 20 = .ok (.iconst 3, 1) := by decide +kernel
theorem dD_choose_21 : decode (Mc mD_choose) 21 = .ok (.if_icmp .ne 5, 3) := by decide +kernel
theorem dD_choose_24 : decode (Mc mD_choose) 24 = .ok (.iconst (-1), 1) := by decide +kernel
theorem dD_choose_25 : decode (Mc mD_choose) 25 = .ok (.ireturn, 1) := by decide +kernel
theorem dD_choose_26 : decode (Mc mD_choose) 26 = .ok (.aload_n 0, 1) := by decide +kernel
theorem dD_choose_27 : decode (Mc mD_choose) 27 = .ok (.getfield 32, 3) := by decide +kernel
theorem dD_choose_30 : decode (Mc mD_choose) 30 = .ok (.aload_n 0, 1) := by decide +kernel
theorem dD_choose_31 : decode (Mc mD_choose) 31 = .ok (.getfield 86, 3) := by decide +kernel
theorem dD_choose_34 : decode (Mc mD_choose) 34 = .ok (.iload_n 1, 1) := by decide +kernel
theorem dD_choose_35 : decode (Mc mD_choose) 35 = .ok (.iastore, 1) := by decide +kernel
theorem dD_choose_36 : decode (Mc mD_choose) 36 = .ok (.aload_n 0, 1) := by decide +kernel
theorem dD_choose_37 : decode (Mc mD_choose) 37 = .ok (.aload_n 0, 1) := by decide +kernel
theorem dD_choose_38 : decode (Mc mD_choose) 38 = .ok (.getfield 86, 3) := by decide +kernel
theorem dD_choose_41 : decode (Mc mD_choose) 41 = .ok (.iconst 1, 1) := by decide +kernel
theorem dD_choose_42 : decode (Mc mD_choose) 42 = .ok (.iadd, 1) := by decide +kernel
theorem dD_choose_43 : decode (Mc mD_choose) 43 = .ok (.putfield 86, 3) := by decide +kernel
theorem dD_choose_46 : decode (Mc mD_choose) 46 = .ok (.aload_n 0, 1) := by decide +kernel
theorem dD_choose_47 : decode (Mc mD_choose) 47 = .ok (.invokevirtual 79, 3) := by decide +kernel
theorem dD_choose_50 : decode (Mc mD_choose) 50 = .ok (.aload_n 0, 1) := by decide +kernel
theorem dD_choose_51 : decode (Mc mD_choose) 51 = .ok (.getfield 86, 3) := by decide +kernel
theorem dD_choose_54 : decode (Mc mD_choose) 54 = .ok (.ireturn, 1) := by decide +kernel
theorem dD_restart_0 : decode (Mc mD_restart) 0 = .ok (.aload_n 0, 1) := by decide +kernel
theorem dD_restart_1 : decode (Mc mD_restart) 1 = .ok (.getfield 86, 3) := by decide +kernel
theorem dD_restart_4 : decode (Mc mD_restart) 4 = .ok (.istore_n 1, 1) := by decide +kernel
theorem dD_restart_5 : decode (Mc mD_restart) 5 = .ok (.aload_n 0, 1) := by decide +kernel
theorem dD_restart_6 : decode (Mc mD_restart) 6 = .ok (.iconst 0, 1) := by decide +kernel
theorem dD_restart_7 : decode (Mc mD_restart) 7 = .ok (.putfield 86, 3) := by decide +kernel
theorem dD_restart_10 : decode (Mc mD_restart) 10 = .ok (.aload_n 0, 1) := by decide +kernel
theorem dD_restart_11 : decode (Mc mD_restart) 11 = .ok (.invokevirtual 79, 3) := by decide +kernel
theorem dD_restart_14 : decode (Mc mD_restart) 14 = .ok (.iload_n 1, 1) := by decide +kernel
theorem dD_restart_15 : decode (Mc mD_restart) 15 = .ok (.ireturn, 1) := by decide +kernel
theorem dD_at_0 : decode (Mc mD_at) 0 = .ok (.iload_n 1, 1) := by decide +kernel
theorem dD_at_1 : decode (Mc mD_at) 1 = .ok (.invokestatic 82, 3) := by decide +kernel
theorem dD_at_4 : decode (Mc mD_at) 4 = .ok (.ifCond .eq 22, 3) := by decide +kernel
theorem dD_at_7 : decode (Mc mD_at) 7 = .ok (.iload_n 2, 1) := by decide +kernel
theorem dD_at_8 : decode (Mc mD_at) 8 = .ok (.iload_n 3, 1) := by decide +kernel
theorem dD_at_9 : decode (Mc mD_at) 9 = .ok (.invokestatic 96, 3) := by decide +kernel
theorem dD_at_12 : decode (Mc mD_at) 12 = .ok (.ifCond .eq 14, 3) := by decide +kernel
theorem dD_at_15 : decode (Mc mD_at) 15 = .ok (.iload 4, 2) := by decide +kernel
theorem dD_at_17 : decode (Mc mD_at) 17 = .ok (.ifCond .lt 9, 3) := by decide +kernel
theorem dD_at_20 : decode (Mc mD_at) 20 = .ok (.iload 4, 2) := by decide +kernel
theorem dD_at_22 : decode (Mc mD_at) 22 = .ok (.iconst 2, 1) := by decide +kernel
theorem dD_at_23 : decode (Mc mD_at) 23 = .ok (.if_icmp .le 5, 3) := by decide +kernel
theorem dD_at_26 : decode (Mc mD_at) 26 = .ok (.iconst 0, 1) := by decide +kernel
theorem dD_at_27 : decode (Mc mD_at) 27 = .ok (.ireturn, 1) := by decide +kernel
theorem dD_at_28 : decode (Mc mD_at) 28 = .ok (.iload_n 2, 1) := by decide +kernel
theorem dD_at_29 : decode (Mc mD_at) 29 = .ok (.iload_n 3, 1) := by decide +kernel
theorem dD_at_30 : decode (Mc mD_at) 30 = .ok (.invokestatic 100, 3) := by decide +kernel
theorem dD_at_33 : decode (Mc mD_at) 33 = .ok (.istore 5, 2) := by decide +kernel
theorem dD_at_35 : decode (Mc mD_at) 35 = .ok (.iload 4, 2) := by decide +kernel
theorem dD_at_37 : decode (Mc mD_at) 37 = .ok (.ifCond .ne 11, 3) := by decide +kernel
theorem dD_at_40 : decode (Mc mD_at) 40 = .ok (.aload_n 0, 1) := by decide +kernel
theorem dD_at_41 : decode (Mc mD_at) 41 = .ok (.iload_n 1, 1) := by decide +kernel
theorem dD_at_42 : decode (Mc mD_at) 42 = .ok (.iload 5, 2) := by decide +kernel
theorem dD_at_44 : decode (Mc mD_at) 44 = .ok (.invokevirtual 113, 3) := by decide +kernel
theorem dD_at_47 : decode (Mc mD_at) 47 = .ok (.ireturn, 1) := by decide +kernel
theorem dD_at_48 : decode (Mc mD_at) 48 = .ok (.iload 4, 2) := by decide +kernel
theorem dD_at_50 : decode (Mc mD_at) 50 = .ok (.iconst 1, 1) := by decide +kernel
theorem dD_at_51 : decode (Mc mD_at) 51 = .ok (.if_icmp .ne 16, 3) := by decide +kernel
theorem dD_at_54 : decode (Mc mD_at) 54 = .ok (.aload_n 0, 1) := by decide +kernel
theorem dD_at_55 : decode (Mc mD_at) 55 = .ok (.iload_n 1, 1) := by decide +kernel
theorem dD_at_56 : decode (Mc mD_at) 56 = .ok (.invokevirtual 116, 3) := by decide +kernel
theorem dD_at_59 : decode (Mc mD_at) 59 = .ok (.aload_n 0, 1) := by decide +kernel
theorem dD_at_60 : decode (Mc mD_at) 60 = .ok (.getfield 60, 3) := by decide +kernel
theorem dD_at_63 : decode (Mc mD_at) 63 = .ok (.iload 5, 2) := by decide +kernel
theorem dD_at_65 : decode (Mc mD_at) 65 = .ok (.baload, 1) := by decide +kernel
theorem dD_at_66 : decode (Mc mD_at) 66 = .ok (.ireturn, 1) := by decide +kernel
theorem dD_at_67 : decode (Mc mD_at) 67 = .ok (.iconst 0, 1) := by decide +kernel
theorem dD_at_68 : decode (Mc mD_at) 68 = .ok (.istore 6, 2) := by decide +kernel
theorem dD_at_70 : decode (Mc mD_at) 70 = .ok (.iconst 0, 1) := by decide +kernel
theorem dD_at_71 : decode (Mc mD_at) 71 = .ok (.istore 7, 2) := by decide +kernel
theorem dD_at_73 : decode (Mc mD_at) 73 = .ok (.iload 7, 2) := by decide +kernel
theorem dD_at_75 : decode (Mc mD_at) 75 = .ok (.bipush 96, 2) := by decide +kernel
theorem dD_at_77 : decode (Mc mD_at) 77 = .ok (.if_icmp .ge 76, 3) := by decide +kernel
theorem dD_at_80 : decode (Mc mD_at) 80 = .ok (.iload 6, 2) := by decide +kernel
theorem dD_at_82 : decode (Mc mD_at) 82 = .ok (.ifCond .ne 58, 3) := by decide +kernel
theorem dD_at_85 : decode (Mc mD_at) 85 = .ok (.aload_n 0, 1) := by decide +kernel
theorem dD_at_86 : decode (Mc mD_at) 86 = .ok (.iload 7, 2) := by decide +kernel
theorem dD_at_88 : decode (Mc mD_at) 88 = .ok (.bipush 8, 2) := by decide +kernel
theorem dD_at_90 : decode (Mc mD_at) 90 = .ok (.idiv, 1) := by decide +kernel
theorem dD_at_91 : decode (Mc mD_at) 91 = .ok (.iload 7, 2) := by decide +kernel
theorem dD_at_93 : decode (Mc mD_at) 93 = .ok (.bipush 8, 2) := by decide +kernel
theorem dD_at_95 : decode (Mc mD_at) 95 = .ok (.irem, 1) := by decide +kernel
theorem dD_at_96 : decode (Mc mD_at) 96 = .ok (.invokevirtual 107, 3) := by decide +kernel
theorem dD_at_99 : decode (Mc mD_at) 99 = .ok (.ifCond .eq 45, 3) := by decide +kernel
theorem dD_at_102 : decode (Mc mD_at) 102 = .ok (.iload 7, 2) := by decide +kernel
theorem dD_at_104 : decode (Mc mD_at) 104 = .ok (.bipush 8, 2) := by decide +kernel
theorem dD_at_106 : decode (Mc mD_at) 106 = .ok (.irem, 1) := by decide +kernel
theorem dD_at_107 : decode (Mc mD_at) 107 = .ok (.aload_n 0, 1) := by decide +kernel
theorem dD_at_108 : decode (Mc mD_at) 108 = .ok (.getfield 19, 3) := by decide +kernel
theorem dD_at_111 : decode (Mc mD_at) 111 = .ok (.iload 7, 2) := by decide +kernel
theorem dD_at_113 : decode (Mc mD_at) 113 = .ok (.bipush 8, 2) := by decide +kernel
theorem dD_at_115 : decode (Mc mD_at) 115 = .ok (.idiv, 1) := by decide +kernel
theorem dD_at_116 : decode (Mc mD_at) 116 = .ok (.iaload, 1) := by decide +kernel
theorem dD_at_117 : decode (Mc mD_at) 117 = .ok (.if_icmp .lt 27, 3) := by decide +kernel
theorem dD_at_120 : decode (Mc mD_at) 120 = .ok (.aload_n 0, 1) := by decide +kernel
theorem dD_at_121 : decode (Mc mD_at) 121 = .ok (.iload_n 1, 1) := by decide +kernel
theorem dD_at_122 : decode (Mc mD_at) 122 = .ok (.iload 5, 2) := by decide +kernel
theorem dD_at_124 : decode (Mc mD_at) 124 = .ok (.iload 7, 2) := by decide +kernel
theorem dD_at_126 : decode (Mc mD_at) 126 = .ok (.bipush 8, 2) := by decide +kernel
theorem dD_at_128 : decode (Mc mD_at) 128 = .ok (.idiv, 1) := by decide +kernel
theorem dD_at_129 : decode (Mc mD_at) 129 = .ok (.iload 7, 2) := by decide +kernel
theorem dD_at_131 : decode (Mc mD_at) 131 = .ok (.bipush 8, 2) := by decide +kernel
theorem dD_at_133 : decode (Mc mD_at) 133 = .ok (.irem, 1) := by decide +kernel
theorem dD_at_134 : decode (Mc mD_at) 134 = .ok (.invokevirtual 120, 3) := by decide +kernel
theorem dD_at_137 : decode (Mc mD_at) 137 = .ok (.ifCond .eq 7, 3) := by decide +kernel
theorem dD_at_140 : decode (Mc mD_at) 140 = .ok (.iconst 1, 1) := by decide +kernel
theorem dD_at_141 : decode (Mc mD_at) 141 = .ok (.goto 4, 3) := by decide +kernel
theorem dD_at_144 : decode (Mc mD_at) 144 = .ok (.iconst 0, 1) := by decide +kernel
theorem dD_at_145 : decode (Mc mD_at) 145 = .ok (.istore 6, 2) := by decide +kernel
theorem dD_at_147 : decode (Mc mD_at) 147 = .ok (.iinc 7 1, 3) := by decide +kernel
theorem dD_at_150 : decode (Mc mD_at) 150 = .ok (.goto (-77), 3) := by decide +kernel
theorem dD_at_153 : decode (Mc mD_at) 153 = .ok (.iload 6, 2) := by decide +kernel
theorem dD_at_155 : decode (Mc mD_at) 155 = .ok (.ireturn, 1) := by decide +kernel
