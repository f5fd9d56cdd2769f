theorem dD_isPosition_0 : decode (Mc mD_isPosition) 0 = .ok (.iload_n 0, 1) := by decide +kernel
theorem dD_isPosition_1 : decode (Mc mD_isPosition) 1 = .ok (.bipush (-4), 2) := by decide +kernel
theorem dD_isPosition_3 : decode (Mc mD_isPosition) 3 = .ok (.if_icmp .lt 23, 3) := by decide +kernel
theorem dD_isPosition_6 : decode (Mc mD_isPosition) 6 = .ok (.iload_n 0, 1) := by decide +kernel
theorem dD_isPosition_7 : decode (Mc mD_isPosition) 7 = .ok (.bipush 15, 2) := by decide +kernel
theorem dD_isPosition_9 : decode (Mc mD_isPosition) 9 = .ok (.if_icmp .gt 17, 3) := by decide +kernel
theorem dD_isPosition_12 : decode (Mc mD_isPosition) 12 = .ok (.iload_n 1, 1) := by decide +kernel
theorem dD_isPosition_13 : decode (Mc mD_isPosition) 13 = .ok (.ifCond .lt 13, 3) := by decide +kernel
theorem dD_isPosition_16 : decode (Mc mD_isPosition) 16 = .ok (.iload_n 1, 1) := by decide +kernel
theorem dD_isPosition_17 : decode (Mc mD_isPosition) 17 = .ok (.bipush 15, 2) := by decide +kernel
theorem dD_isPosition_19 : decode (Mc mD_isPosition) 19 = .ok (.if_icmp .gt 7, 3) := by decide +kernel
theorem dD_isPosition_22 : decode (Mc mD_isPosition) 22 = .ok (.iconst 1, 1) := by decide +kernel
theorem dD_isPosition_23 : decode (Mc mD_isPosition) 23 = .ok (.goto 4, 3) := by decide +kernel
theorem dD_isPosition_26 : decode (Mc mD_isPosition) 26 = .ok (.iconst 0, 1) := by decide +kernel
theorem dD_isPosition_27 : decode (Mc mD_isPosition) 27 = .ok (.ireturn, 1) := by decide +kernel
theorem dD_number_0 : decode (Mc mD_number) 0 = .ok (.bipush 16, 2) := by decide +kernel
theorem dD_number_2 : decode (Mc mD_number) 2 = .ok (.iload_n 0, 1) := by decide +kernel
theorem dD_number_3 : decode (Mc mD_number) 3 = .ok (.iconst 4, 1) := by decide +kernel
theorem dD_number_4 : decode (Mc mD_number) 4 = .ok (.iadd, 1) := by decide +kernel
theorem dD_number_5 : decode (Mc mD_number) 5 = .ok (.imul, 1) := by decide +kernel
theorem dD_number_6 : decode (Mc mD_number) 6 = .ok (.iload_n 1, 1) := by decide +kernel
theorem dD_number_7 : decode (Mc mD_number) 7 = .ok (.iadd, 1) := by decide +kernel
theorem dD_number_8 : decode (Mc mD_number) 8 = .ok (.ireturn, 1) := by decide +kernel
theorem dD_isSafe_0 : decode (Mc mD_isSafe) 0 = .ok (.iconst 1, 1) := by decide +kernel
theorem dD_isSafe_1 : decode (Mc mD_isSafe) 1 = .ok (.istore_n 3, 1) := by decide +kernel
theorem dD_isSafe_2 : decode (Mc mD_isSafe) 2 = .ok (.bipush 8, 2) := by decide +kernel
theorem dD_isSafe_4 : decode (Mc mD_isSafe) 4 = .ok (.iload_n 1, 1) := by decide +kernel
theorem dD_isSafe_5 : decode (Mc mD_isSafe) 5 = .ok (.imul, 1) := by decide +kernel
theorem dD_isSafe_6 : decode (Mc mD_isSafe) 6 = .ok (.istore 4, 2) := by decide +kernel
theorem dD_isSafe_8 : decode (Mc mD_isSafe) 8 = .ok (.iload 4, 2) := by decide +kernel
theorem dD_isSafe_10 : decode (Mc mD_isSafe) 10 = .ok (.bipush 8, 2) := by decide +kernel
theorem dD_isSafe_12 : decode (Mc mD_isSafe) 12 = .ok (.iload_n 1, 1) := by decide +kernel
theorem dD_isSafe_13 : decode (Mc mD_isSafe) 13 = .ok (.imul, 1) := by decide +kernel
theorem dD_isSafe_14 : decode (Mc mD_isSafe) 14 = .ok (.aload_n 0, 1) := by decide +kernel
theorem dD_isSafe_15 : decode (Mc mD_isSafe) 15 = .ok (.getfield 23, 3) := by decide +kernel
theorem dD_isSafe_18 : decode (Mc mD_isSafe) 18 = .ok (.iload_n 1, 1) := by decide +kernel
theorem dD_isSafe_19 : decode (Mc mD_isSafe) 19 = .ok (.iaload, 1) := by decide +kernel
theorem dD_isSafe_20 : decode (Mc mD_isSafe) 20 = .ok (.iadd, 1) := by decide +kernel
theorem dD_isSafe_21 : decode (Mc mD_isSafe) 21 = .ok (.if_icmp .ge 80, 3) := by decide +kernel
theorem dD_isSafe_24 : decode (Mc mD_isSafe) 24 = .ok (.iload_n 2, 1) := by decide +kernel
theorem dD_isSafe_25 : decode (Mc mD_isSafe) 25 = .ok (.invokestatic 89, 3) := by decide +kernel
theorem dD_isSafe_28 : decode (Mc mD_isSafe) 28 = .ok (.aload_n 0, 1) := by decide +kernel
theorem dD_isSafe_29 : decode (Mc mD_isSafe) 29 = .ok (.getfield 26, 3) := by decide +kernel
theorem dD_isSafe_32 : decode (Mc mD_isSafe) 32 = .ok (.iload 4, 2) := by decide +kernel
theorem dD_isSafe_34 : decode (Mc mD_isSafe) 34 = .ok (.iaload, 1) := by decide +kernel
theorem dD_isSafe_35 : decode (Mc mD_isSafe) 35 = .ok (.iadd, 1) := by decide +kernel
theorem dD_isSafe_36 : decode (Mc mD_isSafe) 36 = .ok (.istore 5, 2) := by decide +kernel
theorem dD_isSafe_38 : decode (Mc mD_isSafe) 38 = .ok (.iload_n 2, 1) := by decide +kernel
theorem dD_isSafe_39 : decode (Mc mD_isSafe) 39 = .ok (.invokestatic 93, 3) := by decide +kernel
theorem dD_isSafe_42 : decode (Mc mD_isSafe) 42 = .ok (.aload_n 0, 1) := by decide +kernel
theorem dD_isSafe_43 : decode (Mc mD_isSafe) 43 = .ok (.getfield 29, 3) := by decide +kernel
theorem dD_isSafe_46 : decode (Mc mD_isSafe) 46 = .ok (.iload 4, 2) := by decide +kernel
theorem dD_isSafe_48 : decode (Mc mD_isSafe) 48 = .ok (.iaload, 1) := by decide +kernel
theorem dD_isSafe_49 : decode (Mc mD_isSafe) 49 = .ok (.iadd, 1) := by decide +kernel
theorem dD_isSafe_50 : decode (Mc mD_isSafe) 50 = .ok (.istore 6, 2) := by decide +kernel
theorem dD_isSafe_52 : decode (Mc mD_isSafe) 52 = .ok (.iload_n 3, 1) := by decide +kernel
theorem dD_isSafe_53 : decode (Mc mD_isSafe) 53 = .ok (.ifCond .eq 40, 3) := by decide +kernel
theorem dD_isSafe_56 : decode (Mc mD_isSafe) 56 = .ok (.iload 5, 2) := by decide +kernel
theorem dD_isSafe_58 : decode (Mc mD_isSafe) 58 = .ok (.aload_n 0, 1) := by decide +kernel
theorem dD_isSafe_59 : decode (Mc mD_isSafe) 59 = .ok (.getfield 16, 3) := by decide +kernel
theorem dD_isSafe_62 : decode (Mc mD_isSafe) 62 = .ok (.if_icmp .ge 31, 3) := by decide +kernel
theorem dD_isSafe_65 : decode (Mc mD_isSafe) 65 = .ok (.iload 5, 2) := by decide +kernel
theorem dD_isSafe_67 : decode (Mc mD_isSafe) 67 = .ok (.ifCond .lt 22, 3) := by decide +kernel
theorem dD_isSafe_70 : decode (Mc mD_isSafe) 70 = .ok (.iload 5, 2) := by decide +kernel
theorem dD_isSafe_72 : decode (Mc mD_isSafe) 72 = .ok (.bipush 11, 2) := by decide +kernel
theorem dD_isSafe_74 : decode (Mc mD_isSafe) 74 = .ok (.if_icmp .gt 15, 3) := by decide +kernel
theorem dD_isSafe_77 : decode (Mc mD_isSafe) 77 = .ok (.iload 6, 2) := by decide +kernel
theorem dD_isSafe_79 : decode (Mc mD_isSafe) 79 = .ok (.aload_n 0, 1) := by decide +kernel
theorem dD_isSafe_80 : decode (Mc mD_isSafe) 80 = .ok (.getfield 19, 3) := by decide +kernel
theorem dD_isSafe_83 : decode (Mc mD_isSafe) 83 = .ok (.iload 5, 2) := by decide +kernel
theorem dD_isSafe_85 : decode (Mc mD_isSafe) 85 = .ok (.iaload, 1) := by decide +kernel
theorem dD_isSafe_86 : decode (Mc mD_isSafe) 86 = .ok (.if_icmp .lt 7, 3) := by decide +kernel
theorem dD_isSafe_89 : decode (Mc mD_isSafe) 89 = .ok (.iconst 1, 1) := by decide +kernel
theorem dD_isSafe_90 : decode (Mc mD_isSafe) 90 = .ok (.goto 4, 3) := by decide +kernel
theorem dD_isSafe_93 : decode (Mc mD_isSafe) 93 = .ok (.iconst 0, 1) := by decide +kernel
theorem dD_isSafe_94 : decode (Mc mD_isSafe) 94 = .ok (.istore_n 3, 1) := by decide +kernel
theorem dD_isSafe_95 : decode (Mc mD_isSafe) 95 = .ok (.iinc 4 1, 3) := by decide +kernel
theorem dD_isSafe_98 : decode (Mc mD_isSafe) 98 = .ok (.goto (-90), 3) := by decide +kernel
theorem dD_isSafe_101 : decode (Mc mD_isSafe) 101 = .ok (.iload_n 3, 1) := by decide +kernel
theorem dD_isSafe_102 : decode (Mc mD_isSafe) 102 = .ok (.ireturn, 1) := by decide +kernel
theorem dD_zOf_0 : decode (Mc mD_zOf) 0 = .ok (.iload_n 0, 1) := by decide +kernel
theorem dD_zOf_1 : decode (Mc mD_zOf) 1 = .ok (.bipush 16, 2) := by decide +kernel
theorem dD_zOf_3 : decode (Mc mD_zOf) 3 = .ok (.idiv, 1) := by decide +kernel
theorem dD_zOf_4 : decode (Mc mD_zOf) 4 = .ok (.iconst 4, 1) := by decide +kernel
theorem dD_zOf_5 : decode (Mc mD_zOf) 5 = .ok (.isub, 1) := by decide +kernel
theorem dD_zOf_6 : decode (Mc mD_zOf) 6 = .ok (.ireturn, 1) := by decide +kernel
theorem dD_rOf_0 : decode (Mc mD_rOf) 0 = .ok (.iload_n 0, 1) := by decide +kernel
theorem dD_rOf_1 : decode (Mc mD_rOf) 1 = .ok (.bipush 16, 2) := by decide +kernel
theorem dD_rOf_3 : decode (Mc mD_rOf) 3 = .ok (.irem, 1) := by decide +kernel
theorem dD_rOf_4 : decode (Mc mD_rOf) 4 = .ok (.ireturn, 1) := by decide +kernel
theorem dD_findReach_0 : decode (Mc mD_findReach) 0 = .ok (.iconst 0, 1) := by decide +kernel
theorem dD_findReach_1 : decode (Mc mD_findReach) 1 = .ok (.istore_n 2, 1) := by decide +kernel
theorem dD_findReach_2 : decode (Mc mD_findReach) 2 = .ok (.iload_n 2, 1) := by decide +kernel
theorem dD_findReach_3 : decode (Mc mD_findReach) 3 = .ok (.sipush 320, 3) := by decide +kernel
theorem dD_findReach_6 : decode (Mc mD_findReach) 6 = .ok (.if_icmp .ge 40, 3) := by decide +kernel
theorem dD_findReach_9 : decode (Mc mD_findReach) 9 = .ok (.aload_n 0, 1) := by decide +kernel
theorem dD_findReach_10 : decode (Mc mD_findReach) 10 = .ok (.getfield 60, 3) := by decide +kernel
theorem dD_findReach_13 : decode (Mc mD_findReach) 13 = .ok (.iload_n 2, 1) := by decide +kernel
theorem dD_findReach_14 : decode (Mc mD_findReach) 14 = .ok (.iload_n 2, 1) := by decide +kernel
theorem dD_findReach_15 : decode (Mc mD_findReach) 15 = .ok (.bipush (-4), 2) := by decide +kernel
theorem dD_findReach_17 : decode (Mc mD_findReach) 17 = .ok (.bipush 15, 2) := by decide +kernel
theorem dD_findReach_19 : decode (Mc mD_findReach) 19 = .ok (.invokestatic 100, 3) := by decide +kernel
theorem dD_findReach_22 : decode (Mc mD_findReach) 22 = .ok (.if_icmp .ne 16, 3) := by decide +kernel
theorem dD_findReach_25 : decode (Mc mD_findReach) 25 = .ok (.aload_n 0, 1) := by decide +kernel
theorem dD_findReach_26 : decode (Mc mD_findReach) 26 = .ok (.getfield 23, 3) := by decide +kernel
theorem dD_findReach_29 : decode (Mc mD_findReach) 29 = .ok (.iload_n 1, 1) := by decide +kernel
theorem dD_findReach_30 : decode (Mc mD_findReach) 30 = .ok (.iaload, 1) := by decide +kernel
theorem dD_findReach_31 : decode (Mc mD_findReach) 31 = .ok (.ifCond .le 7, 3) := by decide +kernel
theorem dD_findReach_34 : decode (Mc mD_findReach) 34 = .ok (.iconst 1, 1) := by decide +kernel
theorem dD_findReach_35 : decode (Mc mD_findReach) 35 = .ok (.goto 4, 3) := by decide +kernel
theorem dD_findReach_38 : decode (Mc mD_findReach) 38 = .ok (.iconst 0, 1) := by decide +kernel
theorem dD_findReach_39 : decode (Mc mD_findReach) 39 = .ok (.bastore, 1) := by decide +kernel
theorem dD_findReach_40 : decode (Mc mD_findReach) 40 = .ok (.iinc 2 1, 3) := by decide +kernel
theorem dD_findReach_43 : decode (Mc mD_findReach) 43 = .ok (.goto (-41), 3) := by decide +kernel
theorem dD_findReach_46 : decode (Mc mD_findReach) 46 = .ok (.iconst 1, 1) := by decide +kernel
theorem dD_findReach_47 : decode (Mc mD_findReach) 47 = .ok (.istore_n 2, 1) := by decide +kernel
theorem dD_findReach_48 : decode (Mc mD_findReach) 48 = .ok (.iload_n 2, 1) := by decide +kernel
theorem dD_findReach_49 : decode (Mc mD_findReach) 49 = .ok (.ifCond .eq 90, 3) := by decide +kernel
theorem dD_findReach_52 : decode (Mc mD_findReach) 52 = .ok (.iconst 0, 1) := by decide +kernel
theorem dD_findReach_53 : decode (Mc mD_findReach) 53 = .ok (.istore_n 2, 1) := by decide +kernel
theorem dD_findReach_54 : decode (Mc mD_findReach) 54 = .ok (.iconst 0, 1) := by decide +kernel
theorem dD_findReach_55 : decode (Mc mD_findReach) 55 = .ok (.istore_n 3, 1) := by decide +kernel
theorem dD_findReach_56 : decode (Mc mD_findReach) 56 = .ok (.iload_n 3, 1) := by decide +kernel
theorem dD_findReach_57 : decode (Mc mD_findReach) 57 = .ok (.sipush 320, 3) := by decide +kernel
theorem dD_findReach_60 : decode (Mc mD_findReach) 60 = .ok (.if_icmp .ge 76, 3) := by decide +kernel
theorem dD_findReach_63 : decode (Mc mD_findReach) 63 = .ok (.iconst 0, 1) := by decide +kernel
theorem dD_findReach_64 : decode (Mc mD_findReach) 64 = .ok (.istore 4, 2) := by decide +kernel
theorem dD_findReach_66 : decode (Mc mD_findReach) 66 = .ok (.iload 4, 2) := by decide +kernel
theorem dD_findReach_68 : decode (Mc mD_findReach) 68 = .ok (.iconst 4, 1) := by decide +kernel
theorem dD_findReach_69 : decode (Mc mD_findReach) 69 = .ok (.if_icmp .ge 61, 3) := by decide +kernel
theorem dD_findReach_72 : decode (Mc mD_findReach) 72 = .ok (.iload_n 3, 1) := by decide +kernel
theorem dD_findReach_73 : decode (Mc mD_findReach) 73 = .ok (.iload 4, 2) := by decide +kernel
theorem dD_findReach_75 : decode (Mc mD_findReach) 75 = .ok (.invokestatic 110, 3) := by decide +kernel
theorem dD_findReach_78 : decode (Mc mD_findReach) 78 = .ok (.istore 5, 2) := by decide +kernel
theorem dD_findReach_80 : decode (Mc mD_findReach) 80 = .ok (.aload_n 0, 1) := by decide +kernel
theorem dD_findReach_81 : decode (Mc mD_findReach) 81 = .ok (.getfield 60, 3) := by decide +kernel
theorem dD_findReach_84 : decode (Mc mD_findReach) 84 = .ok (.iload_n 3, 1) := by decide +kernel
theorem dD_findReach_85 : decode (Mc mD_findReach) 85 = .ok (.baload, 1) := by decide +kernel
theorem dD_findReach_86 : decode (Mc mD_findReach) 86 = .ok (.ifCond .eq 38, 3) := by decide +kernel
theorem dD_findReach_89 : decode (Mc mD_findReach) 89 = .ok (.iload 5, 2) := by decide +kernel
theorem dD_findReach_91 : decode (Mc mD_findReach) 91 = .ok (.ifCond .lt 33, 3) := by decide +kernel
theorem dD_findReach_94 : decode (Mc mD_findReach) 94 = .ok (.aload_n 0, 1) := by decide +kernel
theorem dD_findReach_95 : decode (Mc mD_findReach) 95 = .ok (.getfield 60, 3) := by decide +kernel
theorem dD_findReach_98 : decode (Mc mD_findReach) 98 = .ok (.iload 5, 2) := by decide +kernel
theorem dD_findReach_100 : decode (Mc mD_findReach) 100 = .ok (.baload, 1) := by decide +kernel
theorem dD_findReach_101 : decode (Mc mD_findReach) 101 = .ok (.ifCond .ne 23, 3) := by decide +kernel
theorem dD_findReach_104 : decode (Mc mD_findReach) 104 = .ok (.aload_n 0, 1) := by decide +kernel
theorem dD_findReach_105 : decode (Mc mD_findReach) 105 = .ok (.iload_n 1, 1) := by decide +kernel
theorem dD_findReach_106 : decode (Mc mD_findReach) 106 = .ok (.iload 5, 2) := by decide +kernel
theorem dD_findReach_108 : decode (Mc mD_findReach) 108 = .ok (.invokevirtual 113, 3) := by decide +kernel
theorem dD_findReach_111 : decode (Mc mD_findReach) 111 = .ok (.ifCond .eq 13, 3) := by decide +kernel
theorem dD_findReach_114 : decode (Mc mD_findReach) 114 = .ok (.aload_n 0, 1) := by decide +kernel
theorem dD_findReach_115 : decode (Mc mD_findReach) 115 = .ok (.getfield 60, 3) := by decide +kernel
theorem dD_findReach_118 : decode (Mc mD_findReach) 118 = .ok (.iload 5, 2) := by decide +kernel
theorem dD_findReach_120 : decode (Mc mD_findReach) 120 = .ok (.iconst 1, 1) := by decide +kernel
theorem dD_findReach_121 : decode (Mc mD_findReach) 121 = .ok (.bastore, 1) := by decide +kernel
theorem dD_findReach_122 : decode (Mc mD_findReach) 122 = .ok (.iconst 1, 1) := by decide +kernel
theorem dD_findReach_123 : decode (Mc mD_findReach) 123 = .ok (.istore_n 2, 1) := by decide +kernel
theorem dD_findReach_124 : decode (Mc mD_findReach) 124 = .ok (.iinc 4 1, 3) := by decide +kernel
theorem dD_findReach_127 : decode (Mc mD_findReach) 127 = .ok (.goto (-61), 3) := by decide +kernel
theorem dD_findReach_130 : decode (Mc mD_findReach) 130 = .ok (.iinc 3 1, 3) := by decide +kernel
theorem dD_findReach_133 : decode (Mc mD_findReach) 133 = .ok (.goto (-77), 3) := by decide +kernel
theorem dD_findReach_136 : decode (Mc mD_findReach) 136 = .ok (.goto (-88), 3) := by decide +kernel
theorem dD_findReach_139 : decode (Mc mD_findReach) 139 = .ok (.return_, 1) := by decide +kernel
theorem dD_next_0 : decode (Mc mD_next) 0 = .ok (.iload_n 0, 1) := by decide +kernel
theorem dD_next_1 : decode (Mc mD_next) 1 = .ok (.invokestatic 89, 3) := by decide +kernel
theorem dD_next_4 : decode (Mc mD_next) 4 = .ok (.iload_n 1, 1) := by decide +kernel
theorem dD_next_5 : decode (Mc mD_next) 5 = .ok (.ifCond .ne 7, 3) := by decide +kernel
theorem dD_next_8 : decode (Mc mD_next) 8 = .ok (.iconst 1, 1) := by decide +kernel
theorem dD_next_9 : decode (Mc mD_next) 9 = .ok (.goto 13, 3) := by decide +kernel
theorem dD_next_12 : decode (Mc mD_next) 12 = .ok (.iload_n 1, 1) := by decide +kernel
theorem dD_next_13 : decode (Mc mD_next) 13 = .ok (.iconst 1, 1) := by decide +kernel
theorem dD_next_14 : decode (Mc mD_next) 14 = .ok (.if_icmp .ne 7, 3) := by decide +kernel
theorem dD_next_17 : decode (Mc mD_next) 17 = .ok (.iconst (-1), 1) := by decide +kernel
theorem dD_next_18 : decode (Mc mD_next) 18 = .ok (.goto 4, 3) := by decide +kernel
theorem dD_next_21 : decode (Mc mD_next) 21 = .ok (.iconst 0, 1) := by decide +kernel
theorem dD_next_22 : decode (Mc mD_next) 22 = .ok (.iadd, 1) := by decide +kernel
theorem dD_next_23 : decode (Mc mD_next) 23 = .ok (.istore_n 2, 1) := by decide +kernel
theorem dD_next_24 : decode (Mc mD_next) 24 = .ok (.iload_n 0, 1) := by decide +kernel
theorem dD_next_25 : decode (Mc mD_next) 25 = .ok (.invokestatic 93, 3) := by decide +kernel
theorem dD_next_28 : decode (Mc mD_next) 28 = .ok (.iload_n 1, 1) := by decide +kernel
theorem dD_next_29 : decode (Mc mD_next) 29 = .ok (.iconst 2, 1) := by decide +kernel
theorem dD_next_30 : decode (Mc mD_next) 30 = .ok (.if_icmp .ne 7, 3) := by decide +kernel
theorem dD_next_33 : decode (Mc mD_next) 33 = .ok (.iconst (-1), 1) := by decide +kernel
theorem dD_next_34 : decode (Mc mD_next) 34 = .ok (.goto 13, 3) := by decide +kernel
theorem dD_next_37 : decode (Mc mD_next) 37 = .ok (.iload_n 1, 1) := by decide +kernel
theorem dD_next_38 : decode (Mc mD_next) 38 = .ok (.iconst 3, 1) := by decide +kernel
theorem dD_next_39 : decode (Mc mD_next) 39 = .ok (.if_icmp .ne 7, 3) := by decide +kernel
theorem dD_next_42 : decode (Mc mD_next) 42 = .ok (.iconst 1, 1) := by decide +kernel
theorem dD_next_43 : decode (Mc mD_next) 43 = .ok (.goto 4, 3) := by decide +kernel
theorem dD_next_46 : decode (Mc mD_next) 46 = .ok (.iconst 0, 1) := by decide +kernel
theorem dD_next_47 : decode (Mc mD_next) 47 = .ok (.iadd, 1) := by decide +kernel
theorem dD_next_48 : decode (Mc mD_next) 48 = .ok (.istore_n 3, 1) := by decide +kernel
theorem dD_next_49 : decode (Mc mD_next) 49 = .ok (.iload_n 2, 1) := by decide +kernel
theorem dD_next_50 : decode (Mc mD_next) 50 = .ok (.iload_n 3, 1) := by decide +kernel
theorem dD_next_51 : decode (Mc mD_next) 51 = .ok (.invokestatic 96, 3) := by decide +kernel
theorem dD_next_54 : decode (Mc mD_next) 54 = .ok (.ifCond .eq 11, 3) := by decide +kernel
theorem dD_next_57 : decode (Mc mD_next) 57 = .ok (.iload_n 2, 1) := by decide +kernel
theorem dD_next_58 : decode (Mc mD_next) 58 = .ok (.iload_n 3, 1) := by decide +kernel
theorem dD_next_59 : decode (Mc mD_next) 59 = .ok (.invokestatic 100, 3) := by decide +kernel
theorem dD_next_62 : decode (Mc mD_next) 62 = .ok (.goto 4, 3) := by decide +kernel
theorem dD_next_65 : decode (Mc mD_next) 65 = .ok (.iconst (-1), 1) := by decide +kernel
theorem dD_next_66 : decode (Mc mD_next) 66 = .ok (.ireturn, 1) := by decide +kernel
theorem dD_isBar_0 : decode (Mc mD_isBar) 0 = .ok (.iload_n 1, 1) := by decide +kernel
theorem dD_isBar_1 : decode (Mc mD_isBar) 1 = .ok (.iload_n 2, 1) := by decide +kernel
theorem dD_isBar_2 : decode (Mc mD_isBar) 2 = .ok (.invokestatic 104, 3) := by decide +kernel
theorem dD_isBar_5 : decode (Mc mD_isBar) 5 = .ok (.ifCond .eq 23, 3) := by decide +kernel
theorem dD_isBar_8 : decode (Mc mD_isBar) 8 = .ok (.iload_n 2, 1) := by decide +kernel
theorem dD_isBar_9 : decode (Mc mD_isBar) 9 = .ok (.aload_n 0, 1) := by decide +kernel
theorem dD_isBar_10 : decode (Mc mD_isBar) 10 = .ok (.getfield 7, 3) := by decide +kernel
theorem dD_isBar_13 : decode (Mc mD_isBar) 13 = .ok (.if_icmp .ge 15, 3) := by decide +kernel
theorem dD_isBar_16 : decode (Mc mD_isBar) 16 = .ok (.iload_n 1, 1) := by decide +kernel
theorem dD_isBar_17 : decode (Mc mD_isBar) 17 = .ok (.aload_n 0, 1) := by decide +kernel
theorem dD_isBar_18 : decode (Mc mD_isBar) 18 = .ok (.getfield 13, 3) := by decide +kernel
theorem dD_isBar_21 : decode (Mc mD_isBar) 21 = .ok (.if_icmp .ge 7, 3) := by decide +kernel
theorem dD_isBar_24 : decode (Mc mD_isBar) 24 = .ok (.iconst 1, 1) := by decide +kernel
theorem dD_isBar_25 : decode (Mc mD_isBar) 25 = .ok (.goto 4, 3) := by decide +kernel
theorem dD_isBar_28 : decode (Mc mD_isBar) 28 = .ok (.iconst 0, 1) := by decide +kernel
theorem dD_isBar_29 : decode (Mc mD_isBar) 29 = .ok (.ireturn, 1) := by decide +kernel
theorem dD_isCell_0 : decode (Mc mD_isCell) 0 = .ok (.iload_n 0, 1) := by decide +kernel
theorem dD_isCell_1 : decode (Mc mD_isCell) 1 = .ok (.ifCond .lt 23, 3) := by decide +kernel
theorem dD_isCell_4 : decode (Mc mD_isCell) 4 = .ok (.iload_n 0, 1) := by decide +kernel
theorem dD_isCell_5 : decode (Mc mD_isCell) 5 = .ok (.bipush 12, 2) := by decide +kernel
theorem dD_isCell_7 : decode (Mc mD_isCell) 7 = .ok (.if_icmp .ge 17, 3) := by decide +kernel
theorem dD_isCell_10 : decode (Mc mD_isCell) 10 = .ok (.iload_n 1, 1) := by decide +kernel
theorem dD_isCell_11 : decode (Mc mD_isCell) 11 = .ok (.ifCond .lt 13, 3) := by decide +kernel
theorem dD_isCell_14 : decode (Mc mD_isCell) 14 = .ok (.iload_n 1, 1) := by decide +kernel
theorem dD_isCell_15 : decode (Mc mD_isCell) 15 = .ok (.bipush 8, 2) := by decide +kernel
theorem dD_isCell_17 : decode (Mc mD_isCell) 17 = .ok (.if_icmp .ge 7, 3) := by decide +kernel
theorem dD_isCell_20 : decode (Mc mD_isCell) 20 = .ok (.iconst 1, 1) := by decide +kernel
theorem dD_isCell_21 : decode (Mc mD_isCell) 21 = .ok (.goto 4, 3) := by decide +kernel
theorem dD_isCell_24 : decode (Mc mD_isCell) 24 = .ok (.iconst 0, 1) := by decide +kernel
theorem dD_isCell_25 : decode (Mc mD_isCell) 25 = .ok (.ireturn, 1) := by decide +kernel
theorem dD_covers_0 : decode (Mc mD_covers) 0 = .ok (.iconst 0, 1) := by decide +kernel
theorem dD_covers_1 : decode (Mc mD_covers) 1 = .ok (.istore 5, 2) := by decide +kernel
theorem dD_covers_3 : decode (Mc mD_covers) 3 = .ok (.bipush 8, 2) := by decide +kernel
theorem dD_covers_5 : decode (Mc mD_covers) 5 = .ok (.iload_n 1, 1) := by decide +kernel
theorem dD_covers_6 : decode (Mc mD_covers) 6 = .ok (.imul, 1) := by decide +kernel
theorem dD_covers_7 : decode (Mc mD_covers) 7 = .ok (.istore 6, 2) := by decide +kernel
theorem dD_covers_9 : decode (Mc mD_covers) 9 = .ok (.iload 6, 2) := by decide +kernel
theorem dD_covers_11 : decode (Mc mD_covers) 11 = .ok (.bipush 8, 2) := by decide +kernel
theorem dD_covers_13 : decode (Mc mD_covers) 13 = .ok (.iload_n 1, 1) := by decide +kernel
theorem dD_covers_14 : decode (Mc mD_covers) 14 = .ok (.imul, 1) := by decide +kernel
theorem dD_covers_15 : decode (Mc mD_covers) 15 = .ok (.aload_n 0, 1) := by decide +kernel
theorem dD_covers_16 : decode (Mc mD_covers) 16 = .ok (.getfield 23, 3) := by decide +kernel
theorem dD_covers_19 : decode (Mc mD_covers) 19 = .ok (.iload_n 1, 1) := by decide +kernel
theorem dD_covers_20 : decode (Mc mD_covers) 20 = .ok (.iaload, 1) := by decide +kernel
theorem dD_covers_21 : decode (Mc mD_covers) 21 = .ok (.iadd, 1) := by decide +kernel
theorem dD_covers_22 : decode (Mc mD_covers) 22 = .ok (.if_icmp .ge 54, 3) := by decide +kernel
theorem dD_covers_25 : decode (Mc mD_covers) 25 = .ok (.iload 5, 2) := by decide +kernel
theorem dD_covers_27 : decode (Mc mD_covers) 27 = .ok (.ifCond .ne 36, 3) := by decide +kernel
theorem dD_covers_30 : decode (Mc mD_covers) 30 = .ok (.iload_n 2, 1) := by decide +kernel
theorem dD_covers_31 : decode (Mc mD_covers) 31 = .ok (.invokestatic 89, 3) := by decide +kernel
theorem dD_covers_34 : decode (Mc mD_covers) 34 = .ok (.aload_n 0, 1) := by decide +kernel
theorem dD_covers_35 : decode (Mc mD_covers) 35 = .ok (.getfield 26, 3) := by decide +kernel
theorem dD_covers_38 : decode (Mc mD_covers) 38 = .ok (.iload 6, 2) := by decide +kernel
theorem dD_covers_40 : decode (Mc mD_covers) 40 = .ok (.iaload, 1) := by decide +kernel
theorem dD_covers_41 : decode (Mc mD_covers) 41 = .ok (.iadd, 1) := by decide +kernel
theorem dD_covers_42 : decode (Mc mD_covers) 42 = .ok (.iload_n 3, 1) := by decide +kernel
theorem dD_covers_43 : decode (Mc mD_covers) 43 = .ok (.if_icmp .ne 24, 3) := by decide +kernel
theorem dD_covers_46 : decode (Mc mD_covers) 46 = .ok (.iload_n 2, 1) := by decide +kernel
theorem dD_covers_47 : decode (Mc mD_covers) 47 = .ok (.invokestatic 93, 3) := by decide +kernel
theorem dD_covers_50 : decode (Mc mD_covers) 50 = .ok (.aload_n 0, 1) := by decide +kernel
theorem dD_covers_51 : decode (Mc mD_covers) 51 = .ok (.getfield 29, 3) := by decide +kernel
theorem dD_covers_54 : decode (Mc mD_covers) 54 = .ok (.iload 6, 2) := by decide +kernel
theorem dD_covers_56 : decode (Mc mD_covers) 56 = .ok (.iaload, 1) := by decide +kernel
theorem dD_covers_57 : decode (Mc mD_covers) 57 = .ok (.iadd, 1) := by decide +kernel
theorem dD_covers_58 : decode (Mc mD_covers) 58 = .ok (.iload 4, 2) := by decide +kernel
theorem dD_covers_60 : decode (Mc mD_covers) 60 = .ok (.if_icmp .ne 7, 3) := by decide +kernel
theorem dD_covers_63 : decode (Mc mD_covers) 63 = .ok (.iconst 1, 1) := by decide +kernel
theorem dD_covers_64 : decode (Mc mD_covers) 64 = .ok (.goto 4, 3) := by decide +kernel
theorem dD_covers_67 : decode (Mc mD_covers) 67 = .ok (.iconst 0, 1) := by decide +kernel
theorem dD_covers_68 : decode (Mc mD_covers) 68 = .ok (.istore 5, 2) := by decide +kernel
theorem dD_covers_70 : decode (Mc mD_covers) 70 = .ok (.iinc 6 1, 3) := by decide +kernel
theorem dD_covers_73 : decode (Mc mD_covers) 73 = .ok (.goto (-64), 3) := by decide +kernel
theorem dD_covers_76 : decode (Mc mD_covers) 76 = .ok (.iload 5, 2) := by decide +kernel
theorem dD_covers_78 : decode (Mc mD_covers) 78 = .ok (.ireturn, 1) := by decide +kernel
theorem dD_reach_0 : decode (Mc mD_reach) 0 = .ok (.iload_n 1, 1) := by decide +kernel
theorem dD_reach_1 : decode (Mc mD_reach) 1 = .ok (.invokestatic 82, 3) := by decide +kernel
theorem dD_reach_4 : decode (Mc mD_reach) 4 = .ok (.ifCond .eq 11, 3) := by decide +kernel
theorem dD_reach_7 : decode (Mc mD_reach) 7 = .ok (.iload_n 2, 1) := by decide +kernel
theorem dD_reach_8 : decode (Mc mD_reach) 8 = .ok (.iload_n 3, 1) := by decide +kernel
theorem dD_reach_9 : decode (Mc mD_reach) 9 = .ok (.invokestatic 104, 3) := by decide +kernel
theorem dD_reach_12 : decode (Mc mD_reach) 12 = .ok (.ifCond .ne 5, 3) := by decide +kernel
theorem dD_reach_15 : decode (Mc mD_reach) 15 = .ok (.iconst 0, 1) := by decide +kernel
theorem dD_reach_16 : decode (Mc mD_reach) 16 = .ok (.ireturn, 1) := by decide +kernel
theorem dD_reach_17 : decode (Mc mD_reach) 17 = .ok (.aload_n 0, 1) := by decide +kernel
theorem dD_reach_18 : decode (Mc mD_reach) 18 = .ok (.iload_n 1, 1) := by decide +kernel
theorem dD_reach_19 : decode (Mc mD_reach) 19 = .ok (.invokevirtual 116, 3) := by decide +kernel
theorem dD_reach_22 : decode (Mc mD_reach) 22 = .ok (.iconst 0, 1) := by decide +kernel
theorem dD_reach_23 : decode (Mc mD_reach) 23 = .ok (.istore 4, 2) := by decide +kernel
theorem dD_reach_25 : decode (Mc mD_reach) 25 = .ok (.iconst 0, 1) := by decide +kernel
theorem dD_reach_26 : decode (Mc mD_reach) 26 = .ok (.istore 5, 2) := by decide +kernel
theorem dD_reach_28 : decode (Mc mD_reach) 28 = .ok (.iload 5, 2) := by decide +kernel
theorem dD_reach_30 : decode (Mc mD_reach) 30 = .ok (.sipush 320, 3) := by decide +kernel
theorem dD_reach_33 : decode (Mc mD_reach) 33 = .ok (.if_icmp .ge 43, 3) := by decide +kernel
theorem dD_reach_36 : decode (Mc mD_reach) 36 = .ok (.iload 4, 2) := by decide +kernel
theorem dD_reach_38 : decode (Mc mD_reach) 38 = .ok (.ifCond .ne 25, 3) := by decide +kernel
theorem dD_reach_41 : decode (Mc mD_reach) 41 = .ok (.aload_n 0, 1) := by decide +kernel
theorem dD_reach_42 : decode (Mc mD_reach) 42 = .ok (.getfield 60, 3) := by decide +kernel
theorem dD_reach_45 : decode (Mc mD_reach) 45 = .ok (.iload 5, 2) := by decide +kernel
theorem dD_reach_47 : decode (Mc mD_reach) 47 = .ok (.baload, 1) := by decide +kernel
theorem dD_reach_48 : decode (Mc mD_reach) 48 = .ok (.ifCond .eq 19, 3) := by decide +kernel
theorem dD_reach_51 : decode (Mc mD_reach) 51 = .ok (.aload_n 0, 1) := by decide +kernel
theorem dD_reach_52 : decode (Mc mD_reach) 52 = .ok (.iload_n 1, 1) := by decide +kernel
theorem dD_reach_53 : decode (Mc mD_reach) 53 = .ok (.iload 5, 2) := by decide +kernel
theorem dD_reach_55 : decode (Mc mD_reach) 55 = .ok (.iload_n 2, 1) := by decide +kernel
theorem dD_reach_56 : decode (Mc mD_reach) 56 = .ok (.iload_n 3, 1) := by decide +kernel
theorem dD_reach_57 : decode (Mc mD_reach) 57 = .ok (.invokevirtual 120, 3) := by decide +kernel
theorem dD_reach_60 : decode (Mc mD_reach) 60 = .ok (.ifCond .eq 7, 3) := by decide +kernel
theorem dD_reach_63 : decode (Mc mD_reach) 63 = .ok (.iconst 1, 1) := by decide +kernel
theorem dD_reach_64 : decode (Mc mD_reach) 64 = .ok (.goto 4, 3) := by decide +kernel
theorem dD_reach_67 : decode (Mc mD_reach) 67 = .ok (.iconst 0, 1) := by decide +kernel
theorem dD_reach_68 : decode (Mc mD_reach) 68 = .ok (.istore 4, 2) := by decide +kernel
theorem dD_reach_70 : decode (Mc mD_reach) 70 = .ok (.iinc 5 1, 3) := by decide +kernel
theorem dD_reach_73 : decode (Mc mD_reach) 73 = .ok (.goto (-45), 3) := by decide +kernel
theorem dD_reach_76 : decode (Mc mD_reach) 76 = .ok (.iload 4, 2) := by decide +kernel
theorem dD_reach_78 : decode (Mc mD_reach) 78 = .ok (.ireturn, 1) := by decide +kernel
theorem dD_plan_0 : decode (Mc mD_plan) 0 = .ok (.aload_n 0, 1) := by decide +kernel
theorem dD_plan_1 : decode (Mc mD_plan) 1 = .ok (.invokevirtual 79, 3) := by decide +kernel
theorem dD_plan_4 : decode (Mc mD_plan) 4 = .ok (.aload_n 0, 1) := by decide +kernel
theorem dD_plan_5 : decode (Mc mD_plan) 5 = .ok (.invokevirtual 140, 3) := by decide +kernel
theorem dD_plan_8 : decode (Mc mD_plan) 8 = .ok (.ifCond .ne 5, 3) := by decide +kernel
theorem dD_plan_11 : decode (Mc mD_plan) 11 = .ok (.iconst (-1), 1) := by decide +kernel
theorem dD_plan_12 : decode (Mc mD_plan) 12 = .ok (.ireturn, 1) := by decide +kernel
theorem dD_plan_13 : decode (Mc mD_plan) 13 = .ok (.aload_n 0, 1) := by decide +kernel
theorem dD_plan_14 : decode (Mc mD_plan) 14 = .ok (.invokevirtual 144, 3) := by decide +kernel
theorem dD_plan_17 : decode (Mc mD_plan) 17 = .ok (.iconst 0, 1) := by decide +kernel
theorem dD_plan_18 : decode (Mc mD_plan) 18 = .ok (.istore_n 1, 1) := by decide +kernel
theorem dD_plan_19 : decode (Mc mD_plan) 19 = .ok (.iload_n 1, 1) := by decide +kernel
theorem dD_plan_20 : decode (Mc mD_plan) 20 = .ok (.aload_n 0, 1) := by decide +kernel
theorem dD_plan_21 : decode (Mc mD_plan) 21 = .ok (.getfield 86, 3) := by decide +kernel
theorem dD_plan_24 : decode (Mc mD_plan) 24 = .ok (.if_icmp .ge 98, 3) := by decide +kernel
theorem dD_plan_27 : decode (Mc mD_plan) 27 = .ok (.aload_n 0, 1) := by decide +kernel
theorem dD_plan_28 : decode (Mc mD_plan) 28 = .ok (.getfield 32, 3) := by decide +kernel
theorem dD_plan_31 : decode (Mc mD_plan) 31 = .ok (.iload_n 1, 1) := by decide +kernel
theorem dD_plan_32 : decode (Mc mD_plan) 32 = .ok (.iaload, 1) := by decide +kernel
theorem dD_plan_33 : decode (Mc mD_plan) 33 = .ok (.istore_n 2, 1) := by decide +kernel
theorem dD_plan_34 : decode (Mc mD_plan) 34 = .ok (.aload_n 0, 1) := by decide +kernel
theorem dD_plan_35 : decode (Mc mD_plan) 35 = .ok (.iconst 2, 1) := by decide +kernel
theorem dD_plan_36 : decode (Mc mD_plan) 36 = .ok (.iconst 0, 1) := by decide +kernel
theorem dD_plan_37 : decode (Mc mD_plan) 37 = .ok (.invokevirtual 136, 3) := by decide +kernel
theorem dD_plan_40 : decode (Mc mD_plan) 40 = .ok (.aload_n 0, 1) := by decide +kernel
theorem dD_plan_41 : decode (Mc mD_plan) 41 = .ok (.iload_n 2, 1) := by decide +kernel
theorem dD_plan_42 : decode (Mc mD_plan) 42 = .ok (.invokevirtual 116, 3) := by decide +kernel
theorem dD_plan_45 : decode (Mc mD_plan) 45 = .ok (.bipush (-4), 2) := by decide +kernel
theorem dD_plan_47 : decode (Mc mD_plan) 47 = .ok (.bipush 15, 2) := by decide +kernel
theorem dD_plan_49 : decode (Mc mD_plan) 49 = .ok (.invokestatic 100, 3) := by decide +kernel
theorem dD_plan_52 : decode (Mc mD_plan) 52 = .ok (.istore_n 3, 1) := by decide +kernel
theorem dD_plan_53 : decode (Mc mD_plan) 53 = .ok (.aload_n 0, 1) := by decide +kernel
theorem dD_plan_54 : decode (Mc mD_plan) 54 = .ok (.aload_n 0, 1) := by decide +kernel
theorem dD_plan_55 : decode (Mc mD_plan) 55 = .ok (.getfield 63, 3) := by decide +kernel
theorem dD_plan_58 : decode (Mc mD_plan) 58 = .ok (.iload_n 2, 1) := by decide +kernel
theorem dD_plan_59 : decode (Mc mD_plan) 59 = .ok (.iload_n 3, 1) := by decide +kernel
theorem dD_plan_60 : decode (Mc mD_plan) 60 = .ok (.invokevirtual 129, 3) := by decide +kernel
theorem dD_plan_63 : decode (Mc mD_plan) 63 = .ok (.aload_n 0, 1) := by decide +kernel
theorem dD_plan_64 : decode (Mc mD_plan) 64 = .ok (.iload_n 2, 1) := by decide +kernel
theorem dD_plan_65 : decode (Mc mD_plan) 65 = .ok (.invokevirtual 147, 3) := by decide +kernel
theorem dD_plan_68 : decode (Mc mD_plan) 68 = .ok (.istore 4, 2) := by decide +kernel
theorem dD_plan_70 : decode (Mc mD_plan) 70 = .ok (.iload 4, 2) := by decide +kernel
theorem dD_plan_72 : decode (Mc mD_plan) 72 = .ok (.ifCond .lt 44, 3) := by decide +kernel
theorem dD_plan_75 : decode (Mc mD_plan) 75 = .ok (.aload_n 0, 1) := by decide +kernel
theorem dD_plan_76 : decode (Mc mD_plan) 76 = .ok (.getfield 76, 3) := by decide +kernel
theorem dD_plan_79 : decode (Mc mD_plan) 79 = .ok (.sipush 2000, 3) := by decide +kernel
theorem dD_plan_82 : decode (Mc mD_plan) 82 = .ok (.if_icmp .gt 34, 3) := by decide +kernel
theorem dD_plan_85 : decode (Mc mD_plan) 85 = .ok (.aload_n 0, 1) := by decide +kernel
theorem dD_plan_86 : decode (Mc mD_plan) 86 = .ok (.iload_n 2, 1) := by decide +kernel
theorem dD_plan_87 : decode (Mc mD_plan) 87 = .ok (.iload_n 3, 1) := by decide +kernel
theorem dD_plan_88 : decode (Mc mD_plan) 88 = .ok (.iload 4, 2) := by decide +kernel
theorem dD_plan_90 : decode (Mc mD_plan) 90 = .ok (.invokevirtual 150, 3) := by decide +kernel
theorem dD_plan_93 : decode (Mc mD_plan) 93 = .ok (.iload 4, 2) := by decide +kernel
theorem dD_plan_95 : decode (Mc mD_plan) 95 = .ok (.istore_n 3, 1) := by decide +kernel
theorem dD_plan_96 : decode (Mc mD_plan) 96 = .ok (.aload_n 0, 1) := by decide +kernel
theorem dD_plan_97 : decode (Mc mD_plan) 97 = .ok (.aload_n 0, 1) := by decide +kernel
theorem dD_plan_98 : decode (Mc mD_plan) 98 = .ok (.getfield 63, 3) := by decide +kernel
theorem dD_plan_101 : decode (Mc mD_plan) 101 = .ok (.iload_n 2, 1) := by decide +kernel
theorem dD_plan_102 : decode (Mc mD_plan) 102 = .ok (.iload_n 3, 1) := by decide +kernel
theorem dD_plan_103 : decode (Mc mD_plan) 103 = .ok (.invokevirtual 129, 3) := by decide +kernel
theorem dD_plan_106 : decode (Mc mD_plan) 106 = .ok (.aload_n 0, 1) := by decide +kernel
theorem dD_plan_107 : decode (Mc mD_plan) 107 = .ok (.iload_n 2, 1) := by decide +kernel
theorem dD_plan_108 : decode (Mc mD_plan) 108 = .ok (.invokevirtual 147, 3) := by decide +kernel
theorem dD_plan_111 : decode (Mc mD_plan) 111 = .ok (.istore 4, 2) := by decide +kernel
theorem dD_plan_113 : decode (Mc mD_plan) 113 = .ok (.goto (-43), 3) := by decide +kernel
theorem dD_plan_116 : decode (Mc mD_plan) 116 = .ok (.iinc 1 1, 3) := by decide +kernel
theorem dD_plan_119 : decode (Mc mD_plan) 119 = .ok (.goto (-100), 3) := by decide +kernel
theorem dD_plan_122 : decode (Mc mD_plan) 122 = .ok (.aload_n 0, 1) := by decide +kernel
theorem dD_plan_123 : decode (Mc mD_plan) 123 = .ok (.getfield 76, 3) := by decide +kernel
theorem dD_plan_126 : decode (Mc mD_plan) 126 = .ok (.sipush 2000, 3) := by decide +kernel
theorem dD_plan_129 : decode (Mc mD_plan) 129 = .ok (.if_icmp .le 10, 3) := by decide +kernel
theorem dD_plan_132 : decode (Mc mD_plan) 132 = .ok (.aload_n 0, 1) := by decide +kernel
theorem dD_plan_133 : decode (Mc mD_plan) 133 = .ok (.iconst 0, 1) := by decide +kernel
theorem dD_plan_134 : decode (Mc mD_plan) 134 = .ok (.putfield 76, 3) := by decide +kernel
theorem dD_plan_137 : decode (Mc mD_plan) 137 = .ok (.iconst (-1), 1) := by decide +kernel
theorem dD_plan_138 : decode (Mc mD_plan) 138 = .ok (.ireturn, 1) := by decide +kernel
theorem dD_plan_139 : decode (Mc mD_plan) 139 = .ok (.aload_n 0, 1) := by decide +kernel
theorem dD_plan_140 : decode (Mc mD_plan) 140 = .ok (.iconst 1, 1) := by decide +kernel
theorem dD_plan_141 : decode (Mc mD_plan) 141 = .ok (.putfield 69, 3) := by decide +kernel
theorem dD_plan_144 : decode (Mc mD_plan) 144 = .ok (.aload_n 0, 1) := by decide +kernel
theorem dD_plan_145 : decode (Mc mD_plan) 145 = .ok (.iconst 0, 1) := by decide +kernel
theorem dD_plan_146 : decode (Mc mD_plan) 146 = .ok (.putfield 154, 3) := by decide +kernel
theorem dD_plan_149 : decode (Mc mD_plan) 149 = .ok (.iconst 0, 1) := by decide +kernel
theorem dD_plan_150 : decode (Mc mD_plan) 150 = .ok (.istore_n 1, 1) := by decide +kernel
theorem dD_plan_151 : decode (Mc mD_plan) 151 = .ok (.iload_n 1, 1) := by decide +kernel
theorem dD_plan_152 : decode (Mc mD_plan) 152 = .ok (.bipush 96, 2) := by decide +kernel
theorem dD_plan_154 : decode (Mc mD_plan) 154 = .ok (.if_icmp .ge 51, 3) := by decide +kernel
theorem dD_plan_157 : decode (Mc mD_plan) 157 = .ok (.aload_n 0, 1) := by decide +kernel
theorem dD_plan_158 : decode (Mc mD_plan) 158 = .ok (.aload_n 0, 1) := by decide +kernel
theorem dD_plan_159 : decode (Mc mD_plan) 159 = .ok (.getfield 57, 3) := by decide +kernel
theorem dD_plan_162 : decode (Mc mD_plan) 162 = .ok (.iload_n 1, 1) := by decide +kernel
theorem dD_plan_163 : decode (Mc mD_plan) 163 = .ok (.baload, 1) := by decide +kernel
theorem dD_plan_164 : decode (Mc mD_plan) 164 = .ok (.ifCond .eq 28, 3) := by decide +kernel
theorem dD_plan_167 : decode (Mc mD_plan) 167 = .ok (.iload_n 1, 1) := by decide +kernel
theorem dD_plan_168 : decode (Mc mD_plan) 168 = .ok (.bipush 8, 2) := by decide +kernel
theorem dD_plan_170 : decode (Mc mD_plan) 170 = .ok (.irem, 1) := by decide +kernel
theorem dD_plan_171 : decode (Mc mD_plan) 171 = .ok (.aload_n 0, 1) := by decide +kernel
theorem dD_plan_172 : decode (Mc mD_plan) 172 = .ok (.getfield 19, 3) := by decide +kernel
theorem dD_plan_175 : decode (Mc mD_plan) 175 = .ok (.iload_n 1, 1) := by decide +kernel
theorem dD_plan_176 : decode (Mc mD_plan) 176 = .ok (.bipush 8, 2) := by decide +kernel
theorem dD_plan_178 : decode (Mc mD_plan) 178 = .ok (.idiv, 1) := by decide +kernel
theorem dD_plan_179 : decode (Mc mD_plan) 179 = .ok (.iaload, 1) := by decide +kernel
theorem dD_plan_180 : decode (Mc mD_plan) 180 = .ok (.if_icmp .lt 12, 3) := by decide +kernel
theorem dD_plan_183 : decode (Mc mD_plan) 183 = .ok (.aload_n 0, 1) := by decide +kernel
theorem dD_plan_184 : decode (Mc mD_plan) 184 = .ok (.getfield 154, 3) := by decide +kernel
theorem dD_plan_187 : decode (Mc mD_plan) 187 = .ok (.iconst 1, 1) := by decide +kernel
theorem dD_plan_188 : decode (Mc mD_plan) 188 = .ok (.iadd, 1) := by decide +kernel
theorem dD_plan_189 : decode (Mc mD_plan) 189 = .ok (.goto 7, 3) := by decide +kernel
theorem dD_plan_192 : decode (Mc mD_plan) 192 = .ok (.aload_n 0, 1) := by decide +kernel
theorem dD_plan_193 : decode (Mc mD_plan) 193 = .ok (.getfield 154, 3) := by decide +kernel
theorem dD_plan_196 : decode (Mc mD_plan) 196 = .ok (.putfield 154, 3) := by decide +kernel
theorem dD_plan_199 : decode (Mc mD_plan) 199 = .ok (.iinc 1 1, 3) := by decide +kernel
theorem dD_plan_202 : decode (Mc mD_plan) 202 = .ok (.goto (-51), 3) := by decide +kernel
theorem dD_plan_205 : decode (Mc mD_plan) 205 = .ok (.iconst 0, 1) := by decide +kernel
theorem dD_plan_206 : decode (Mc mD_plan) 206 = .ok (.istore_n 1, 1) := by decide +kernel
theorem dD_plan_207 : decode (Mc mD_plan) 207 = .ok (.iload_n 1, 1) := by decide +kernel
theorem dD_plan_208 : decode (Mc mD_plan) 208 = .ok (.aload_n 0, 1) := by decide +kernel
theorem dD_plan_209 : decode (Mc mD_plan) 209 = .ok (.getfield 76, 3) := by decide +kernel
theorem dD_plan_212 : decode (Mc mD_plan) 212 = .ok (.if_icmp .ge 14, 3) := by decide +kernel
theorem dD_plan_215 : decode (Mc mD_plan) 215 = .ok (.aload_n 0, 1) := by decide +kernel
theorem dD_plan_216 : decode (Mc mD_plan) 216 = .ok (.iload_n 1, 1) := by decide +kernel
theorem dD_plan_217 : decode (Mc mD_plan) 217 = .ok (.invokevirtual 157, 3) := by decide +kernel
theorem dD_plan_220 : decode (Mc mD_plan) 220 = .ok (.iinc 1 1, 3) := by decide +kernel
theorem dD_plan_223 : decode (Mc mD_plan) 223 = .ok (.goto (-16), 3) := by decide +kernel
theorem dD_plan_226 : decode (Mc mD_plan) 226 = .ok (.aload_n 0, 1) := by decide +kernel
theorem dD_plan_227 : decode (Mc mD_plan) 227 = .ok (.getfield 76, 3) := by decide +kernel
theorem dD_plan_230 : decode (Mc mD_plan) 230 = .ok (.ireturn, 1) := by decide +kernel
theorem dD_isJob_0 : decode (Mc mD_isJob) 0 = .ok (.aload_n 0, 1) := by decide +kernel
theorem dD_isJob_1 : decode (Mc mD_isJob) 1 = .ok (.getfield 86, 3) := by decide +kernel
theorem dD_isJob_4 : decode (Mc mD_isJob) 4 = .ok (.ifCond .le 7, 3) := by decide +kernel
theorem dD_isJob_7 : decode (Mc mD_isJob) 7 = .ok (.iconst 1, 1) := by decide +kernel
theorem dD_isJob_8 : decode (Mc mD_isJob) 8 = .ok (.goto 4, 3) := by decide +kernel
theorem dD_isJob_11 : decode (Mc mD_isJob) 11 = .ok (.iconst 0, 1) := by decide +kernel
theorem dD_isJob_12 : decode (Mc mD_isJob) 12 = .ok (.istore_n 1, 1) := by decide +kernel
theorem dD_isJob_13 : decode (Mc mD_isJob) 13 = .ok (.iconst 0, 1) := by decide +kernel
theorem dD_isJob_14 : decode (Mc mD_isJob) 14 = .ok (.istore_n 2, 1) := by decide +kernel
theorem dD_isJob_15 : decode (Mc mD_isJob) 15 = .ok (.iload_n 2, 1) := by decide +kernel
theorem dD_isJob_16 : decode (Mc mD_isJob) 16 = .ok (.aload_n 0, 1) := by decide +kernel
theorem dD_isJob_17 : decode (Mc mD_isJob) 17 = .ok (.getfield 86, 3) := by decide +kernel
theorem dD_isJob_20 : decode (Mc mD_isJob) 20 = .ok (.if_icmp .ge 33, 3) := by decide +kernel
theorem dD_isJob_23 : decode (Mc mD_isJob) 23 = .ok (.iload_n 1, 1) := by decide +kernel
theorem dD_isJob_24 : decode (Mc mD_isJob) 24 = .ok (.ifCond .eq 21, 3) := by decide +kernel
theorem dD_isJob_27 : decode (Mc mD_isJob) 27 = .ok (.aload_n 0, 1) := by decide +kernel
theorem dD_isJob_28 : decode (Mc mD_isJob) 28 = .ok (.getfield 23, 3) := by decide +kernel
theorem dD_isJob_31 : decode (Mc mD_isJob) 31 = .ok (.aload_n 0, 1) := by decide +kernel
theorem dD_isJob_32 : decode (Mc mD_isJob) 32 = .ok (.getfield 32, 3) := by decide +kernel
theorem dD_isJob_35 : decode (Mc mD_isJob) 35 = .ok (.iload_n 2, 1) := by decide +kernel
theorem dD_isJob_36 : decode (Mc mD_isJob) 36 = .ok (.iaload, 1) := by decide +kernel
theorem dD_isJob_37 : decode (Mc mD_isJob) 37 = .ok (.iaload, 1) := by decide +kernel
theorem dD_isJob_38 : decode (Mc mD_isJob) 38 = .ok (.ifCond .le 7, 3) := by decide +kernel
theorem dD_isJob_41 : decode (Mc mD_isJob) 41 = .ok (.iconst 1, 1) := by decide +kernel
theorem dD_isJob_42 : decode (Mc mD_isJob) 42 = .ok (.goto 4, 3) := by decide +kernel
theorem dD_isJob_45 : decode (Mc mD_isJob) 45 = .ok (.iconst 0, 1) := by decide +kernel
theorem dD_isJob_46 : decode (Mc mD_isJob) 46 = .ok (.istore_n 1, 1) := by decide +kernel
theorem dD_isJob_47 : decode (Mc mD_isJob) 47 = .ok (.iinc 2 1, 3) := by decide +kernel
theorem dD_isJob_50 : decode (Mc mD_isJob) 50 = .ok (.goto (-35), 3) := by decide +kernel
theorem dD_isJob_53 : decode (Mc mD_isJob) 53 = .ok (.iload_n 1, 1) := by decide +kernel
theorem dD_isJob_54 : decode (Mc mD_isJob) 54 = .ok (.ireturn, 1) := by decide +kernel
theorem dD_fill_0 : decode (Mc mD_fill) 0 = .ok (.iconst 0, 1) := by decide +kernel
theorem dD_fill_1 : decode (Mc mD_fill) 1 = .ok (.istore_n 1, 1) := by decide +kernel
theorem dD_fill_2 : decode (Mc mD_fill) 2 = .ok (.iload_n 1, 1) := by decide +kernel
theorem dD_fill_3 : decode (Mc mD_fill) 3 = .ok (.bipush 96, 2) := by decide +kernel
theorem dD_fill_5 : decode (Mc mD_fill) 5 = .ok (.if_icmp .ge 27, 3) := by decide +kernel
theorem dD_fill_8 : decode (Mc mD_fill) 8 = .ok (.aload_n 0, 1) := by decide +kernel
theorem dD_fill_9 : decode (Mc mD_fill) 9 = .ok (.getfield 57, 3) := by decide +kernel
theorem dD_fill_12 : decode (Mc mD_fill) 12 = .ok (.iload_n 1, 1) := by decide +kernel
theorem dD_fill_13 : decode (Mc mD_fill) 13 = .ok (.aload_n 0, 1) := by decide +kernel
theorem dD_fill_14 : decode (Mc mD_fill) 14 = .ok (.iload_n 1, 1) := by decide +kernel
theorem dD_fill_15 : decode (Mc mD_fill) 15 = .ok (.bipush 8, 2) := by decide +kernel
theorem dD_fill_17 : decode (Mc mD_fill) 17 = .ok (.idiv, 1) := by decide +kernel
theorem dD_fill_18 : decode (Mc mD_fill) 18 = .ok (.iload_n 1, 1) := by decide +kernel
theorem dD_fill_19 : decode (Mc mD_fill) 19 = .ok (.bipush 8, 2) := by decide +kernel
theorem dD_fill_21 : decode (Mc mD_fill) 21 = .ok (.irem, 1) := by decide +kernel
theorem dD_fill_22 : decode (Mc mD_fill) 22 = .ok (.invokevirtual 107, 3) := by decide +kernel
theorem dD_fill_25 : decode (Mc mD_fill) 25 = .ok (.bastore, 1) := by decide +kernel
theorem dD_fill_26 : decode (Mc mD_fill) 26 = .ok (.iinc 1 1, 3) := by decide +kernel
theorem dD_fill_29 : decode (Mc mD_fill) 29 = .ok (.goto (-27), 3) := by decide +kernel
theorem dD_fill_32 : decode (Mc mD_fill) 32 = .ok (.return_, 1) := by decide +kernel
theorem dD_add_0 : decode (Mc mD_add) 0 = .ok (.aload_n 0, 1) := by decide +kernel
theorem dD_add_1 : decode (Mc mD_add) 1 = .ok (.getfield 76, 3) := by decide +kernel
theorem dD_add_4 : decode (Mc mD_add) 4 = .ok (.ifCond .le 52, 3) := by decide +kernel
theorem dD_add_7 : decode (Mc mD_add) 7 = .ok (.iload_n 1, 1) := by decide +kernel
theorem dD_add_8 : decode (Mc mD_add) 8 = .ok (.iconst 2, 1) := by decide +kernel
theorem dD_add_9 : decode (Mc mD_add) 9 = .ok (.if_icmp .ge 47, 3) := by decide +kernel
theorem dD_add_12 : decode (Mc mD_add) 12 = .ok (.aload_n 0, 1) := by decide +kernel
theorem dD_add_13 : decode (Mc mD_add) 13 = .ok (.getfield 76, 3) := by decide +kernel
theorem dD_add_16 : decode (Mc mD_add) 16 = .ok (.sipush 2000, 3) := by decide +kernel
theorem dD_add_19 : decode (Mc mD_add) 19 = .ok (.if_icmp .gt 37, 3) := by decide +kernel
theorem dD_add_22 : decode (Mc mD_add) 22 = .ok (.aload_n 0, 1) := by decide +kernel
theorem dD_add_23 : decode (Mc mD_add) 23 = .ok (.getfield 35, 3) := by decide +kernel
theorem dD_add_26 : decode (Mc mD_add) 26 = .ok (.aload_n 0, 1) := by decide +kernel
theorem dD_add_27 : decode (Mc mD_add) 27 = .ok (.getfield 76, 3) := by decide +kernel
theorem dD_add_30 : decode (Mc mD_add) 30 = .ok (.iconst 1, 1) := by decide +kernel
theorem dD_add_31 : decode (Mc mD_add) 31 = .ok (.isub, 1) := by decide +kernel
theorem dD_add_32 : decode (Mc mD_add) 32 = .ok (.iaload, 1) := by decide +kernel
theorem dD_add_33 : decode (Mc mD_add) 33 = .ok (.iload_n 1, 1) := by decide +kernel
theorem dD_add_34 : decode (Mc mD_add) 34 = .ok (.if_icmp .ne 22, 3) := by decide +kernel
theorem dD_add_37 : decode (Mc mD_add) 37 = .ok (.aload_n 0, 1) := by decide +kernel
theorem dD_add_38 : decode (Mc mD_add) 38 = .ok (.getfield 38, 3) := by decide +kernel
theorem dD_add_41 : decode (Mc mD_add) 41 = .ok (.aload_n 0, 1) := by decide +kernel
theorem dD_add_42 : decode (Mc mD_add) 42 = .ok (.getfield 76, 3) := by decide +kernel
theorem dD_add_45 : decode (Mc mD_add) 45 = .ok (.iconst 1, 1) := by decide +kernel
theorem dD_add_46 : decode (Mc mD_add) 46 = .ok (.isub, 1) := by decide +kernel
theorem dD_add_47 : decode (Mc mD_add) 47 = .ok (.iaload, 1) := by decide +kernel
theorem dD_add_48 : decode (Mc mD_add) 48 = .ok (.iload_n 2, 1) := by decide +kernel
theorem dD_add_49 : decode (Mc mD_add) 49 = .ok (.if_icmp .ne 7, 3) := by decide +kernel
theorem dD_add_52 : decode (Mc mD_add) 52 = .ok (.iconst 1, 1) := by decide +kernel
theorem dD_add_53 : decode (Mc mD_add) 53 = .ok (.goto 4, 3) := by decide +kernel
theorem dD_add_56 : decode (Mc mD_add) 56 = .ok (.iconst 0, 1) := by decide +kernel
theorem dD_add_57 : decode (Mc mD_add) 57 = .ok (.istore_n 3, 1) := by decide +kernel
theorem dD_add_58 : decode (Mc mD_add) 58 = .ok (.iload_n 3, 1) := by decide +kernel
theorem dD_add_59 : decode (Mc mD_add) 59 = .ok (.ifCond .eq 28, 3) := by decide +kernel
theorem dD_add_62 : decode (Mc mD_add) 62 = .ok (.aload_n 0, 1) := by decide +kernel
theorem dD_add_63 : decode (Mc mD_add) 63 = .ok (.getfield 41, 3) := by decide +kernel
theorem dD_add_66 : decode (Mc mD_add) 66 = .ok (.aload_n 0, 1) := by decide +kernel
theorem dD_add_67 : decode (Mc mD_add) 67 = .ok (.getfield 76, 3) := by decide +kernel
theorem dD_add_70 : decode (Mc mD_add) 70 = .ok (.iconst 1, 1) := by decide +kernel
theorem dD_add_71 : decode (Mc mD_add) 71 = .ok (.isub, 1) := by decide +kernel
theorem dD_add_72 : decode (Mc mD_add) 72 = .ok (.aload_n 0, 1) := by decide +kernel
theorem dD_add_73 : decode (Mc mD_add) 73 = .ok (.getfield 41, 3) := by decide +kernel
theorem dD_add_76 : decode (Mc mD_add) 76 = .ok (.aload_n 0, 1) := by decide +kernel
theorem dD_add_77 : decode (Mc mD_add) 77 = .ok (.getfield 76, 3) := by decide +kernel
theorem dD_add_80 : decode (Mc mD_add) 80 = .ok (.iconst 1, 1) := by decide +kernel
theorem dD_add_81 : decode (Mc mD_add) 81 = .ok (.isub, 1) := by decide +kernel
theorem dD_add_82 : decode (Mc mD_add) 82 = .ok (.iaload, 1) := by decide +kernel
theorem dD_add_83 : decode (Mc mD_add) 83 = .ok (.iconst 1, 1) := by decide +kernel
theorem dD_add_84 : decode (Mc mD_add) 84 = .ok (.iadd, 1) := by decide +kernel
theorem dD_add_85 : decode (Mc mD_add) 85 = .ok (.iastore, 1) := by decide +kernel
theorem dD_add_86 : decode (Mc mD_add) 86 = .ok (.return_, 1) := by decide +kernel
theorem dD_add_87 : decode (Mc mD_add) 87 = .ok (.aload_n 0, 1) := by decide +kernel
theorem dD_add_88 : decode (Mc mD_add) 88 = .ok (.getfield 76, 3) := by decide +kernel
theorem dD_add_91 : decode (Mc mD_add) 91 = .ok (.sipush 2000, 3) := by decide +kernel
theorem dD_add_94 : decode (Mc mD_add) 94 = .ok (.if_icmp .ge 42, 3) := by decide +kernel
theorem dD_add_97 : decode (Mc mD_add) 97 = .ok (.aload_n 0, 1) := by decide +kernel
theorem dD_add_98 : decode (Mc mD_add) 98 = .ok (.getfield 35, 3) := by decide +kernel
theorem dD_add_101 : decode (Mc mD_add) 101 = .ok (.aload_n 0, 1) := by decide +kernel
theorem dD_add_102 : decode (Mc mD_add) 102 = .ok (.getfield 76, 3) := by decide +kernel
theorem dD_add_105 : decode (Mc mD_add) 105 = .ok (.iload_n 1, 1) := by decide +kernel
theorem dD_add_106 : decode (Mc mD_add) 106 = .ok (.iastore, 1) := by decide +kernel
theorem dD_add_107 : decode (Mc mD_add) 107 = .ok (.aload_n 0, 1) := by decide +kernel
theorem dD_add_108 : decode (Mc mD_add) 108 = .ok (.getfield 38, 3) := by decide +kernel
theorem dD_add_111 : decode (Mc mD_add) 111 = .ok (.aload_n 0, 1) := by decide +kernel
theorem dD_add_112 : decode (Mc mD_add) 112 = .ok (.getfield 76, 3) := by decide +kernel
theorem dD_add_115 : decode (Mc mD_add) 115 = .ok (.iload_n 2, 1) := by decide +kernel
theorem dD_add_116 : decode (Mc mD_add) 116 = .ok (.iastore, 1) := by decide +kernel
theorem dD_add_117 : decode (Mc mD_add) 117 = .ok (.aload_n 0, 1) := by decide +kernel
theorem dD_add_118 : decode (Mc mD_add) 118 = .ok (.getfield 41, 3) := by decide +kernel
theorem dD_add_121 : decode (Mc mD_add) 121 = .ok (.aload_n 0, 1) := by decide +kernel
theorem dD_add_122 : decode (Mc mD_add) 122 = .ok (.getfield 76, 3) := by decide +kernel
theorem dD_add_125 : decode (Mc mD_add) 125 = .ok (.iload_n 1, 1) := by decide +kernel
theorem dD_add_126 : decode (Mc mD_add) 126 = .ok (.iconst 2, 1) := by decide +kernel
theorem dD_add_127 : decode (Mc mD_add) 127 = .ok (.if_icmp .ge 7, 3) := by decide +kernel
theorem dD_add_130 : decode (Mc mD_add) 130 = .ok (.iconst 1, 1) := by decide +kernel
theorem dD_add_131 : decode (Mc mD_add) 131 = .ok (.goto 4, 3) := by decide +kernel
theorem dD_add_134 : decode (Mc mD_add) 134 = .ok (.iconst 0, 1) := by decide +kernel
theorem dD_add_135 : decode (Mc mD_add) 135 = .ok (.iastore, 1) := by decide +kernel
theorem dD_add_136 : decode (Mc mD_add) 136 = .ok (.aload_n 0, 1) := by decide +kernel
theorem dD_add_137 : decode (Mc mD_add) 137 = .ok (.aload_n 0, 1) := by decide +kernel
theorem dD_add_138 : decode (Mc mD_add) 138 = .ok (.getfield 76, 3) := by decide +kernel
theorem dD_add_141 : decode (Mc mD_add) 141 = .ok (.iconst 1, 1) := by decide +kernel
theorem dD_add_142 : decode (Mc mD_add) 142 = .ok (.iadd, 1) := by decide +kernel
theorem dD_add_143 : decode (Mc mD_add) 143 = .ok (.putfield 76, 3) := by decide +kernel
theorem dD_add_146 : decode (Mc mD_add) 146 = .ok (.return_, 1) := by decide +kernel
theorem dD_measure_0 : decode (Mc mD_measure) 0 = .ok (.iconst 0, 1) := by decide +kernel
theorem dD_measure_1 : decode (Mc mD_measure) 1 = .ok (.istore 4, 2) := by decide +kernel
theorem dD_measure_3 : decode (Mc mD_measure) 3 = .ok (.iload 4, 2) := by decide +kernel
theorem dD_measure_5 : decode (Mc mD_measure) 5 = .ok (.sipush 320, 3) := by decide +kernel
theorem dD_measure_8 : decode (Mc mD_measure) 8 = .ok (.if_icmp .ge 25, 3) := by decide +kernel
theorem dD_measure_11 : decode (Mc mD_measure) 11 = .ok (.aload_n 1, 1) := by decide +kernel
theorem dD_measure_12 : decode (Mc mD_measure) 12 = .ok (.iload 4, 2) := by decide +kernel
theorem dD_measure_14 : decode (Mc mD_measure) 14 = .ok (.iload 4, 2) := by decide +kernel
theorem dD_measure_16 : decode (Mc mD_measure) 16 = .ok (.iload_n 3, 1) := by decide +kernel
theorem dD_measure_17 : decode (Mc mD_measure) 17 = .ok (.if_icmp .ne 7, 3) := by decide +kernel
theorem dD_measure_20 : decode (Mc mD_measure) 20 = .ok (.iconst 0, 1) := by decide +kernel
theorem dD_measure_21 : decode (Mc mD_measure) 21 = .ok (.goto 5, 3) := by decide +kernel
theorem dD_measure_24 : decode (Mc mD_measure) 24 = .ok (.ldc 124, 2) := by decide +kernel
theorem dD_measure_26 : decode (Mc mD_measure) 26 = .ok (.iastore, 1) := by decide +kernel
theorem dD_measure_27 : decode (Mc mD_measure) 27 = .ok (.iinc 4 1, 3) := by decide +kernel
theorem dD_measure_30 : decode (Mc mD_measure) 30 = .ok (.goto (-27), 3) := by decide +kernel
theorem dD_measure_33 : decode (Mc mD_measure) 33 = .ok (.iconst 1, 1) := by decide +kernel
theorem dD_measure_34 : decode (Mc mD_measure) 34 = .ok (.istore 4, 2) := by decide +kernel
theorem dD_measure_36 : decode (Mc mD_measure) 36 = .ok (.iconst 0, 1) := by decide +kernel
theorem dD_measure_37 : decode (Mc mD_measure) 37 = .ok (.istore 5, 2) := by decide +kernel
theorem dD_measure_39 : decode (Mc mD_measure) 39 = .ok (.iload 4, 2) := by decide +kernel
theorem dD_measure_41 : decode (Mc mD_measure) 41 = .ok (.ifCond .eq 126, 3) := by decide +kernel
theorem dD_measure_44 : decode (Mc mD_measure) 44 = .ok (.iconst 0, 1) := by decide +kernel
theorem dD_measure_45 : decode (Mc mD_measure) 45 = .ok (.istore 4, 2) := by decide +kernel
theorem dD_measure_47 : decode (Mc mD_measure) 47 = .ok (.iconst 0, 1) := by decide +kernel
theorem dD_measure_48 : decode (Mc mD_measure) 48 = .ok (.istore 6, 2) := by decide +kernel
theorem dD_measure_50 : decode (Mc mD_measure) 50 = .ok (.iload 6, 2) := by decide +kernel
theorem dD_measure_52 : decode (Mc mD_measure) 52 = .ok (.sipush 320, 3) := by decide +kernel
theorem dD_measure_55 : decode (Mc mD_measure) 55 = .ok (.if_icmp .ge 106, 3) := by decide +kernel
theorem dD_measure_58 : decode (Mc mD_measure) 58 = .ok (.aload_n 1, 1) := by decide +kernel
theorem dD_measure_59 : decode (Mc mD_measure) 59 = .ok (.iload 6, 2) := by decide +kernel
theorem dD_measure_61 : decode (Mc mD_measure) 61 = .ok (.iaload, 1) := by decide +kernel
theorem dD_measure_62 : decode (Mc mD_measure) 62 = .ok (.iload 5, 2) := by decide +kernel
theorem dD_measure_64 : decode (Mc mD_measure) 64 = .ok (.if_icmp .ne 24, 3) := by decide +kernel
theorem dD_measure_67 : decode (Mc mD_measure) 67 = .ok (.iload 6, 2) := by decide +kernel
theorem dD_measure_69 : decode (Mc mD_measure) 69 = .ok (.iload_n 3, 1) := by decide +kernel
theorem dD_measure_70 : decode (Mc mD_measure) 70 = .ok (.if_icmp .eq 14, 3) := by decide +kernel
theorem dD_measure_73 : decode (Mc mD_measure) 73 = .ok (.aload_n 0, 1) := by decide +kernel
theorem dD_measure_74 : decode (Mc mD_measure) 74 = .ok (.iload_n 2, 1) := by decide +kernel
theorem dD_measure_75 : decode (Mc mD_measure) 75 = .ok (.iload 6, 2) := by decide +kernel
theorem dD_measure_77 : decode (Mc mD_measure) 77 = .ok (.iconst 0, 1) := by decide +kernel
theorem dD_measure_78 : decode (Mc mD_measure) 78 = .ok (.invokevirtual 125, 3) := by decide +kernel
theorem dD_measure_81 : decode (Mc mD_measure) 81 = .ok (.ifCond .ne 7, 3) := by decide +kernel
theorem dD_measure_84 : decode (Mc mD_measure) 84 = .ok (.iconst 1, 1) := by decide +kernel
theorem dD_measure_85 : decode (Mc mD_measure) 85 = .ok (.goto 4, 3) := by decide +kernel
theorem dD_measure_88 : decode (Mc mD_measure) 88 = .ok (.iconst 0, 1) := by decide +kernel
theorem dD_measure_89 : decode (Mc mD_measure) 89 = .ok (.istore 7, 2) := by decide +kernel
theorem dD_measure_91 : decode (Mc mD_measure) 91 = .ok (.iconst 0, 1) := by decide +kernel
theorem dD_measure_92 : decode (Mc mD_measure) 92 = .ok (.istore 8, 2) := by decide +kernel
theorem dD_measure_94 : decode (Mc mD_measure) 94 = .ok (.iload 8, 2) := by decide +kernel
theorem dD_measure_96 : decode (Mc mD_measure) 96 = .ok (.iconst 4, 1) := by decide +kernel
theorem dD_measure_97 : decode (Mc mD_measure) 97 = .ok (.if_icmp .ge 58, 3) := by decide +kernel
theorem dD_measure_100 : decode (Mc mD_measure) 100 = .ok (.iload 7, 2) := by decide +kernel
theorem dD_measure_102 : decode (Mc mD_measure) 102 = .ok (.ifCond .eq 53, 3) := by decide +kernel
theorem dD_measure_105 : decode (Mc mD_measure) 105 = .ok (.iload 6, 2) := by decide +kernel
theorem dD_measure_107 : decode (Mc mD_measure) 107 = .ok (.iload 8, 2) := by decide +kernel
theorem dD_measure_109 : decode (Mc mD_measure) 109 = .ok (.invokestatic 110, 3) := by decide +kernel
theorem dD_measure_112 : decode (Mc mD_measure) 112 = .ok (.istore 9, 2) := by decide +kernel
theorem dD_measure_114 : decode (Mc mD_measure) 114 = .ok (.iload 9, 2) := by decide +kernel
theorem dD_measure_116 : decode (Mc mD_measure) 116 = .ok (.ifCond .lt 33, 3) := by decide +kernel
theorem dD_measure_119 : decode (Mc mD_measure) 119 = .ok (.aload_n 0, 1) := by decide +kernel
theorem dD_measure_120 : decode (Mc mD_measure) 120 = .ok (.getfield 60, 3) := by decide +kernel
theorem dD_measure_123 : decode (Mc mD_measure) 123 = .ok (.iload 9, 2) := by decide +kernel
theorem dD_measure_125 : decode (Mc mD_measure) 125 = .ok (.baload, 1) := by decide +kernel
theorem dD_measure_126 : decode (Mc mD_measure) 126 = .ok (.ifCond .eq 23, 3) := by decide +kernel
theorem dD_measure_129 : decode (Mc mD_measure) 129 = .ok (.aload_n 1, 1) := by decide +kernel
theorem dD_measure_130 : decode (Mc mD_measure) 130 = .ok (.iload 9, 2) := by decide +kernel
theorem dD_measure_132 : decode (Mc mD_measure) 132 = .ok (.iaload, 1) := by decide +kernel
theorem dD_measure_133 : decode (Mc mD_measure) 133 = .ok (.ldc 124, 2) := by decide +kernel
theorem dD_measure_135 : decode (Mc mD_measure) 135 = .ok (.if_icmp .ne 14, 3) := by decide +kernel
theorem dD_measure_138 : decode (Mc mD_measure) 138 = .ok (.aload_n 1, 1) := by decide +kernel
theorem dD_measure_139 : decode (Mc mD_measure) 139 = .ok (.iload 9, 2) := by decide +kernel
theorem dD_measure_141 : decode (Mc mD_measure) 141 = .ok (.iload 5, 2) := by decide +kernel
theorem dD_measure_143 : decode (Mc mD_measure) 143 = .ok (.iconst 1, 1) := by decide +kernel
theorem dD_measure_144 : decode (Mc mD_measure) 144 = .ok (.iadd, 1) := by decide +kernel
theorem dD_measure_145 : decode (Mc mD_measure) 145 = .ok (.iastore, 1) := by decide +kernel
theorem dD_measure_146 : decode (Mc mD_measure) 146 = .ok (.iconst 1, 1) := by decide +kernel
theorem dD_measure_147 : decode (Mc mD_measure) 147 = .ok (.istore 4, 2) := by decide +kernel
theorem dD_measure_149 : decode (Mc mD_measure) 149 = .ok (.iinc 8 1, 3) := by decide +kernel
theorem dD_measure_152 : decode (Mc mD_measure) 152 = .ok (.goto (-58), 3) := by decide +kernel
theorem dD_measure_155 : decode (Mc mD_measure) 155 = .ok (.iinc 6 1, 3) := by decide +kernel
theorem dD_measure_158 : decode (Mc mD_measure) 158 = .ok (.goto (-108), 3) := by decide +kernel
theorem dD_measure_161 : decode (Mc mD_measure) 161 = .ok (.iinc 5 1, 3) := by decide +kernel
theorem dD_measure_164 : decode (Mc mD_measure) 164 = .ok (.goto (-125), 3) := by decide +kernel
theorem dD_measure_167 : decode (Mc mD_measure) 167 = .ok (.return_, 1) := by decide +kernel
theorem dD_stockAt_0 : decode (Mc mD_stockAt) 0 = .ok (.iconst 0, 1) := by decide +kernel
theorem dD_stockAt_1 : decode (Mc mD_stockAt) 1 = .ok (.istore 4, 2) := by decide +kernel
theorem dD_stockAt_3 : decode (Mc mD_stockAt) 3 = .ok (.bipush 8, 2) := by decide +kernel
theorem dD_stockAt_5 : decode (Mc mD_stockAt) 5 = .ok (.iload_n 1, 1) := by decide +kernel
theorem dD_stockAt_6 : decode (Mc mD_stockAt) 6 = .ok (.imul, 1) := by decide +kernel
theorem dD_stockAt_7 : decode (Mc mD_stockAt) 7 = .ok (.istore 5, 2) := by decide +kernel
theorem dD_stockAt_9 : decode (Mc mD_stockAt) 9 = .ok (.iload 5, 2) := by decide +kernel
theorem dD_stockAt_11 : decode (Mc mD_stockAt) 11 = .ok (.bipush 8, 2) := by decide +kernel
theorem dD_stockAt_13 : decode (Mc mD_stockAt) 13 = .ok (.iload_n 1, 1) := by decide +kernel
theorem dD_stockAt_14 : decode (Mc mD_stockAt) 14 = .ok (.imul, 1) := by decide +kernel
theorem dD_stockAt_15 : decode (Mc mD_stockAt) 15 = .ok (.aload_n 0, 1) := by decide +kernel
theorem dD_stockAt_16 : decode (Mc mD_stockAt) 16 = .ok (.getfield 23, 3) := by decide +kernel
theorem dD_stockAt_19 : decode (Mc mD_stockAt) 19 = .ok (.iload_n 1, 1) := by decide +kernel
theorem dD_stockAt_20 : decode (Mc mD_stockAt) 20 = .ok (.iaload, 1) := by decide +kernel
theorem dD_stockAt_21 : decode (Mc mD_stockAt) 21 = .ok (.iadd, 1) := by decide +kernel
theorem dD_stockAt_22 : decode (Mc mD_stockAt) 22 = .ok (.if_icmp .ge 91, 3) := by decide +kernel
theorem dD_stockAt_25 : decode (Mc mD_stockAt) 25 = .ok (.iload_n 2, 1) := by decide +kernel
theorem dD_stockAt_26 : decode (Mc mD_stockAt) 26 = .ok (.invokestatic 89, 3) := by decide +kernel
theorem dD_stockAt_29 : decode (Mc mD_stockAt) 29 = .ok (.aload_n 0, 1) := by decide +kernel
theorem dD_stockAt_30 : decode (Mc mD_stockAt) 30 = .ok (.getfield 26, 3) := by decide +kernel
theorem dD_stockAt_33 : decode (Mc mD_stockAt) 33 = .ok (.iload 5, 2) := by decide +kernel
theorem dD_stockAt_35 : decode (Mc mD_stockAt) 35 = .ok (.iaload, 1) := by decide +kernel
theorem dD_stockAt_36 : decode (Mc mD_stockAt) 36 = .ok (.iadd, 1) := by decide +kernel
theorem dD_stockAt_37 : decode (Mc mD_stockAt) 37 = .ok (.istore 6, 2) := by decide +kernel
theorem dD_stockAt_39 : decode (Mc mD_stockAt) 39 = .ok (.iload_n 2, 1) := by decide +kernel
theorem dD_stockAt_40 : decode (Mc mD_stockAt) 40 = .ok (.invokestatic 93, 3) := by decide +kernel
theorem dD_stockAt_43 : decode (Mc mD_stockAt) 43 = .ok (.aload_n 0, 1) := by decide +kernel
theorem dD_stockAt_44 : decode (Mc mD_stockAt) 44 = .ok (.getfield 29, 3) := by decide +kernel
theorem dD_stockAt_47 : decode (Mc mD_stockAt) 47 = .ok (.iload 5, 2) := by decide +kernel
theorem dD_stockAt_49 : decode (Mc mD_stockAt) 49 = .ok (.iaload, 1) := by decide +kernel
theorem dD_stockAt_50 : decode (Mc mD_stockAt) 50 = .ok (.iadd, 1) := by decide +kernel
theorem dD_stockAt_51 : decode (Mc mD_stockAt) 51 = .ok (.istore 7, 2) := by decide +kernel
theorem dD_stockAt_53 : decode (Mc mD_stockAt) 53 = .ok (.iload 6, 2) := by decide +kernel
theorem dD_stockAt_55 : decode (Mc mD_stockAt) 55 = .ok (.iload 7, 2) := by decide +kernel
theorem dD_stockAt_57 : decode (Mc mD_stockAt) 57 = .ok (.invokestatic 104, 3) := by decide +kernel
theorem dD_stockAt_60 : decode (Mc mD_stockAt) 60 = .ok (.ifCond .eq 47, 3) := by decide +kernel
theorem dD_stockAt_63 : decode (Mc mD_stockAt) 63 = .ok (.aload_n 0, 1) := by decide +kernel
theorem dD_stockAt_64 : decode (Mc mD_stockAt) 64 = .ok (.getfield 57, 3) := by decide +kernel
theorem dD_stockAt_67 : decode (Mc mD_stockAt) 67 = .ok (.bipush 8, 2) := by decide +kernel
theorem dD_stockAt_69 : decode (Mc mD_stockAt) 69 = .ok (.iload 6, 2) := by decide +kernel
theorem dD_stockAt_71 : decode (Mc mD_stockAt) 71 = .ok (.imul, 1) := by decide +kernel
theorem dD_stockAt_72 : decode (Mc mD_stockAt) 72 = .ok (.iload 7, 2) := by decide +kernel
theorem dD_stockAt_74 : decode (Mc mD_stockAt) 74 = .ok (.iadd, 1) := by decide +kernel
theorem dD_stockAt_75 : decode (Mc mD_stockAt) 75 = .ok (.baload, 1) := by decide +kernel
theorem dD_stockAt_76 : decode (Mc mD_stockAt) 76 = .ok (.ifCond .eq 31, 3) := by decide +kernel
theorem dD_stockAt_79 : decode (Mc mD_stockAt) 79 = .ok (.iload 4, 2) := by decide +kernel
theorem dD_stockAt_81 : decode (Mc mD_stockAt) 81 = .ok (.iconst 1, 1) := by decide +kernel
theorem dD_stockAt_82 : decode (Mc mD_stockAt) 82 = .ok (.iadd, 1) := by decide +kernel
theorem dD_stockAt_83 : decode (Mc mD_stockAt) 83 = .ok (.istore 4, 2) := by decide +kernel
theorem dD_stockAt_85 : decode (Mc mD_stockAt) 85 = .ok (.aload_n 0, 1) := by decide +kernel
theorem dD_stockAt_86 : decode (Mc mD_stockAt) 86 = .ok (.getfield 57, 3) := by decide +kernel
theorem dD_stockAt_89 : decode (Mc mD_stockAt) 89 = .ok (.bipush 8, 2) := by decide +kernel
theorem dD_stockAt_91 : decode (Mc mD_stockAt) 91 = .ok (.iload 6, 2) := by decide +kernel
theorem dD_stockAt_93 : decode (Mc mD_stockAt) 93 = .ok (.imul, 1) := by decide +kernel
theorem dD_stockAt_94 : decode (Mc mD_stockAt) 94 = .ok (.iload 7, 2) := by decide +kernel
theorem dD_stockAt_96 : decode (Mc mD_stockAt) 96 = .ok (.iadd, 1) := by decide +kernel
theorem dD_stockAt_97 : decode (Mc mD_stockAt) 97 = .ok (.iload_n 3, 1) := by decide +kernel
theorem dD_stockAt_98 : decode (Mc mD_stockAt) 98 = .ok (.ifCond .ne 7, 3) := by decide +kernel
theorem dD_stockAt_101 : decode (Mc mD_stockAt) 101 = .ok (.iconst 1, 1) := by decide +kernel
theorem dD_stockAt_102 : decode (Mc mD_stockAt) 102 = .ok (.goto 4, 3) := by decide +kernel
theorem dD_stockAt_105 : decode (Mc mD_stockAt) 105 = .ok (.iconst 0, 1) := by decide +kernel
theorem dD_stockAt_106 : decode (Mc mD_stockAt) 106 = .ok (.bastore, 1) := by decide +kernel
theorem dD_stockAt_107 : decode (Mc mD_stockAt) 107 = .ok (.iinc 5 1, 3) := by decide +kernel
theorem dD_stockAt_110 : decode (Mc mD_stockAt) 110 = .ok (.goto (-101), 3) := by decide +kernel
theorem dD_stockAt_113 : decode (Mc mD_stockAt) 113 = .ok (.iload 4, 2) := by decide +kernel
theorem dD_stockAt_115 : decode (Mc mD_stockAt) 115 = .ok (.ireturn, 1) := by decide +kernel
