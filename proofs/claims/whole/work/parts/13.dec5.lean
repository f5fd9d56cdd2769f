theorem dD_target_0 : decode (Mc mD_target) 0 = .ok (.iconst (-1), 1) := by decide +kernel
theorem dD_target_1 : decode (Mc mD_target) 1 = .ok (.istore_n 2, 1) := by decide +kernel
theorem dD_target_2 : decode (Mc mD_target) 2 = .ok (.iconst 0, 1) := by decide +kernel
theorem dD_target_3 : decode (Mc mD_target) 3 = .ok (.istore_n 3, 1) := by decide +kernel
theorem dD_target_4 : decode (Mc mD_target) 4 = .ok (.iload_n 3, 1) := by decide +kernel
theorem dD_target_5 : decode (Mc mD_target) 5 = .ok (.sipush 320, 3) := by decide +kernel
theorem dD_target_8 : decode (Mc mD_target) 8 = .ok (.if_icmp .ge 76, 3) := by decide +kernel
theorem dD_target_11 : decode (Mc mD_target) 11 = .ok (.aload_n 0, 1) := by decide +kernel
theorem dD_target_12 : decode (Mc mD_target) 12 = .ok (.getfield 60, 3) := by decide +kernel
theorem dD_target_15 : decode (Mc mD_target) 15 = .ok (.iload_n 3, 1) := by decide +kernel
theorem dD_target_16 : decode (Mc mD_target) 16 = .ok (.baload, 1) := by decide +kernel
theorem dD_target_17 : decode (Mc mD_target) 17 = .ok (.ifCond .eq 28, 3) := by decide +kernel
theorem dD_target_20 : decode (Mc mD_target) 20 = .ok (.aload_n 0, 1) := by decide +kernel
theorem dD_target_21 : decode (Mc mD_target) 21 = .ok (.getfield 63, 3) := by decide +kernel
theorem dD_target_24 : decode (Mc mD_target) 24 = .ok (.iload_n 3, 1) := by decide +kernel
theorem dD_target_25 : decode (Mc mD_target) 25 = .ok (.iaload, 1) := by decide +kernel
theorem dD_target_26 : decode (Mc mD_target) 26 = .ok (.ldc 124, 2) := by decide +kernel
theorem dD_target_28 : decode (Mc mD_target) 28 = .ok (.if_icmp .ge 17, 3) := by decide +kernel
theorem dD_target_31 : decode (Mc mD_target) 31 = .ok (.aload_n 0, 1) := by decide +kernel
theorem dD_target_32 : decode (Mc mD_target) 32 = .ok (.iload_n 1, 1) := by decide +kernel
theorem dD_target_33 : decode (Mc mD_target) 33 = .ok (.iload_n 3, 1) := by decide +kernel
theorem dD_target_34 : decode (Mc mD_target) 34 = .ok (.iconst 0, 1) := by decide +kernel
theorem dD_target_35 : decode (Mc mD_target) 35 = .ok (.invokevirtual 125, 3) := by decide +kernel
theorem dD_target_38 : decode (Mc mD_target) 38 = .ok (.ifCond .le 7, 3) := by decide +kernel
theorem dD_target_41 : decode (Mc mD_target) 41 = .ok (.iconst 1, 1) := by decide +kernel
theorem dD_target_42 : decode (Mc mD_target) 42 = .ok (.goto 4, 3) := by decide +kernel
theorem dD_target_45 : decode (Mc mD_target) 45 = .ok (.iconst 0, 1) := by decide +kernel
theorem dD_target_46 : decode (Mc mD_target) 46 = .ok (.istore 4, 2) := by decide +kernel
theorem dD_target_48 : decode (Mc mD_target) 48 = .ok (.iload 4, 2) := by decide +kernel
theorem dD_target_50 : decode (Mc mD_target) 50 = .ok (.ifCond .eq 26, 3) := by decide +kernel
theorem dD_target_53 : decode (Mc mD_target) 53 = .ok (.iload_n 2, 1) := by decide +kernel
theorem dD_target_54 : decode (Mc mD_target) 54 = .ok (.ifCond .lt 18, 3) := by decide +kernel
theorem dD_target_57 : decode (Mc mD_target) 57 = .ok (.aload_n 0, 1) := by decide +kernel
theorem dD_target_58 : decode (Mc mD_target) 58 = .ok (.getfield 63, 3) := by decide +kernel
theorem dD_target_61 : decode (Mc mD_target) 61 = .ok (.iload_n 3, 1) := by decide +kernel
theorem dD_target_62 : decode (Mc mD_target) 62 = .ok (.iaload, 1) := by decide +kernel
theorem dD_target_63 : decode (Mc mD_target) 63 = .ok (.aload_n 0, 1) := by decide +kernel
theorem dD_target_64 : decode (Mc mD_target) 64 = .ok (.getfield 63, 3) := by decide +kernel
theorem dD_target_67 : decode (Mc mD_target) 67 = .ok (.iload_n 2, 1) := by decide +kernel
theorem dD_target_68 : decode (Mc mD_target) 68 = .ok (.iaload, 1) := by decide +kernel
theorem dD_target_69 : decode (Mc mD_target) 69 = .ok (.if_icmp .ge 7, 3) := by decide +kernel
theorem dD_target_72 : decode (Mc mD_target) 72 = .ok (.iload_n 3, 1) := by decide +kernel
theorem dD_target_73 : decode (Mc mD_target) 73 = .ok (.goto 4, 3) := by decide +kernel
theorem dD_target_76 : decode (Mc mD_target) 76 = .ok (.iload_n 2, 1) := by decide +kernel
theorem dD_target_77 : decode (Mc mD_target) 77 = .ok (.istore_n 2, 1) := by decide +kernel
theorem dD_target_78 : decode (Mc mD_target) 78 = .ok (.iinc 3 1, 3) := by decide +kernel
theorem dD_target_81 : decode (Mc mD_target) 81 = .ok (.goto (-77), 3) := by decide +kernel
theorem dD_target_84 : decode (Mc mD_target) 84 = .ok (.iload_n 2, 1) := by decide +kernel
theorem dD_target_85 : decode (Mc mD_target) 85 = .ok (.ireturn, 1) := by decide +kernel
theorem dD_go_0 : decode (Mc mD_go) 0 = .ok (.aload_n 0, 1) := by decide +kernel
theorem dD_go_1 : decode (Mc mD_go) 1 = .ok (.aload_n 0, 1) := by decide +kernel
theorem dD_go_2 : decode (Mc mD_go) 2 = .ok (.getfield 66, 3) := by decide +kernel
theorem dD_go_5 : decode (Mc mD_go) 5 = .ok (.iload_n 1, 1) := by decide +kernel
theorem dD_go_6 : decode (Mc mD_go) 6 = .ok (.iload_n 3, 1) := by decide +kernel
theorem dD_go_7 : decode (Mc mD_go) 7 = .ok (.invokevirtual 129, 3) := by decide +kernel
theorem dD_go_10 : decode (Mc mD_go) 10 = .ok (.iload_n 2, 1) := by decide +kernel
theorem dD_go_11 : decode (Mc mD_go) 11 = .ok (.istore 4, 2) := by decide +kernel
theorem dD_go_13 : decode (Mc mD_go) 13 = .ok (.iload 4, 2) := by decide +kernel
theorem dD_go_15 : decode (Mc mD_go) 15 = .ok (.iload_n 3, 1) := by decide +kernel
theorem dD_go_16 : decode (Mc mD_go) 16 = .ok (.if_icmp .eq 69, 3) := by decide +kernel
theorem dD_go_19 : decode (Mc mD_go) 19 = .ok (.iconst 0, 1) := by decide +kernel
theorem dD_go_20 : decode (Mc mD_go) 20 = .ok (.istore 5, 2) := by decide +kernel
theorem dD_go_22 : decode (Mc mD_go) 22 = .ok (.aload_n 0, 1) := by decide +kernel
theorem dD_go_23 : decode (Mc mD_go) 23 = .ok (.iload_n 1, 1) := by decide +kernel
theorem dD_go_24 : decode (Mc mD_go) 24 = .ok (.iload 4, 2) := by decide +kernel
theorem dD_go_26 : decode (Mc mD_go) 26 = .ok (.iload 5, 2) := by decide +kernel
theorem dD_go_28 : decode (Mc mD_go) 28 = .ok (.invokestatic 110, 3) := by decide +kernel
theorem dD_go_31 : decode (Mc mD_go) 31 = .ok (.iload_n 3, 1) := by decide +kernel
theorem dD_go_32 : decode (Mc mD_go) 32 = .ok (.aload_n 0, 1) := by decide +kernel
theorem dD_go_33 : decode (Mc mD_go) 33 = .ok (.getfield 66, 3) := by decide +kernel
theorem dD_go_36 : decode (Mc mD_go) 36 = .ok (.iload 4, 2) := by decide +kernel
theorem dD_go_38 : decode (Mc mD_go) 38 = .ok (.iaload, 1) := by decide +kernel
theorem dD_go_39 : decode (Mc mD_go) 39 = .ok (.iconst 1, 1) := by decide +kernel
theorem dD_go_40 : decode (Mc mD_go) 40 = .ok (.isub, 1) := by decide +kernel
theorem dD_go_41 : decode (Mc mD_go) 41 = .ok (.invokevirtual 133, 3) := by decide +kernel
theorem dD_go_44 : decode (Mc mD_go) 44 = .ok (.ifCond .ne 12, 3) := by decide +kernel
theorem dD_go_47 : decode (Mc mD_go) 47 = .ok (.iload 5, 2) := by decide +kernel
theorem dD_go_49 : decode (Mc mD_go) 49 = .ok (.iconst 1, 1) := by decide +kernel
theorem dD_go_50 : decode (Mc mD_go) 50 = .ok (.iadd, 1) := by decide +kernel
theorem dD_go_51 : decode (Mc mD_go) 51 = .ok (.istore 5, 2) := by decide +kernel
theorem dD_go_53 : decode (Mc mD_go) 53 = .ok (.goto (-31), 3) := by decide +kernel
theorem dD_go_56 : decode (Mc mD_go) 56 = .ok (.iload 4, 2) := by decide +kernel
theorem dD_go_58 : decode (Mc mD_go) 58 = .ok (.iload 5, 2) := by decide +kernel
theorem dD_go_60 : decode (Mc mD_go) 60 = .ok (.invokestatic 110, 3) := by decide +kernel
theorem dD_go_63 : decode (Mc mD_go) 63 = .ok (.istore 4, 2) := by decide +kernel
theorem dD_go_65 : decode (Mc mD_go) 65 = .ok (.aload_n 0, 1) := by decide +kernel
theorem dD_go_66 : decode (Mc mD_go) 66 = .ok (.iload 4, 2) := by decide +kernel
theorem dD_go_68 : decode (Mc mD_go) 68 = .ok (.iload_n 3, 1) := by decide +kernel
theorem dD_go_69 : decode (Mc mD_go) 69 = .ok (.if_icmp .ne 7, 3) := by decide +kernel
theorem dD_go_72 : decode (Mc mD_go) 72 = .ok (.iconst 1, 1) := by decide +kernel
theorem dD_go_73 : decode (Mc mD_go) 73 = .ok (.goto 4, 3) := by decide +kernel
theorem dD_go_76 : decode (Mc mD_go) 76 = .ok (.iconst 0, 1) := by decide +kernel
theorem dD_go_77 : decode (Mc mD_go) 77 = .ok (.iload 5, 2) := by decide +kernel
theorem dD_go_79 : decode (Mc mD_go) 79 = .ok (.invokevirtual 136, 3) := by decide +kernel
theorem dD_go_82 : decode (Mc mD_go) 82 = .ok (.goto (-69), 3) := by decide +kernel
theorem dD_go_85 : decode (Mc mD_go) 85 = .ok (.aload_n 0, 1) := by decide +kernel
theorem dD_go_86 : decode (Mc mD_go) 86 = .ok (.iload_n 1, 1) := by decide +kernel
theorem dD_go_87 : decode (Mc mD_go) 87 = .ok (.iload_n 3, 1) := by decide +kernel
theorem dD_go_88 : decode (Mc mD_go) 88 = .ok (.iconst 1, 1) := by decide +kernel
theorem dD_go_89 : decode (Mc mD_go) 89 = .ok (.invokevirtual 125, 3) := by decide +kernel
theorem dD_go_92 : decode (Mc mD_go) 92 = .ok (.pop, 1) := by decide +kernel
theorem dD_go_93 : decode (Mc mD_go) 93 = .ok (.return_, 1) := by decide +kernel
theorem dD_isOn_0 : decode (Mc mD_isOn) 0 = .ok (.iload_n 2, 1) := by decide +kernel
theorem dD_isOn_1 : decode (Mc mD_isOn) 1 = .ok (.ifCond .lt 42, 3) := by decide +kernel
theorem dD_isOn_4 : decode (Mc mD_isOn) 4 = .ok (.aload_n 0, 1) := by decide +kernel
theorem dD_isOn_5 : decode (Mc mD_isOn) 5 = .ok (.getfield 60, 3) := by decide +kernel
theorem dD_isOn_8 : decode (Mc mD_isOn) 8 = .ok (.iload_n 2, 1) := by decide +kernel
theorem dD_isOn_9 : decode (Mc mD_isOn) 9 = .ok (.baload, 1) := by decide +kernel
theorem dD_isOn_10 : decode (Mc mD_isOn) 10 = .ok (.ifCond .eq 33, 3) := by decide +kernel
theorem dD_isOn_13 : decode (Mc mD_isOn) 13 = .ok (.aload_n 0, 1) := by decide +kernel
theorem dD_isOn_14 : decode (Mc mD_isOn) 14 = .ok (.getfield 66, 3) := by decide +kernel
theorem dD_isOn_17 : decode (Mc mD_isOn) 17 = .ok (.iload_n 2, 1) := by decide +kernel
theorem dD_isOn_18 : decode (Mc mD_isOn) 18 = .ok (.iaload, 1) := by decide +kernel
theorem dD_isOn_19 : decode (Mc mD_isOn) 19 = .ok (.iload 4, 2) := by decide +kernel
theorem dD_isOn_21 : decode (Mc mD_isOn) 21 = .ok (.if_icmp .ne 22, 3) := by decide +kernel
theorem dD_isOn_24 : decode (Mc mD_isOn) 24 = .ok (.iload_n 2, 1) := by decide +kernel
theorem dD_isOn_25 : decode (Mc mD_isOn) 25 = .ok (.iload_n 3, 1) := by decide +kernel
theorem dD_isOn_26 : decode (Mc mD_isOn) 26 = .ok (.if_icmp .eq 13, 3) := by decide +kernel
theorem dD_isOn_29 : decode (Mc mD_isOn) 29 = .ok (.aload_n 0, 1) := by decide +kernel
theorem dD_isOn_30 : decode (Mc mD_isOn) 30 = .ok (.iload_n 1, 1) := by decide +kernel
theorem dD_isOn_31 : decode (Mc mD_isOn) 31 = .ok (.iload_n 2, 1) := by decide +kernel
theorem dD_isOn_32 : decode (Mc mD_isOn) 32 = .ok (.iconst 0, 1) := by decide +kernel
theorem dD_isOn_33 : decode (Mc mD_isOn) 33 = .ok (.invokevirtual 125, 3) := by decide +kernel
theorem dD_isOn_36 : decode (Mc mD_isOn) 36 = .ok (.ifCond .ne 7, 3) := by decide +kernel
theorem dD_isOn_39 : decode (Mc mD_isOn) 39 = .ok (.iconst 1, 1) := by decide +kernel
theorem dD_isOn_40 : decode (Mc mD_isOn) 40 = .ok (.goto 4, 3) := by decide +kernel
theorem dD_isOn_43 : decode (Mc mD_isOn) 43 = .ok (.iconst 0, 1) := by decide +kernel
theorem dD_isOn_44 : decode (Mc mD_isOn) 44 = .ok (.ireturn, 1) := by decide +kernel
theorem dD_copyBack_0 : decode (Mc mD_copyBack) 0 = .ok (.aload_n 0, 1) := by decide +kernel
theorem dD_copyBack_1 : decode (Mc mD_copyBack) 1 = .ok (.getfield 44, 3) := by decide +kernel
theorem dD_copyBack_4 : decode (Mc mD_copyBack) 4 = .ok (.iload_n 1, 1) := by decide +kernel
theorem dD_copyBack_5 : decode (Mc mD_copyBack) 5 = .ok (.aload_n 0, 1) := by decide +kernel
theorem dD_copyBack_6 : decode (Mc mD_copyBack) 6 = .ok (.getfield 35, 3) := by decide +kernel
theorem dD_copyBack_9 : decode (Mc mD_copyBack) 9 = .ok (.iload_n 1, 1) := by decide +kernel
theorem dD_copyBack_10 : decode (Mc mD_copyBack) 10 = .ok (.iaload, 1) := by decide +kernel
theorem dD_copyBack_11 : decode (Mc mD_copyBack) 11 = .ok (.iastore, 1) := by decide +kernel
theorem dD_copyBack_12 : decode (Mc mD_copyBack) 12 = .ok (.aload_n 0, 1) := by decide +kernel
theorem dD_copyBack_13 : decode (Mc mD_copyBack) 13 = .ok (.getfield 47, 3) := by decide +kernel
theorem dD_copyBack_16 : decode (Mc mD_copyBack) 16 = .ok (.iload_n 1, 1) := by decide +kernel
theorem dD_copyBack_17 : decode (Mc mD_copyBack) 17 = .ok (.aload_n 0, 1) := by decide +kernel
theorem dD_copyBack_18 : decode (Mc mD_copyBack) 18 = .ok (.getfield 38, 3) := by decide +kernel
theorem dD_copyBack_21 : decode (Mc mD_copyBack) 21 = .ok (.iload_n 1, 1) := by decide +kernel
theorem dD_copyBack_22 : decode (Mc mD_copyBack) 22 = .ok (.iaload, 1) := by decide +kernel
theorem dD_copyBack_23 : decode (Mc mD_copyBack) 23 = .ok (.iastore, 1) := by decide +kernel
theorem dD_copyBack_24 : decode (Mc mD_copyBack) 24 = .ok (.aload_n 0, 1) := by decide +kernel
theorem dD_copyBack_25 : decode (Mc mD_copyBack) 25 = .ok (.getfield 50, 3) := by decide +kernel
theorem dD_copyBack_28 : decode (Mc mD_copyBack) 28 = .ok (.iload_n 1, 1) := by decide +kernel
theorem dD_copyBack_29 : decode (Mc mD_copyBack) 29 = .ok (.aload_n 0, 1) := by decide +kernel
theorem dD_copyBack_30 : decode (Mc mD_copyBack) 30 = .ok (.getfield 41, 3) := by decide +kernel
theorem dD_copyBack_33 : decode (Mc mD_copyBack) 33 = .ok (.iload_n 1, 1) := by decide +kernel
theorem dD_copyBack_34 : decode (Mc mD_copyBack) 34 = .ok (.iaload, 1) := by decide +kernel
theorem dD_copyBack_35 : decode (Mc mD_copyBack) 35 = .ok (.iastore, 1) := by decide +kernel
theorem dD_copyBack_36 : decode (Mc mD_copyBack) 36 = .ok (.return_, 1) := by decide +kernel
theorem dD_move_0 : decode (Mc mD_move) 0 = .ok (.iload_n 1, 1) := by decide +kernel
theorem dD_move_1 : decode (Mc mD_move) 1 = .ok (.ifCond .lt 20, 3) := by decide +kernel
theorem dD_move_4 : decode (Mc mD_move) 4 = .ok (.iload_n 1, 1) := by decide +kernel
theorem dD_move_5 : decode (Mc mD_move) 5 = .ok (.aload_n 0, 1) := by decide +kernel
theorem dD_move_6 : decode (Mc mD_move) 6 = .ok (.getfield 76, 3) := by decide +kernel
theorem dD_move_9 : decode (Mc mD_move) 9 = .ok (.if_icmp .ge 12, 3) := by decide +kernel
theorem dD_move_12 : decode (Mc mD_move) 12 = .ok (.iload_n 2, 1) := by decide +kernel
theorem dD_move_13 : decode (Mc mD_move) 13 = .ok (.ifCond .lt 8, 3) := by decide +kernel
theorem dD_move_16 : decode (Mc mD_move) 16 = .ok (.iload_n 2, 1) := by decide +kernel
theorem dD_move_17 : decode (Mc mD_move) 17 = .ok (.iconst 2, 1) := by decide +kernel
theorem dD_move_18 : decode (Mc mD_move) 18 = .ok (.if_icmp .le 5, 3) := by decide +kernel
theorem dD_move_21 : decode (Mc mD_move) 21 = .ok (.iconst (-1), 1) := by decide +kernel
theorem dD_move_22 : decode (Mc mD_move) 22 = .ok (.ireturn, 1) := by decide +kernel
theorem dD_move_23 : decode (Mc mD_move) 23 = .ok (.iload_n 2, 1) := by decide +kernel
theorem dD_move_24 : decode (Mc mD_move) 24 = .ok (.ifCond .ne 12, 3) := by decide +kernel
theorem dD_move_27 : decode (Mc mD_move) 27 = .ok (.aload_n 0, 1) := by decide +kernel
theorem dD_move_28 : decode (Mc mD_move) 28 = .ok (.getfield 44, 3) := by decide +kernel
theorem dD_move_31 : decode (Mc mD_move) 31 = .ok (.iload_n 1, 1) := by decide +kernel
theorem dD_move_32 : decode (Mc mD_move) 32 = .ok (.iaload, 1) := by decide +kernel
theorem dD_move_33 : decode (Mc mD_move) 33 = .ok (.goto 23, 3) := by decide +kernel
theorem dD_move_36 : decode (Mc mD_move) 36 = .ok (.iload_n 2, 1) := by decide +kernel
theorem dD_move_37 : decode (Mc mD_move) 37 = .ok (.iconst 1, 1) := by decide +kernel
theorem dD_move_38 : decode (Mc mD_move) 38 = .ok (.if_icmp .ne 12, 3) := by decide +kernel
theorem dD_move_41 : decode (Mc mD_move) 41 = .ok (.aload_n 0, 1) := by decide +kernel
theorem dD_move_42 : decode (Mc mD_move) 42 = .ok (.getfield 47, 3) := by decide +kernel
theorem dD_move_45 : decode (Mc mD_move) 45 = .ok (.iload_n 1, 1) := by decide +kernel
theorem dD_move_46 : decode (Mc mD_move) 46 = .ok (.iaload, 1) := by decide +kernel
theorem dD_move_47 : decode (Mc mD_move) 47 = .ok (.goto 9, 3) := by decide +kernel
theorem dD_move_50 : decode (Mc mD_move) 50 = .ok (.aload_n 0, 1) := by decide +kernel
theorem dD_move_51 : decode (Mc mD_move) 51 = .ok (.getfield 50, 3) := by decide +kernel
theorem dD_move_54 : decode (Mc mD_move) 54 = .ok (.iload_n 1, 1) := by decide +kernel
theorem dD_move_55 : decode (Mc mD_move) 55 = .ok (.iaload, 1) := by decide +kernel
theorem dD_move_56 : decode (Mc mD_move) 56 = .ok (.ireturn, 1) := by decide +kernel
theorem dD_edit_0 : decode (Mc mD_edit) 0 = .ok (.iload_n 1, 1) := by decide +kernel
theorem dD_edit_1 : decode (Mc mD_edit) 1 = .ok (.ifCond .lt 24, 3) := by decide +kernel
theorem dD_edit_4 : decode (Mc mD_edit) 4 = .ok (.iload_n 1, 1) := by decide +kernel
theorem dD_edit_5 : decode (Mc mD_edit) 5 = .ok (.aload_n 0, 1) := by decide +kernel
theorem dD_edit_6 : decode (Mc mD_edit) 6 = .ok (.getfield 76, 3) := by decide +kernel
theorem dD_edit_9 : decode (Mc mD_edit) 9 = .ok (.if_icmp .ge 16, 3) := by decide +kernel
theorem dD_edit_12 : decode (Mc mD_edit) 12 = .ok (.iload_n 2, 1) := by decide +kernel
theorem dD_edit_13 : decode (Mc mD_edit) 13 = .ok (.ifCond .lt 12, 3) := by decide +kernel
theorem dD_edit_16 : decode (Mc mD_edit) 16 = .ok (.iload_n 2, 1) := by decide +kernel
theorem dD_edit_17 : decode (Mc mD_edit) 17 = .ok (.iconst 2, 1) := by decide +kernel
theorem dD_edit_18 : decode (Mc mD_edit) 18 = .ok (.if_icmp .gt 7, 3) := by decide +kernel
theorem dD_edit_21 : decode (Mc mD_edit) 21 = .ok (.iconst 1, 1) := by decide +kernel
theorem dD_edit_22 : decode (Mc mD_edit) 22 = .ok (.goto 4, 3) := by decide +kernel
theorem dD_edit_25 : decode (Mc mD_edit) 25 = .ok (.iconst 0, 1) := by decide +kernel
theorem dD_edit_26 : decode (Mc mD_edit) 26 = .ok (.istore 5, 2) := by decide +kernel
theorem dD_edit_28 : decode (Mc mD_edit) 28 = .ok (.iload 5, 2) := by decide +kernel
theorem dD_edit_30 : decode (Mc mD_edit) 30 = .ok (.ifCond .eq 34, 3) := by decide +kernel
theorem dD_edit_33 : decode (Mc mD_edit) 33 = .ok (.iload_n 2, 1) := by decide +kernel
theorem dD_edit_34 : decode (Mc mD_edit) 34 = .ok (.iconst 2, 1) := by decide +kernel
theorem dD_edit_35 : decode (Mc mD_edit) 35 = .ok (.if_icmp .eq 25, 3) := by decide +kernel
theorem dD_edit_38 : decode (Mc mD_edit) 38 = .ok (.iload_n 3, 1) := by decide +kernel
theorem dD_edit_39 : decode (Mc mD_edit) 39 = .ok (.ifCond .lt 25, 3) := by decide +kernel
theorem dD_edit_42 : decode (Mc mD_edit) 42 = .ok (.iload_n 3, 1) := by decide +kernel
theorem dD_edit_43 : decode (Mc mD_edit) 43 = .ok (.iconst 3, 1) := by decide +kernel
theorem dD_edit_44 : decode (Mc mD_edit) 44 = .ok (.if_icmp .gt 20, 3) := by decide +kernel
theorem dD_edit_47 : decode (Mc mD_edit) 47 = .ok (.iload 4, 2) := by decide +kernel
theorem dD_edit_49 : decode (Mc mD_edit) 49 = .ok (.iconst 1, 1) := by decide +kernel
theorem dD_edit_50 : decode (Mc mD_edit) 50 = .ok (.if_icmp .lt 14, 3) := by decide +kernel
theorem dD_edit_53 : decode (Mc mD_edit) 53 = .ok (.iload 4, 2) := by decide +kernel
theorem dD_edit_55 : decode (Mc mD_edit) 55 = .ok (.bipush 40, 2) := by decide +kernel
theorem dD_edit_57 : decode (Mc mD_edit) 57 = .ok (.if_icmp .gt 7, 3) := by decide +kernel
theorem dD_edit_60 : decode (Mc mD_edit) 60 = .ok (.iconst 1, 1) := by decide +kernel
theorem dD_edit_61 : decode (Mc mD_edit) 61 = .ok (.goto 4, 3) := by decide +kernel
theorem dD_edit_64 : decode (Mc mD_edit) 64 = .ok (.iconst 0, 1) := by decide +kernel
theorem dD_edit_65 : decode (Mc mD_edit) 65 = .ok (.istore 5, 2) := by decide +kernel
theorem dD_edit_67 : decode (Mc mD_edit) 67 = .ok (.iload 5, 2) := by decide +kernel
theorem dD_edit_69 : decode (Mc mD_edit) 69 = .ok (.ifCond .eq 43, 3) := by decide +kernel
theorem dD_edit_72 : decode (Mc mD_edit) 72 = .ok (.aload_n 0, 1) := by decide +kernel
theorem dD_edit_73 : decode (Mc mD_edit) 73 = .ok (.getfield 44, 3) := by decide +kernel
theorem dD_edit_76 : decode (Mc mD_edit) 76 = .ok (.iload_n 1, 1) := by decide +kernel
theorem dD_edit_77 : decode (Mc mD_edit) 77 = .ok (.iload_n 2, 1) := by decide +kernel
theorem dD_edit_78 : decode (Mc mD_edit) 78 = .ok (.iastore, 1) := by decide +kernel
theorem dD_edit_79 : decode (Mc mD_edit) 79 = .ok (.aload_n 0, 1) := by decide +kernel
theorem dD_edit_80 : decode (Mc mD_edit) 80 = .ok (.getfield 47, 3) := by decide +kernel
theorem dD_edit_83 : decode (Mc mD_edit) 83 = .ok (.iload_n 1, 1) := by decide +kernel
theorem dD_edit_84 : decode (Mc mD_edit) 84 = .ok (.iload_n 2, 1) := by decide +kernel
theorem dD_edit_85 : decode (Mc mD_edit) 85 = .ok (.iconst 2, 1) := by decide +kernel
theorem dD_edit_86 : decode (Mc mD_edit) 86 = .ok (.if_icmp .ne 7, 3) := by decide +kernel
theorem dD_edit_89 : decode (Mc mD_edit) 89 = .ok (.iconst 0, 1) := by decide +kernel
theorem dD_edit_90 : decode (Mc mD_edit) 90 = .ok (.goto 4, 3) := by decide +kernel
theorem dD_edit_93 : decode (Mc mD_edit) 93 = .ok (.iload_n 3, 1) := by decide +kernel
theorem dD_edit_94 : decode (Mc mD_edit) 94 = .ok (.iastore, 1) := by decide +kernel
theorem dD_edit_95 : decode (Mc mD_edit) 95 = .ok (.aload_n 0, 1) := by decide +kernel
theorem dD_edit_96 : decode (Mc mD_edit) 96 = .ok (.getfield 50, 3) := by decide +kernel
theorem dD_edit_99 : decode (Mc mD_edit) 99 = .ok (.iload_n 1, 1) := by decide +kernel
theorem dD_edit_100 : decode (Mc mD_edit) 100 = .ok (.iload_n 2, 1) := by decide +kernel
theorem dD_edit_101 : decode (Mc mD_edit) 101 = .ok (.iconst 2, 1) := by decide +kernel
theorem dD_edit_102 : decode (Mc mD_edit) 102 = .ok (.if_icmp .ne 7, 3) := by decide +kernel
theorem dD_edit_105 : decode (Mc mD_edit) 105 = .ok (.iconst 0, 1) := by decide +kernel
theorem dD_edit_106 : decode (Mc mD_edit) 106 = .ok (.goto 5, 3) := by decide +kernel
theorem dD_edit_109 : decode (Mc mD_edit) 109 = .ok (.iload 4, 2) := by decide +kernel
theorem dD_edit_111 : decode (Mc mD_edit) 111 = .ok (.iastore, 1) := by decide +kernel
theorem dD_edit_112 : decode (Mc mD_edit) 112 = .ok (.iload 5, 2) := by decide +kernel
theorem dD_edit_114 : decode (Mc mD_edit) 114 = .ok (.ireturn, 1) := by decide +kernel
theorem dD_undo_0 : decode (Mc mD_undo) 0 = .ok (.iconst 0, 1) := by decide +kernel
theorem dD_undo_1 : decode (Mc mD_undo) 1 = .ok (.istore_n 1, 1) := by decide +kernel
theorem dD_undo_2 : decode (Mc mD_undo) 2 = .ok (.iconst 0, 1) := by decide +kernel
theorem dD_undo_3 : decode (Mc mD_undo) 3 = .ok (.istore_n 2, 1) := by decide +kernel
theorem dD_undo_4 : decode (Mc mD_undo) 4 = .ok (.iload_n 2, 1) := by decide +kernel
theorem dD_undo_5 : decode (Mc mD_undo) 5 = .ok (.aload_n 0, 1) := by decide +kernel
theorem dD_undo_6 : decode (Mc mD_undo) 6 = .ok (.getfield 76, 3) := by decide +kernel
theorem dD_undo_9 : decode (Mc mD_undo) 9 = .ok (.if_icmp .ge 77, 3) := by decide +kernel
theorem dD_undo_12 : decode (Mc mD_undo) 12 = .ok (.aload_n 0, 1) := by decide +kernel
theorem dD_undo_13 : decode (Mc mD_undo) 13 = .ok (.getfield 44, 3) := by decide +kernel
theorem dD_undo_16 : decode (Mc mD_undo) 16 = .ok (.iload_n 2, 1) := by decide +kernel
theorem dD_undo_17 : decode (Mc mD_undo) 17 = .ok (.iaload, 1) := by decide +kernel
theorem dD_undo_18 : decode (Mc mD_undo) 18 = .ok (.aload_n 0, 1) := by decide +kernel
theorem dD_undo_19 : decode (Mc mD_undo) 19 = .ok (.getfield 35, 3) := by decide +kernel
theorem dD_undo_22 : decode (Mc mD_undo) 22 = .ok (.iload_n 2, 1) := by decide +kernel
theorem dD_undo_23 : decode (Mc mD_undo) 23 = .ok (.iaload, 1) := by decide +kernel
theorem dD_undo_24 : decode (Mc mD_undo) 24 = .ok (.if_icmp .ne 37, 3) := by decide +kernel
theorem dD_undo_27 : decode (Mc mD_undo) 27 = .ok (.aload_n 0, 1) := by decide +kernel
theorem dD_undo_28 : decode (Mc mD_undo) 28 = .ok (.getfield 47, 3) := by decide +kernel
theorem dD_undo_31 : decode (Mc mD_undo) 31 = .ok (.iload_n 2, 1) := by decide +kernel
theorem dD_undo_32 : decode (Mc mD_undo) 32 = .ok (.iaload, 1) := by decide +kernel
theorem dD_undo_33 : decode (Mc mD_undo) 33 = .ok (.aload_n 0, 1) := by decide +kernel
theorem dD_undo_34 : decode (Mc mD_undo) 34 = .ok (.getfield 38, 3) := by decide +kernel
theorem dD_undo_37 : decode (Mc mD_undo) 37 = .ok (.iload_n 2, 1) := by decide +kernel
theorem dD_undo_38 : decode (Mc mD_undo) 38 = .ok (.iaload, 1) := by decide +kernel
theorem dD_undo_39 : decode (Mc mD_undo) 39 = .ok (.if_icmp .ne 22, 3) := by decide +kernel
theorem dD_undo_42 : decode (Mc mD_undo) 42 = .ok (.aload_n 0, 1) := by decide +kernel
theorem dD_undo_43 : decode (Mc mD_undo) 43 = .ok (.getfield 50, 3) := by decide +kernel
theorem dD_undo_46 : decode (Mc mD_undo) 46 = .ok (.iload_n 2, 1) := by decide +kernel
theorem dD_undo_47 : decode (Mc mD_undo) 47 = .ok (.iaload, 1) := by decide +kernel
theorem dD_undo_48 : decode (Mc mD_undo) 48 = .ok (.aload_n 0, 1) := by decide +kernel
theorem dD_undo_49 : decode (Mc mD_undo) 49 = .ok (.getfield 41, 3) := by decide +kernel
theorem dD_undo_52 : decode (Mc mD_undo) 52 = .ok (.iload_n 2, 1) := by decide +kernel
theorem dD_undo_53 : decode (Mc mD_undo) 53 = .ok (.iaload, 1) := by decide +kernel
theorem dD_undo_54 : decode (Mc mD_undo) 54 = .ok (.if_icmp .ne 7, 3) := by decide +kernel
theorem dD_undo_57 : decode (Mc mD_undo) 57 = .ok (.iconst 1, 1) := by decide +kernel
theorem dD_undo_58 : decode (Mc mD_undo) 58 = .ok (.goto 4, 3) := by decide +kernel
theorem dD_undo_61 : decode (Mc mD_undo) 61 = .ok (.iconst 0, 1) := by decide +kernel
theorem dD_undo_62 : decode (Mc mD_undo) 62 = .ok (.istore_n 3, 1) := by decide +kernel
theorem dD_undo_63 : decode (Mc mD_undo) 63 = .ok (.iload_n 3, 1) := by decide +kernel
theorem dD_undo_64 : decode (Mc mD_undo) 64 = .ok (.ifCond .eq 7, 3) := by decide +kernel
theorem dD_undo_67 : decode (Mc mD_undo) 67 = .ok (.iload_n 1, 1) := by decide +kernel
theorem dD_undo_68 : decode (Mc mD_undo) 68 = .ok (.goto 6, 3) := by decide +kernel
theorem dD_undo_71 : decode (Mc mD_undo) 71 = .ok (.iload_n 1, 1) := by decide +kernel
theorem dD_undo_72 : decode (Mc mD_undo) 72 = .ok (.iconst 1, 1) := by decide +kernel
theorem dD_undo_73 : decode (Mc mD_undo) 73 = .ok (.iadd, 1) := by decide +kernel
theorem dD_undo_74 : decode (Mc mD_undo) 74 = .ok (.istore_n 1, 1) := by decide +kernel
theorem dD_undo_75 : decode (Mc mD_undo) 75 = .ok (.aload_n 0, 1) := by decide +kernel
theorem dD_undo_76 : decode (Mc mD_undo) 76 = .ok (.iload_n 2, 1) := by decide +kernel
theorem dD_undo_77 : decode (Mc mD_undo) 77 = .ok (.invokevirtual 157, 3) := by decide +kernel
theorem dD_undo_80 : decode (Mc mD_undo) 80 = .ok (.iinc 2 1, 3) := by decide +kernel
theorem dD_undo_83 : decode (Mc mD_undo) 83 = .ok (.goto (-79), 3) := by decide +kernel
theorem dD_undo_86 : decode (Mc mD_undo) 86 = .ok (.iload_n 1, 1) := by decide +kernel
theorem dD_undo_87 : decode (Mc mD_undo) 87 = .ok (.ireturn, 1) := by decide +kernel
theorem dD_simulate_0 : decode (Mc mD_simulate) 0 = .ok (.iload_n 1, 1) := by decide +kernel
theorem dD_simulate_1 : decode (Mc mD_simulate) 1 = .ok (.ifCond .lt 10, 3) := by decide +kernel
theorem dD_simulate_4 : decode (Mc mD_simulate) 4 = .ok (.aload_n 0, 1) := by decide +kernel
theorem dD_simulate_5 : decode (Mc mD_simulate) 5 = .ok (.getfield 69, 3) := by decide +kernel
theorem dD_simulate_8 : decode (Mc mD_simulate) 8 = .ok (.ifCond .ne 5, 3) := by decide +kernel
theorem dD_simulate_11 : decode (Mc mD_simulate) 11 = .ok (.iconst (-1), 1) := by decide +kernel
theorem dD_simulate_12 : decode (Mc mD_simulate) 12 = .ok (.ireturn, 1) := by decide +kernel
theorem dD_simulate_13 : decode (Mc mD_simulate) 13 = .ok (.aload_n 0, 1) := by decide +kernel
theorem dD_simulate_14 : decode (Mc mD_simulate) 14 = .ok (.iload_n 1, 1) := by decide +kernel
theorem dD_simulate_15 : decode (Mc mD_simulate) 15 = .ok (.invokevirtual 178, 3) := by decide +kernel
theorem dD_simulate_18 : decode (Mc mD_simulate) 18 = .ok (.pop, 1) := by decide +kernel
theorem dD_simulate_19 : decode (Mc mD_simulate) 19 = .ok (.aload_n 0, 1) := by decide +kernel
theorem dD_simulate_20 : decode (Mc mD_simulate) 20 = .ok (.iconst 1, 1) := by decide +kernel
theorem dD_simulate_21 : decode (Mc mD_simulate) 21 = .ok (.putfield 73, 3) := by decide +kernel
theorem dD_simulate_24 : decode (Mc mD_simulate) 24 = .ok (.iconst 0, 1) := by decide +kernel
theorem dD_simulate_25 : decode (Mc mD_simulate) 25 = .ok (.istore_n 2, 1) := by decide +kernel
theorem dD_simulate_26 : decode (Mc mD_simulate) 26 = .ok (.iload_n 2, 1) := by decide +kernel
theorem dD_simulate_27 : decode (Mc mD_simulate) 27 = .ok (.bipush 96, 2) := by decide +kernel
theorem dD_simulate_29 : decode (Mc mD_simulate) 29 = .ok (.if_icmp .ge 21, 3) := by decide +kernel
theorem dD_simulate_32 : decode (Mc mD_simulate) 32 = .ok (.aload_n 0, 1) := by decide +kernel
theorem dD_simulate_33 : decode (Mc mD_simulate) 33 = .ok (.getfield 53, 3) := by decide +kernel
theorem dD_simulate_36 : decode (Mc mD_simulate) 36 = .ok (.iload_n 2, 1) := by decide +kernel
theorem dD_simulate_37 : decode (Mc mD_simulate) 37 = .ok (.aload_n 0, 1) := by decide +kernel
theorem dD_simulate_38 : decode (Mc mD_simulate) 38 = .ok (.getfield 57, 3) := by decide +kernel
theorem dD_simulate_41 : decode (Mc mD_simulate) 41 = .ok (.iload_n 2, 1) := by decide +kernel
theorem dD_simulate_42 : decode (Mc mD_simulate) 42 = .ok (.baload, 1) := by decide +kernel
theorem dD_simulate_43 : decode (Mc mD_simulate) 43 = .ok (.bastore, 1) := by decide +kernel
theorem dD_simulate_44 : decode (Mc mD_simulate) 44 = .ok (.iinc 2 1, 3) := by decide +kernel
theorem dD_simulate_47 : decode (Mc mD_simulate) 47 = .ok (.goto (-21), 3) := by decide +kernel
theorem dD_simulate_50 : decode (Mc mD_simulate) 50 = .ok (.aload_n 0, 1) := by decide +kernel
theorem dD_simulate_51 : decode (Mc mD_simulate) 51 = .ok (.getfield 166, 3) := by decide +kernel
theorem dD_simulate_54 : decode (Mc mD_simulate) 54 = .ok (.ireturn, 1) := by decide +kernel
theorem dD_through_0 : decode (Mc mD_through) 0 = .ok (.aload_n 0, 1) := by decide +kernel
theorem dD_through_1 : decode (Mc mD_through) 1 = .ok (.invokevirtual 144, 3) := by decide +kernel
theorem dD_through_4 : decode (Mc mD_through) 4 = .ok (.aload_n 0, 1) := by decide +kernel
theorem dD_through_5 : decode (Mc mD_through) 5 = .ok (.iconst (-1), 1) := by decide +kernel
theorem dD_through_6 : decode (Mc mD_through) 6 = .ok (.putfield 160, 3) := by decide +kernel
theorem dD_through_9 : decode (Mc mD_through) 9 = .ok (.aload_n 0, 1) := by decide +kernel
theorem dD_through_10 : decode (Mc mD_through) 10 = .ok (.iconst 0, 1) := by decide +kernel
theorem dD_through_11 : decode (Mc mD_through) 11 = .ok (.putfield 169, 3) := by decide +kernel
theorem dD_through_14 : decode (Mc mD_through) 14 = .ok (.aload_n 0, 1) := by decide +kernel
theorem dD_through_15 : decode (Mc mD_through) 15 = .ok (.iconst 0, 1) := by decide +kernel
theorem dD_through_16 : decode (Mc mD_through) 16 = .ok (.putfield 166, 3) := by decide +kernel
theorem dD_through_19 : decode (Mc mD_through) 19 = .ok (.iconst 0, 1) := by decide +kernel
theorem dD_through_20 : decode (Mc mD_through) 20 = .ok (.istore_n 2, 1) := by decide +kernel
theorem dD_through_21 : decode (Mc mD_through) 21 = .ok (.iload_n 2, 1) := by decide +kernel
theorem dD_through_22 : decode (Mc mD_through) 22 = .ok (.aload_n 0, 1) := by decide +kernel
theorem dD_through_23 : decode (Mc mD_through) 23 = .ok (.getfield 76, 3) := by decide +kernel
theorem dD_through_26 : decode (Mc mD_through) 26 = .ok (.if_icmp .ge 31, 3) := by decide +kernel
theorem dD_through_29 : decode (Mc mD_through) 29 = .ok (.iload_n 2, 1) := by decide +kernel
theorem dD_through_30 : decode (Mc mD_through) 30 = .ok (.iload_n 1, 1) := by decide +kernel
theorem dD_through_31 : decode (Mc mD_through) 31 = .ok (.if_icmp .ge 26, 3) := by decide +kernel
theorem dD_through_34 : decode (Mc mD_through) 34 = .ok (.aload_n 0, 1) := by decide +kernel
theorem dD_through_35 : decode (Mc mD_through) 35 = .ok (.iload_n 2, 1) := by decide +kernel
theorem dD_through_36 : decode (Mc mD_through) 36 = .ok (.invokevirtual 175, 3) := by decide +kernel
theorem dD_through_39 : decode (Mc mD_through) 39 = .ok (.istore_n 3, 1) := by decide +kernel
theorem dD_through_40 : decode (Mc mD_through) 40 = .ok (.iload_n 3, 1) := by decide +kernel
theorem dD_through_41 : decode (Mc mD_through) 41 = .ok (.ifCond .le 10, 3) := by decide +kernel
theorem dD_through_44 : decode (Mc mD_through) 44 = .ok (.bipush 10, 2) := by decide +kernel
theorem dD_through_46 : decode (Mc mD_through) 46 = .ok (.iload_n 2, 1) := by decide +kernel
theorem dD_through_47 : decode (Mc mD_through) 47 = .ok (.imul, 1) := by decide +kernel
theorem dD_through_48 : decode (Mc mD_through) 48 = .ok (.iload_n 3, 1) := by decide +kernel
theorem dD_through_49 : decode (Mc mD_through) 49 = .ok (.iadd, 1) := by decide +kernel
theorem dD_through_50 : decode (Mc mD_through) 50 = .ok (.ireturn, 1) := by decide +kernel
theorem dD_through_51 : decode (Mc mD_through) 51 = .ok (.iinc 2 1, 3) := by decide +kernel
theorem dD_through_54 : decode (Mc mD_through) 54 = .ok (.goto (-33), 3) := by decide +kernel
theorem dD_through_57 : decode (Mc mD_through) 57 = .ok (.iconst (-1), 1) := by decide +kernel
theorem dD_through_58 : decode (Mc mD_through) 58 = .ok (.ireturn, 1) := by decide +kernel
theorem dD_pass_0 : decode (Mc mD_pass) 0 = .ok (.aload_n 0, 1) := by decide +kernel
theorem dD_pass_1 : decode (Mc mD_pass) 1 = .ok (.getfield 44, 3) := by decide +kernel
theorem dD_pass_4 : decode (Mc mD_pass) 4 = .ok (.iload_n 1, 1) := by decide +kernel
theorem dD_pass_5 : decode (Mc mD_pass) 5 = .ok (.iaload, 1) := by decide +kernel
theorem dD_pass_6 : decode (Mc mD_pass) 6 = .ok (.iconst 2, 1) := by decide +kernel
theorem dD_pass_7 : decode (Mc mD_pass) 7 = .ok (.if_icmp .ne 52, 3) := by decide +kernel
theorem dD_pass_10 : decode (Mc mD_pass) 10 = .ok (.aload_n 0, 1) := by decide +kernel
theorem dD_pass_11 : decode (Mc mD_pass) 11 = .ok (.getfield 169, 3) := by decide +kernel
theorem dD_pass_14 : decode (Mc mD_pass) 14 = .ok (.aload_n 0, 1) := by decide +kernel
theorem dD_pass_15 : decode (Mc mD_pass) 15 = .ok (.getfield 86, 3) := by decide +kernel
theorem dD_pass_18 : decode (Mc mD_pass) 18 = .ok (.if_icmp .ne 5, 3) := by decide +kernel
theorem dD_pass_21 : decode (Mc mD_pass) 21 = .ok (.iconst 4, 1) := by decide +kernel
theorem dD_pass_22 : decode (Mc mD_pass) 22 = .ok (.ireturn, 1) := by decide +kernel
theorem dD_pass_23 : decode (Mc mD_pass) 23 = .ok (.aload_n 0, 1) := by decide +kernel
theorem dD_pass_24 : decode (Mc mD_pass) 24 = .ok (.aload_n 0, 1) := by decide +kernel
theorem dD_pass_25 : decode (Mc mD_pass) 25 = .ok (.getfield 32, 3) := by decide +kernel
theorem dD_pass_28 : decode (Mc mD_pass) 28 = .ok (.aload_n 0, 1) := by decide +kernel
theorem dD_pass_29 : decode (Mc mD_pass) 29 = .ok (.getfield 169, 3) := by decide +kernel
theorem dD_pass_32 : decode (Mc mD_pass) 32 = .ok (.iaload, 1) := by decide +kernel
theorem dD_pass_33 : decode (Mc mD_pass) 33 = .ok (.putfield 160, 3) := by decide +kernel
theorem dD_pass_36 : decode (Mc mD_pass) 36 = .ok (.aload_n 0, 1) := by decide +kernel
theorem dD_pass_37 : decode (Mc mD_pass) 37 = .ok (.aload_n 0, 1) := by decide +kernel
theorem dD_pass_38 : decode (Mc mD_pass) 38 = .ok (.getfield 169, 3) := by decide +kernel
theorem dD_pass_41 : decode (Mc mD_pass) 41 = .ok (.iconst 1, 1) := by decide +kernel
theorem dD_pass_42 : decode (Mc mD_pass) 42 = .ok (.iadd, 1) := by decide +kernel
theorem dD_pass_43 : decode (Mc mD_pass) 43 = .ok (.putfield 169, 3) := by decide +kernel
theorem dD_pass_46 : decode (Mc mD_pass) 46 = .ok (.aload_n 0, 1) := by decide +kernel
theorem dD_pass_47 : decode (Mc mD_pass) 47 = .ok (.bipush (-4), 2) := by decide +kernel
theorem dD_pass_49 : decode (Mc mD_pass) 49 = .ok (.bipush 15, 2) := by decide +kernel
theorem dD_pass_51 : decode (Mc mD_pass) 51 = .ok (.invokestatic 100, 3) := by decide +kernel
theorem dD_pass_54 : decode (Mc mD_pass) 54 = .ok (.putfield 163, 3) := by decide +kernel
theorem dD_pass_57 : decode (Mc mD_pass) 57 = .ok (.iconst 0, 1) := by decide +kernel
theorem dD_pass_58 : decode (Mc mD_pass) 58 = .ok (.ireturn, 1) := by decide +kernel
theorem dD_pass_59 : decode (Mc mD_pass) 59 = .ok (.iconst 0, 1) := by decide +kernel
theorem dD_pass_60 : decode (Mc mD_pass) 60 = .ok (.istore_n 2, 1) := by decide +kernel
theorem dD_pass_61 : decode (Mc mD_pass) 61 = .ok (.iconst 0, 1) := by decide +kernel
theorem dD_pass_62 : decode (Mc mD_pass) 62 = .ok (.istore_n 3, 1) := by decide +kernel
theorem dD_pass_63 : decode (Mc mD_pass) 63 = .ok (.iload_n 3, 1) := by decide +kernel
theorem dD_pass_64 : decode (Mc mD_pass) 64 = .ok (.aload_n 0, 1) := by decide +kernel
theorem dD_pass_65 : decode (Mc mD_pass) 65 = .ok (.getfield 50, 3) := by decide +kernel
theorem dD_pass_68 : decode (Mc mD_pass) 68 = .ok (.iload_n 1, 1) := by decide +kernel
theorem dD_pass_69 : decode (Mc mD_pass) 69 = .ok (.iaload, 1) := by decide +kernel
theorem dD_pass_70 : decode (Mc mD_pass) 70 = .ok (.if_icmp .ge 30, 3) := by decide +kernel
theorem dD_pass_73 : decode (Mc mD_pass) 73 = .ok (.iload_n 2, 1) := by decide +kernel
theorem dD_pass_74 : decode (Mc mD_pass) 74 = .ok (.ifCond .ne 26, 3) := by decide +kernel
theorem dD_pass_77 : decode (Mc mD_pass) 77 = .ok (.aload_n 0, 1) := by decide +kernel
theorem dD_pass_78 : decode (Mc mD_pass) 78 = .ok (.aload_n 0, 1) := by decide +kernel
theorem dD_pass_79 : decode (Mc mD_pass) 79 = .ok (.getfield 44, 3) := by decide +kernel
theorem dD_pass_82 : decode (Mc mD_pass) 82 = .ok (.iload_n 1, 1) := by decide +kernel
theorem dD_pass_83 : decode (Mc mD_pass) 83 = .ok (.iaload, 1) := by decide +kernel
theorem dD_pass_84 : decode (Mc mD_pass) 84 = .ok (.aload_n 0, 1) := by decide +kernel
theorem dD_pass_85 : decode (Mc mD_pass) 85 = .ok (.getfield 47, 3) := by decide +kernel
theorem dD_pass_88 : decode (Mc mD_pass) 88 = .ok (.iload_n 1, 1) := by decide +kernel
theorem dD_pass_89 : decode (Mc mD_pass) 89 = .ok (.iaload, 1) := by decide +kernel
theorem dD_pass_90 : decode (Mc mD_pass) 90 = .ok (.invokevirtual 172, 3) := by decide +kernel
theorem dD_pass_93 : decode (Mc mD_pass) 93 = .ok (.istore_n 2, 1) := by decide +kernel
theorem dD_pass_94 : decode (Mc mD_pass) 94 = .ok (.iinc 3 1, 3) := by decide +kernel
theorem dD_pass_97 : decode (Mc mD_pass) 97 = .ok (.goto (-34), 3) := by decide +kernel
theorem dD_pass_100 : decode (Mc mD_pass) 100 = .ok (.iload_n 2, 1) := by decide +kernel
theorem dD_pass_101 : decode (Mc mD_pass) 101 = .ok (.ireturn, 1) := by decide +kernel
theorem dD_step_0 : decode (Mc mD_step) 0 = .ok (.aload_n 0, 1) := by decide +kernel
theorem dD_step_1 : decode (Mc mD_step) 1 = .ok (.getfield 160, 3) := by decide +kernel
theorem dD_step_4 : decode (Mc mD_step) 4 = .ok (.ifCond .ge 5, 3) := by decide +kernel
theorem dD_step_7 : decode (Mc mD_step) 7 = .ok (.iconst 3, 1) := by decide +kernel
theorem dD_step_8 : decode (Mc mD_step) 8 = .ok (.ireturn, 1) := by decide +kernel
theorem dD_step_9 : decode (Mc mD_step) 9 = .ok (.aload_n 0, 1) := by decide +kernel
theorem dD_step_10 : decode (Mc mD_step) 10 = .ok (.getfield 163, 3) := by decide +kernel
theorem dD_step_13 : decode (Mc mD_step) 13 = .ok (.iload_n 2, 1) := by decide +kernel
theorem dD_step_14 : decode (Mc mD_step) 14 = .ok (.invokestatic 110, 3) := by decide +kernel
theorem dD_step_17 : decode (Mc mD_step) 17 = .ok (.istore_n 3, 1) := by decide +kernel
theorem dD_step_18 : decode (Mc mD_step) 18 = .ok (.iload_n 3, 1) := by decide +kernel
theorem dD_step_19 : decode (Mc mD_step) 19 = .ok (.ifCond .lt 15, 3) := by decide +kernel
theorem dD_step_22 : decode (Mc mD_step) 22 = .ok (.aload_n 0, 1) := by decide +kernel
theorem dD_step_23 : decode (Mc mD_step) 23 = .ok (.aload_n 0, 1) := by decide +kernel
theorem dD_step_24 : decode (Mc mD_step) 24 = .ok (.getfield 160, 3) := by decide +kernel
theorem dD_step_27 : decode (Mc mD_step) 27 = .ok (.iload_n 3, 1) := by decide +kernel
theorem dD_step_28 : decode (Mc mD_step) 28 = .ok (.invokevirtual 113, 3) := by decide +kernel
theorem dD_step_31 : decode (Mc mD_step) 31 = .ok (.ifCond .ne 5, 3) := by decide +kernel
theorem dD_step_34 : decode (Mc mD_step) 34 = .ok (.iconst 1, 1) := by decide +kernel
theorem dD_step_35 : decode (Mc mD_step) 35 = .ok (.ireturn, 1) := by decide +kernel
theorem dD_step_36 : decode (Mc mD_step) 36 = .ok (.iload_n 1, 1) := by decide +kernel
theorem dD_step_37 : decode (Mc mD_step) 37 = .ok (.ifCond .ne 18, 3) := by decide +kernel
theorem dD_step_40 : decode (Mc mD_step) 40 = .ok (.aload_n 0, 1) := by decide +kernel
theorem dD_step_41 : decode (Mc mD_step) 41 = .ok (.aload_n 0, 1) := by decide +kernel
theorem dD_step_42 : decode (Mc mD_step) 42 = .ok (.getfield 160, 3) := by decide +kernel
theorem dD_step_45 : decode (Mc mD_step) 45 = .ok (.iload_n 3, 1) := by decide +kernel
theorem dD_step_46 : decode (Mc mD_step) 46 = .ok (.iconst 0, 1) := by decide +kernel
theorem dD_step_47 : decode (Mc mD_step) 47 = .ok (.invokevirtual 125, 3) := by decide +kernel
theorem dD_step_50 : decode (Mc mD_step) 50 = .ok (.ifCond .le 5, 3) := by decide +kernel
theorem dD_step_53 : decode (Mc mD_step) 53 = .ok (.iconst 2, 1) := by decide +kernel
theorem dD_step_54 : decode (Mc mD_step) 54 = .ok (.ireturn, 1) := by decide +kernel
theorem dD_step_55 : decode (Mc mD_step) 55 = .ok (.aload_n 0, 1) := by decide +kernel
theorem dD_step_56 : decode (Mc mD_step) 56 = .ok (.iload_n 3, 1) := by decide +kernel
theorem dD_step_57 : decode (Mc mD_step) 57 = .ok (.putfield 163, 3) := by decide +kernel
theorem dD_step_60 : decode (Mc mD_step) 60 = .ok (.aload_n 0, 1) := by decide +kernel
theorem dD_step_61 : decode (Mc mD_step) 61 = .ok (.iload_n 1, 1) := by decide +kernel
theorem dD_step_62 : decode (Mc mD_step) 62 = .ok (.iconst 1, 1) := by decide +kernel
theorem dD_step_63 : decode (Mc mD_step) 63 = .ok (.if_icmp .ne 21, 3) := by decide +kernel
theorem dD_step_66 : decode (Mc mD_step) 66 = .ok (.aload_n 0, 1) := by decide +kernel
theorem dD_step_67 : decode (Mc mD_step) 67 = .ok (.getfield 166, 3) := by decide +kernel
theorem dD_step_70 : decode (Mc mD_step) 70 = .ok (.aload_n 0, 1) := by decide +kernel
theorem dD_step_71 : decode (Mc mD_step) 71 = .ok (.aload_n 0, 1) := by decide +kernel
theorem dD_step_72 : decode (Mc mD_step) 72 = .ok (.getfield 160, 3) := by decide +kernel
theorem dD_step_75 : decode (Mc mD_step) 75 = .ok (.iload_n 3, 1) := by decide +kernel
theorem dD_step_76 : decode (Mc mD_step) 76 = .ok (.iconst 1, 1) := by decide +kernel
theorem dD_step_77 : decode (Mc mD_step) 77 = .ok (.invokevirtual 125, 3) := by decide +kernel
theorem dD_step_80 : decode (Mc mD_step) 80 = .ok (.iadd, 1) := by decide +kernel
theorem dD_step_81 : decode (Mc mD_step) 81 = .ok (.goto 7, 3) := by decide +kernel
theorem dD_step_84 : decode (Mc mD_step) 84 = .ok (.aload_n 0, 1) := by decide +kernel
theorem dD_step_85 : decode (Mc mD_step) 85 = .ok (.getfield 166, 3) := by decide +kernel
theorem dD_step_88 : decode (Mc mD_step) 88 = .ok (.putfield 166, 3) := by decide +kernel
theorem dD_step_91 : decode (Mc mD_step) 91 = .ok (.iconst 0, 1) := by decide +kernel
theorem dD_step_92 : decode (Mc mD_step) 92 = .ok (.ireturn, 1) := by decide +kernel
theorem dD_stock_0 : decode (Mc mD_stock) 0 = .ok (.iload_n 1, 1) := by decide +kernel
theorem dD_stock_1 : decode (Mc mD_stock) 1 = .ok (.iload_n 2, 1) := by decide +kernel
theorem dD_stock_2 : decode (Mc mD_stock) 2 = .ok (.invokestatic 104, 3) := by decide +kernel
theorem dD_stock_5 : decode (Mc mD_stock) 5 = .ok (.ifCond .eq 40, 3) := by decide +kernel
theorem dD_stock_8 : decode (Mc mD_stock) 8 = .ok (.aload_n 0, 1) := by decide +kernel
theorem dD_stock_9 : decode (Mc mD_stock) 9 = .ok (.getfield 73, 3) := by decide +kernel
theorem dD_stock_12 : decode (Mc mD_stock) 12 = .ok (.ifCond .eq 20, 3) := by decide +kernel
theorem dD_stock_15 : decode (Mc mD_stock) 15 = .ok (.aload_n 0, 1) := by decide +kernel
theorem dD_stock_16 : decode (Mc mD_stock) 16 = .ok (.getfield 53, 3) := by decide +kernel
theorem dD_stock_19 : decode (Mc mD_stock) 19 = .ok (.bipush 8, 2) := by decide +kernel
theorem dD_stock_21 : decode (Mc mD_stock) 21 = .ok (.iload_n 1, 1) := by decide +kernel
theorem dD_stock_22 : decode (Mc mD_stock) 22 = .ok (.imul, 1) := by decide +kernel
theorem dD_stock_23 : decode (Mc mD_stock) 23 = .ok (.iload_n 2, 1) := by decide +kernel
theorem dD_stock_24 : decode (Mc mD_stock) 24 = .ok (.iadd, 1) := by decide +kernel
theorem dD_stock_25 : decode (Mc mD_stock) 25 = .ok (.baload, 1) := by decide +kernel
theorem dD_stock_26 : decode (Mc mD_stock) 26 = .ok (.ifCond .eq 19, 3) := by decide +kernel
theorem dD_stock_29 : decode (Mc mD_stock) 29 = .ok (.goto 12, 3) := by decide +kernel
theorem dD_stock_32 : decode (Mc mD_stock) 32 = .ok (.aload_n 0, 1) := by decide +kernel
theorem dD_stock_33 : decode (Mc mD_stock) 33 = .ok (.iload_n 1, 1) := by decide +kernel
theorem dD_stock_34 : decode (Mc mD_stock) 34 = .ok (.iload_n 2, 1) := by decide +kernel
theorem dD_stock_35 : decode (Mc mD_stock) 35 = .ok (.invokevirtual 107, 3) := by decide +kernel
theorem dD_stock_38 : decode (Mc mD_stock) 38 = .ok (.ifCond .eq 7, 3) := by decide +kernel
theorem dD_stock_41 : decode (Mc mD_stock) 41 = .ok (.iconst 1, 1) := by decide +kernel
theorem dD_stock_42 : decode (Mc mD_stock) 42 = .ok (.goto 4, 3) := by decide +kernel
theorem dD_stock_45 : decode (Mc mD_stock) 45 = .ok (.iconst 0, 1) := by decide +kernel
theorem dD_stock_46 : decode (Mc mD_stock) 46 = .ok (.ireturn, 1) := by decide +kernel
theorem dD_fault_0 : decode (Mc mD_fault) 0 = .ok (.aload_n 0, 1) := by decide +kernel
theorem dD_fault_1 : decode (Mc mD_fault) 1 = .ok (.getfield 69, 3) := by decide +kernel
theorem dD_fault_4 : decode (Mc mD_fault) 4 = .ok (.ifCond .eq 13, 3) := by decide +kernel
theorem dD_fault_7 : decode (Mc mD_fault) 7 = .ok (.aload_n 0, 1) := by decide +kernel
theorem dD_fault_8 : decode (Mc mD_fault) 8 = .ok (.sipush 2000, 3) := by decide +kernel
theorem dD_fault_11 : decode (Mc mD_fault) 11 = .ok (.invokevirtual 178, 3) := by decide +kernel
theorem dD_fault_14 : decode (Mc mD_fault) 14 = .ok (.goto 4, 3) := by decide +kernel
theorem dD_fault_17 : decode (Mc mD_fault) 17 = .ok (.iconst (-1), 1) := by decide +kernel
theorem dD_fault_18 : decode (Mc mD_fault) 18 = .ok (.ireturn, 1) := by decide +kernel
theorem dD_left_0 : decode (Mc mD_left) 0 = .ok (.aload_n 0, 1) := by decide +kernel
theorem dD_left_1 : decode (Mc mD_left) 1 = .ok (.getfield 69, 3) := by decide +kernel
theorem dD_left_4 : decode (Mc mD_left) 4 = .ok (.ifCond .eq 10, 3) := by decide +kernel
theorem dD_left_7 : decode (Mc mD_left) 7 = .ok (.aload_n 0, 1) := by decide +kernel
theorem dD_left_8 : decode (Mc mD_left) 8 = .ok (.getfield 154, 3) := by decide +kernel
theorem dD_left_11 : decode (Mc mD_left) 11 = .ok (.goto 4, 3) := by decide +kernel
theorem dD_left_14 : decode (Mc mD_left) 14 = .ok (.iconst (-1), 1) := by decide +kernel
theorem dD_left_15 : decode (Mc mD_left) 15 = .ok (.ireturn, 1) := by decide +kernel
theorem dD_steps_0 : decode (Mc mD_steps) 0 = .ok (.iconst 0, 1) := by decide +kernel
theorem dD_steps_1 : decode (Mc mD_steps) 1 = .ok (.istore_n 2, 1) := by decide +kernel
theorem dD_steps_2 : decode (Mc mD_steps) 2 = .ok (.iconst 0, 1) := by decide +kernel
theorem dD_steps_3 : decode (Mc mD_steps) 3 = .ok (.istore_n 3, 1) := by decide +kernel
theorem dD_steps_4 : decode (Mc mD_steps) 4 = .ok (.iload_n 3, 1) := by decide +kernel
theorem dD_steps_5 : decode (Mc mD_steps) 5 = .ok (.aload_n 0, 1) := by decide +kernel
theorem dD_steps_6 : decode (Mc mD_steps) 6 = .ok (.getfield 76, 3) := by decide +kernel
theorem dD_steps_9 : decode (Mc mD_steps) 9 = .ok (.if_icmp .ge 37, 3) := by decide +kernel
theorem dD_steps_12 : decode (Mc mD_steps) 12 = .ok (.aload_n 0, 1) := by decide +kernel
theorem dD_steps_13 : decode (Mc mD_steps) 13 = .ok (.getfield 44, 3) := by decide +kernel
theorem dD_steps_16 : decode (Mc mD_steps) 16 = .ok (.iload_n 3, 1) := by decide +kernel
theorem dD_steps_17 : decode (Mc mD_steps) 17 = .ok (.iaload, 1) := by decide +kernel
theorem dD_steps_18 : decode (Mc mD_steps) 18 = .ok (.iload_n 1, 1) := by decide +kernel
theorem dD_steps_19 : decode (Mc mD_steps) 19 = .ok (.if_icmp .ne 19, 3) := by decide +kernel
theorem dD_steps_22 : decode (Mc mD_steps) 22 = .ok (.iload_n 1, 1) := by decide +kernel
theorem dD_steps_23 : decode (Mc mD_steps) 23 = .ok (.iconst 2, 1) := by decide +kernel
theorem dD_steps_24 : decode (Mc mD_steps) 24 = .ok (.if_icmp .ge 14, 3) := by decide +kernel
theorem dD_steps_27 : decode (Mc mD_steps) 27 = .ok (.iload_n 2, 1) := by decide +kernel
theorem dD_steps_28 : decode (Mc mD_steps) 28 = .ok (.aload_n 0, 1) := by decide +kernel
theorem dD_steps_29 : decode (Mc mD_steps) 29 = .ok (.getfield 50, 3) := by decide +kernel
theorem dD_steps_32 : decode (Mc mD_steps) 32 = .ok (.iload_n 3, 1) := by decide +kernel
theorem dD_steps_33 : decode (Mc mD_steps) 33 = .ok (.iaload, 1) := by decide +kernel
theorem dD_steps_34 : decode (Mc mD_steps) 34 = .ok (.iadd, 1) := by decide +kernel
theorem dD_steps_35 : decode (Mc mD_steps) 35 = .ok (.goto 4, 3) := by decide +kernel
theorem dD_steps_38 : decode (Mc mD_steps) 38 = .ok (.iload_n 2, 1) := by decide +kernel
theorem dD_steps_39 : decode (Mc mD_steps) 39 = .ok (.istore_n 2, 1) := by decide +kernel
theorem dD_steps_40 : decode (Mc mD_steps) 40 = .ok (.iinc 3 1, 3) := by decide +kernel
theorem dD_steps_43 : decode (Mc mD_steps) 43 = .ok (.goto (-39), 3) := by decide +kernel
theorem dD_steps_46 : decode (Mc mD_steps) 46 = .ok (.iload_n 2, 1) := by decide +kernel
theorem dD_steps_47 : decode (Mc mD_steps) 47 = .ok (.ireturn, 1) := by decide +kernel
theorem dL_law_0 : decode (Mc mL_law) 0 = .ok (.new 7, 3) := by decide +kernel
theorem dL_law_3 : decode (Mc mL_law) 3 = .ok (.dup, 1) := by decide +kernel
theorem dL_law_4 : decode (Mc mL_law) 4 = .ok (.invokespecial 9, 3) := by decide +kernel
theorem dL_law_7 : decode (Mc mL_law) 7 = .ok (.astore_n 1, 1) := by decide +kernel
theorem dL_law_8 : decode (Mc mL_law) 8 = .ok (.new 10, 3) := by decide +kernel
theorem dL_law_11 : decode (Mc mL_law) 11 = .ok (.dup, 1) := by decide +kernel
theorem dL_law_12 : decode (Mc mL_law) 12 = .ok (.invokespecial 12, 3) := by decide +kernel
theorem dL_law_15 : decode (Mc mL_law) 15 = .ok (.astore_n 2, 1) := by decide +kernel
theorem dL_law_16 : decode (Mc mL_law) 16 = .ok (.iconst 0, 1) := by decide +kernel
theorem dL_law_17 : decode (Mc mL_law) 17 = .ok (.istore_n 3, 1) := by decide +kernel
theorem dL_law_18 : decode (Mc mL_law) 18 = .ok (.iload_n 3, 1) := by decide +kernel
theorem dL_law_19 : decode (Mc mL_law) 19 = .ok (.aload_n 0, 1) := by decide +kernel
theorem dL_law_20 : decode (Mc mL_law) 20 = .ok (.arraylength, 1) := by decide +kernel
theorem dL_law_21 : decode (Mc mL_law) 21 = .ok (.iconst 5, 1) := by decide +kernel
theorem dL_law_22 : decode (Mc mL_law) 22 = .ok (.isub, 1) := by decide +kernel
theorem dL_law_23 : decode (Mc mL_law) 23 = .ok (.if_icmp .gt 590, 3) := by decide +kernel
theorem dL_law_26 : decode (Mc mL_law) 26 = .ok (.aload_n 0, 1) := by decide +kernel
theorem dL_law_27 : decode (Mc mL_law) 27 = .ok (.iload_n 3, 1) := by decide +kernel
theorem dL_law_28 : decode (Mc mL_law) 28 = .ok (.iaload, 1) := by decide +kernel
theorem dL_law_29 : decode (Mc mL_law) 29 = .ok (.bipush 31, 2) := by decide +kernel
theorem dL_law_31 : decode (Mc mL_law) 31 = .ok (.iand, 1) := by decide +kernel
theorem dL_law_32 : decode (Mc mL_law) 32 = .ok (.tableswitch 575 0 16 #[84, 127, 160, 203, 226, 249, 262, 315, 358, 371, 404, 457, 470, 493, 526, 539, 552], 84) := by decide +kernel
theorem dL_law_116 : decode (Mc mL_law) 116 = .ok (.aload_n 1, 1) := by decide +kernel
theorem dL_law_117 : decode (Mc mL_law) 117 = .ok (.aload_n 0, 1) := by decide +kernel
theorem dL_law_118 : decode (Mc mL_law) 118 = .ok (.iload_n 3, 1) := by decide +kernel
theorem dL_law_119 : decode (Mc mL_law) 119 = .ok (.iconst 1, 1) := by decide +kernel
theorem dL_law_120 : decode (Mc mL_law) 120 = .ok (.iadd, 1) := by decide +kernel
theorem dL_law_121 : decode (Mc mL_law) 121 = .ok (.iaload, 1) := by decide +kernel
theorem dL_law_122 : decode (Mc mL_law) 122 = .ok (.aload_n 0, 1) := by decide +kernel
theorem dL_law_123 : decode (Mc mL_law) 123 = .ok (.iload_n 3, 1) := by decide +kernel
theorem dL_law_124 : decode (Mc mL_law) 124 = .ok (.iconst 2, 1) := by decide +kernel
theorem dL_law_125 : decode (Mc mL_law) 125 = .ok (.iadd, 1) := by decide +kernel
theorem dL_law_126 : decode (Mc mL_law) 126 = .ok (.iaload, 1) := by decide +kernel
theorem dL_law_127 : decode (Mc mL_law) 127 = .ok (.aload_n 0, 1) := by decide +kernel
theorem dL_law_128 : decode (Mc mL_law) 128 = .ok (.iload_n 3, 1) := by decide +kernel
theorem dL_law_129 : decode (Mc mL_law) 129 = .ok (.iconst 3, 1) := by decide +kernel
theorem dL_law_130 : decode (Mc mL_law) 130 = .ok (.iadd, 1) := by decide +kernel
theorem dL_law_131 : decode (Mc mL_law) 131 = .ok (.iaload, 1) := by decide +kernel
theorem dL_law_132 : decode (Mc mL_law) 132 = .ok (.invokevirtual 13, 3) := by decide +kernel
theorem dL_law_135 : decode (Mc mL_law) 135 = .ok (.aload_n 2, 1) := by decide +kernel
theorem dL_law_136 : decode (Mc mL_law) 136 = .ok (.aload_n 0, 1) := by decide +kernel
theorem dL_law_137 : decode (Mc mL_law) 137 = .ok (.iload_n 3, 1) := by decide +kernel
theorem dL_law_138 : decode (Mc mL_law) 138 = .ok (.iconst 1, 1) := by decide +kernel
theorem dL_law_139 : decode (Mc mL_law) 139 = .ok (.iadd, 1) := by decide +kernel
theorem dL_law_140 : decode (Mc mL_law) 140 = .ok (.iaload, 1) := by decide +kernel
theorem dL_law_141 : decode (Mc mL_law) 141 = .ok (.aload_n 0, 1) := by decide +kernel
theorem dL_law_142 : decode (Mc mL_law) 142 = .ok (.iload_n 3, 1) := by decide +kernel
theorem dL_law_143 : decode (Mc mL_law) 143 = .ok (.iconst 2, 1) := by decide +kernel
theorem dL_law_144 : decode (Mc mL_law) 144 = .ok (.iadd, 1) := by decide +kernel
theorem dL_law_145 : decode (Mc mL_law) 145 = .ok (.iaload, 1) := by decide +kernel
theorem dL_law_146 : decode (Mc mL_law) 146 = .ok (.aload_n 0, 1) := by decide +kernel
theorem dL_law_147 : decode (Mc mL_law) 147 = .ok (.iload_n 3, 1) := by decide +kernel
theorem dL_law_148 : decode (Mc mL_law) 148 = .ok (.iconst 3, 1) := by decide +kernel
theorem dL_law_149 : decode (Mc mL_law) 149 = .ok (.iadd, 1) := by decide +kernel
theorem dL_law_150 : decode (Mc mL_law) 150 = .ok (.iaload, 1) := by decide +kernel
theorem dL_law_151 : decode (Mc mL_law) 151 = .ok (.invokevirtual 17, 3) := by decide +kernel
theorem dL_law_154 : decode (Mc mL_law) 154 = .ok (.if_icmp .eq 453, 3) := by decide +kernel
theorem dL_law_157 : decode (Mc mL_law) 157 = .ok (.iconst 0, 1) := by decide +kernel
theorem dL_law_158 : decode (Mc mL_law) 158 = .ok (.ireturn, 1) := by decide +kernel
theorem dL_law_159 : decode (Mc mL_law) 159 = .ok (.aload_n 1, 1) := by decide +kernel
theorem dL_law_160 : decode (Mc mL_law) 160 = .ok (.aload_n 0, 1) := by decide +kernel
theorem dL_law_161 : decode (Mc mL_law) 161 = .ok (.iload_n 3, 1) := by decide +kernel
theorem dL_law_162 : decode (Mc mL_law) 162 = .ok (.iconst 1, 1) := by decide +kernel
theorem dL_law_163 : decode (Mc mL_law) 163 = .ok (.iadd, 1) := by decide +kernel
theorem dL_law_164 : decode (Mc mL_law) 164 = .ok (.iaload, 1) := by decide +kernel
theorem dL_law_165 : decode (Mc mL_law) 165 = .ok (.aload_n 0, 1) := by decide +kernel
theorem dL_law_166 : decode (Mc mL_law) 166 = .ok (.iload_n 3, 1) := by decide +kernel
theorem dL_law_167 : decode (Mc mL_law) 167 = .ok (.iconst 2, 1) := by decide +kernel
theorem dL_law_168 : decode (Mc mL_law) 168 = .ok (.iadd, 1) := by decide +kernel
theorem dL_law_169 : decode (Mc mL_law) 169 = .ok (.iaload, 1) := by decide +kernel
theorem dL_law_170 : decode (Mc mL_law) 170 = .ok (.invokevirtual 18, 3) := by decide +kernel
theorem dL_law_173 : decode (Mc mL_law) 173 = .ok (.aload_n 2, 1) := by decide +kernel
theorem dL_law_174 : decode (Mc mL_law) 174 = .ok (.aload_n 0, 1) := by decide +kernel
theorem dL_law_175 : decode (Mc mL_law) 175 = .ok (.iload_n 3, 1) := by decide +kernel
theorem dL_law_176 : decode (Mc mL_law) 176 = .ok (.iconst 1, 1) := by decide +kernel
theorem dL_law_177 : decode (Mc mL_law) 177 = .ok (.iadd, 1) := by decide +kernel
theorem dL_law_178 : decode (Mc mL_law) 178 = .ok (.iaload, 1) := by decide +kernel
theorem dL_law_179 : decode (Mc mL_law) 179 = .ok (.aload_n 0, 1) := by decide +kernel
theorem dL_law_180 : decode (Mc mL_law) 180 = .ok (.iload_n 3, 1) := by decide +kernel
theorem dL_law_181 : decode (Mc mL_law) 181 = .ok (.iconst 2, 1) := by decide +kernel
theorem dL_law_182 : decode (Mc mL_law) 182 = .ok (.iadd, 1) := by decide +kernel
theorem dL_law_183 : decode (Mc mL_law) 183 = .ok (.iaload, 1) := by decide +kernel
theorem dL_law_184 : decode (Mc mL_law) 184 = .ok (.invokevirtual 22, 3) := by decide +kernel
theorem dL_law_187 : decode (Mc mL_law) 187 = .ok (.if_icmp .eq 420, 3) := by decide +kernel
theorem dL_law_190 : decode (Mc mL_law) 190 = .ok (.iconst 0, 1) := by decide +kernel
theorem dL_law_191 : decode (Mc mL_law) 191 = .ok (.ireturn, 1) := by decide +kernel
theorem dL_law_192 : decode (Mc mL_law) 192 = .ok (.aload_n 1, 1) := by decide +kernel
theorem dL_law_193 : decode (Mc mL_law) 193 = .ok (.aload_n 0, 1) := by decide +kernel
theorem dL_law_194 : decode (Mc mL_law) 194 = .ok (.iload_n 3, 1) := by decide +kernel
theorem dL_law_195 : decode (Mc mL_law) 195 = .ok (.iconst 1, 1) := by decide +kernel
theorem dL_law_196 : decode (Mc mL_law) 196 = .ok (.iadd, 1) := by decide +kernel
theorem dL_law_197 : decode (Mc mL_law) 197 = .ok (.iaload, 1) := by decide +kernel
theorem dL_law_198 : decode (Mc mL_law) 198 = .ok (.aload_n 0, 1) := by decide +kernel
theorem dL_law_199 : decode (Mc mL_law) 199 = .ok (.iload_n 3, 1) := by decide +kernel
theorem dL_law_200 : decode (Mc mL_law) 200 = .ok (.iconst 2, 1) := by decide +kernel
theorem dL_law_201 : decode (Mc mL_law) 201 = .ok (.iadd, 1) := by decide +kernel
theorem dL_law_202 : decode (Mc mL_law) 202 = .ok (.iaload, 1) := by decide +kernel
theorem dL_law_203 : decode (Mc mL_law) 203 = .ok (.aload_n 0, 1) := by decide +kernel
theorem dL_law_204 : decode (Mc mL_law) 204 = .ok (.iload_n 3, 1) := by decide +kernel
theorem dL_law_205 : decode (Mc mL_law) 205 = .ok (.iconst 3, 1) := by decide +kernel
theorem dL_law_206 : decode (Mc mL_law) 206 = .ok (.iadd, 1) := by decide +kernel
theorem dL_law_207 : decode (Mc mL_law) 207 = .ok (.iaload, 1) := by decide +kernel
theorem dL_law_208 : decode (Mc mL_law) 208 = .ok (.invokevirtual 23, 3) := by decide +kernel
theorem dL_law_211 : decode (Mc mL_law) 211 = .ok (.aload_n 2, 1) := by decide +kernel
theorem dL_law_212 : decode (Mc mL_law) 212 = .ok (.aload_n 0, 1) := by decide +kernel
theorem dL_law_213 : decode (Mc mL_law) 213 = .ok (.iload_n 3, 1) := by decide +kernel
theorem dL_law_214 : decode (Mc mL_law) 214 = .ok (.iconst 1, 1) := by decide +kernel
theorem dL_law_215 : decode (Mc mL_law) 215 = .ok (.iadd, 1) := by decide +kernel
theorem dL_law_216 : decode (Mc mL_law) 216 = .ok (.iaload, 1) := by decide +kernel
theorem dL_law_217 : decode (Mc mL_law) 217 = .ok (.aload_n 0, 1) := by decide +kernel
theorem dL_law_218 : decode (Mc mL_law) 218 = .ok (.iload_n 3, 1) := by decide +kernel
theorem dL_law_219 : decode (Mc mL_law) 219 = .ok (.iconst 2, 1) := by decide +kernel
theorem dL_law_220 : decode (Mc mL_law) 220 = .ok (.iadd, 1) := by decide +kernel
theorem dL_law_221 : decode (Mc mL_law) 221 = .ok (.iaload, 1) := by decide +kernel
theorem dL_law_222 : decode (Mc mL_law) 222 = .ok (.aload_n 0, 1) := by decide +kernel
theorem dL_law_223 : decode (Mc mL_law) 223 = .ok (.iload_n 3, 1) := by decide +kernel
theorem dL_law_224 : decode (Mc mL_law) 224 = .ok (.iconst 3, 1) := by decide +kernel
theorem dL_law_225 : decode (Mc mL_law) 225 = .ok (.iadd, 1) := by decide +kernel
theorem dL_law_226 : decode (Mc mL_law) 226 = .ok (.iaload, 1) := by decide +kernel
theorem dL_law_227 : decode (Mc mL_law) 227 = .ok (.invokevirtual 26, 3) := by decide +kernel
theorem dL_law_230 : decode (Mc mL_law) 230 = .ok (.if_icmp .eq 377, 3) := by decide +kernel
theorem dL_law_233 : decode (Mc mL_law) 233 = .ok (.iconst 0, 1) := by decide +kernel
theorem dL_law_234 : decode (Mc mL_law) 234 = .ok (.ireturn, 1) := by decide +kernel
theorem dL_law_235 : decode (Mc mL_law) 235 = .ok (.aload_n 1, 1) := by decide +kernel
theorem dL_law_236 : decode (Mc mL_law) 236 = .ok (.aload_n 0, 1) := by decide +kernel
theorem dL_law_237 : decode (Mc mL_law) 237 = .ok (.iload_n 3, 1) := by decide +kernel
theorem dL_law_238 : decode (Mc mL_law) 238 = .ok (.iconst 1, 1) := by decide +kernel
theorem dL_law_239 : decode (Mc mL_law) 239 = .ok (.iadd, 1) := by decide +kernel
theorem dL_law_240 : decode (Mc mL_law) 240 = .ok (.iaload, 1) := by decide +kernel
theorem dL_law_241 : decode (Mc mL_law) 241 = .ok (.invokevirtual 27, 3) := by decide +kernel
theorem dL_law_244 : decode (Mc mL_law) 244 = .ok (.aload_n 2, 1) := by decide +kernel
theorem dL_law_245 : decode (Mc mL_law) 245 = .ok (.aload_n 0, 1) := by decide +kernel
theorem dL_law_246 : decode (Mc mL_law) 246 = .ok (.iload_n 3, 1) := by decide +kernel
theorem dL_law_247 : decode (Mc mL_law) 247 = .ok (.iconst 1, 1) := by decide +kernel
theorem dL_law_248 : decode (Mc mL_law) 248 = .ok (.iadd, 1) := by decide +kernel
theorem dL_law_249 : decode (Mc mL_law) 249 = .ok (.iaload, 1) := by decide +kernel
theorem dL_law_250 : decode (Mc mL_law) 250 = .ok (.invokevirtual 31, 3) := by decide +kernel
theorem dL_law_253 : decode (Mc mL_law) 253 = .ok (.if_icmp .eq 354, 3) := by decide +kernel
theorem dL_law_256 : decode (Mc mL_law) 256 = .ok (.iconst 0, 1) := by decide +kernel
theorem dL_law_257 : decode (Mc mL_law) 257 = .ok (.ireturn, 1) := by decide +kernel
theorem dL_law_258 : decode (Mc mL_law) 258 = .ok (.aload_n 1, 1) := by decide +kernel
theorem dL_law_259 : decode (Mc mL_law) 259 = .ok (.aload_n 0, 1) := by decide +kernel
theorem dL_law_260 : decode (Mc mL_law) 260 = .ok (.iload_n 3, 1) := by decide +kernel
theorem dL_law_261 : decode (Mc mL_law) 261 = .ok (.iconst 1, 1) := by decide +kernel
theorem dL_law_262 : decode (Mc mL_law) 262 = .ok (.iadd, 1) := by decide +kernel
theorem dL_law_263 : decode (Mc mL_law) 263 = .ok (.iaload, 1) := by decide +kernel
theorem dL_law_264 : decode (Mc mL_law) 264 = .ok (.invokevirtual 32, 3) := by decide +kernel
theorem dL_law_267 : decode (Mc mL_law) 267 = .ok (.aload_n 2, 1) := by decide +kernel
theorem dL_law_268 : decode (Mc mL_law) 268 = .ok (.aload_n 0, 1) := by decide +kernel
theorem dL_law_269 : decode (Mc mL_law) 269 = .ok (.iload_n 3, 1) := by decide +kernel
theorem dL_law_270 : decode (Mc mL_law) 270 = .ok (.iconst 1, 1) := by decide +kernel
theorem dL_law_271 : decode (Mc mL_law) 271 = .ok (.iadd, 1) := by decide +kernel
theorem dL_law_272 : decode (Mc mL_law) 272 = .ok (.iaload, 1) := by decide +kernel
theorem dL_law_273 : decode (Mc mL_law) 273 = .ok (.invokevirtual 35, 3) := by decide +kernel
theorem dL_law_276 : decode (Mc mL_law) 276 = .ok (.if_icmp .eq 331, 3) := by decide +kernel
theorem dL_law_279 : decode (Mc mL_law) 279 = .ok (.iconst 0, 1) := by decide +kernel
theorem dL_law_280 : decode (Mc mL_law) 280 = .ok (.ireturn, 1) := by decide +kernel
theorem dL_law_281 : decode (Mc mL_law) 281 = .ok (.aload_n 1, 1) := by decide +kernel
theorem dL_law_282 : decode (Mc mL_law) 282 = .ok (.invokevirtual 36, 3) := by decide +kernel
theorem dL_law_285 : decode (Mc mL_law) 285 = .ok (.aload_n 2, 1) := by decide +kernel
theorem dL_law_286 : decode (Mc mL_law) 286 = .ok (.invokevirtual 40, 3) := by decide +kernel
theorem dL_law_289 : decode (Mc mL_law) 289 = .ok (.if_icmp .eq 318, 3) := by decide +kernel
theorem dL_law_292 : decode (Mc mL_law) 292 = .ok (.iconst 0, 1) := by decide +kernel
theorem dL_law_293 : decode (Mc mL_law) 293 = .ok (.ireturn, 1) := by decide +kernel
theorem dL_law_294 : decode (Mc mL_law) 294 = .ok (.aload_n 1, 1) := by decide +kernel
theorem dL_law_295 : decode (Mc mL_law) 295 = .ok (.aload_n 0, 1) := by decide +kernel
theorem dL_law_296 : decode (Mc mL_law) 296 = .ok (.iload_n 3, 1) := by decide +kernel
theorem dL_law_297 : decode (Mc mL_law) 297 = .ok (.iconst 1, 1) := by decide +kernel
theorem dL_law_298 : decode (Mc mL_law) 298 = .ok (.iadd, 1) := by decide +kernel
theorem dL_law_299 : decode (Mc mL_law) 299 = .ok (.iaload, 1) := by decide +kernel
theorem dL_law_300 : decode (Mc mL_law) 300 = .ok (.aload_n 0, 1) := by decide +kernel
theorem dL_law_301 : decode (Mc mL_law) 301 = .ok (.iload_n 3, 1) := by decide +kernel
theorem dL_law_302 : decode (Mc mL_law) 302 = .ok (.iconst 2, 1) := by decide +kernel
theorem dL_law_303 : decode (Mc mL_law) 303 = .ok (.iadd, 1) := by decide +kernel
theorem dL_law_304 : decode (Mc mL_law) 304 = .ok (.iaload, 1) := by decide +kernel
theorem dL_law_305 : decode (Mc mL_law) 305 = .ok (.aload_n 0, 1) := by decide +kernel
theorem dL_law_306 : decode (Mc mL_law) 306 = .ok (.iload_n 3, 1) := by decide +kernel
theorem dL_law_307 : decode (Mc mL_law) 307 = .ok (.iconst 3, 1) := by decide +kernel
theorem dL_law_308 : decode (Mc mL_law) 308 = .ok (.iadd, 1) := by decide +kernel
theorem dL_law_309 : decode (Mc mL_law) 309 = .ok (.iaload, 1) := by decide +kernel
theorem dL_law_310 : decode (Mc mL_law) 310 = .ok (.aload_n 0, 1) := by decide +kernel
theorem dL_law_311 : decode (Mc mL_law) 311 = .ok (.iload_n 3, 1) := by decide +kernel
theorem dL_law_312 : decode (Mc mL_law) 312 = .ok (.iconst 4, 1) := by decide +kernel
theorem dL_law_313 : decode (Mc mL_law) 313 = .ok (.iadd, 1) := by decide +kernel
theorem dL_law_314 : decode (Mc mL_law) 314 = .ok (.iaload, 1) := by decide +kernel
theorem dL_law_315 : decode (Mc mL_law) 315 = .ok (.invokevirtual 41, 3) := by decide +kernel
theorem dL_law_318 : decode (Mc mL_law) 318 = .ok (.aload_n 2, 1) := by decide +kernel
theorem dL_law_319 : decode (Mc mL_law) 319 = .ok (.aload_n 0, 1) := by decide +kernel
theorem dL_law_320 : decode (Mc mL_law) 320 = .ok (.iload_n 3, 1) := by decide +kernel
theorem dL_law_321 : decode (Mc mL_law) 321 = .ok (.iconst 1, 1) := by decide +kernel
theorem dL_law_322 : decode (Mc mL_law) 322 = .ok (.iadd, 1) := by decide +kernel
theorem dL_law_323 : decode (Mc mL_law) 323 = .ok (.iaload, 1) := by decide +kernel
theorem dL_law_324 : decode (Mc mL_law) 324 = .ok (.aload_n 0, 1) := by decide +kernel
theorem dL_law_325 : decode (Mc mL_law) 325 = .ok (.iload_n 3, 1) := by decide +kernel
theorem dL_law_326 : decode (Mc mL_law) 326 = .ok (.iconst 2, 1) := by decide +kernel
theorem dL_law_327 : decode (Mc mL_law) 327 = .ok (.iadd, 1) := by decide +kernel
theorem dL_law_328 : decode (Mc mL_law) 328 = .ok (.iaload, 1) := by decide +kernel
theorem dL_law_329 : decode (Mc mL_law) 329 = .ok (.aload_n 0, 1) := by decide +kernel
theorem dL_law_330 : decode (Mc mL_law) 330 = .ok (.iload_n 3, 1) := by decide +kernel
theorem dL_law_331 : decode (Mc mL_law) 331 = .ok (.iconst 3, 1) := by decide +kernel
theorem dL_law_332 : decode (Mc mL_law) 332 = .ok (.iadd, 1) := by decide +kernel
theorem dL_law_333 : decode (Mc mL_law) 333 = .ok (.iaload, 1) := by decide +kernel
theorem dL_law_334 : decode (Mc mL_law) 334 = .ok (.aload_n 0, 1) := by decide +kernel
theorem dL_law_335 : decode (Mc mL_law) 335 = .ok (.iload_n 3, 1) := by decide +kernel
theorem dL_law_336 : decode (Mc mL_law) 336 = .ok (.iconst 4, 1) := by decide +kernel
theorem dL_law_337 : decode (Mc mL_law) 337 = .ok (.iadd, 1) := by decide +kernel
theorem dL_law_338 : decode (Mc mL_law) 338 = .ok (.iaload, 1) := by decide +kernel
theorem dL_law_339 : decode (Mc mL_law) 339 = .ok (.invokevirtual 45, 3) := by decide +kernel
theorem dL_law_342 : decode (Mc mL_law) 342 = .ok (.if_icmp .eq 265, 3) := by decide +kernel
theorem dL_law_345 : decode (Mc mL_law) 345 = .ok (.iconst 0, 1) := by decide +kernel
theorem dL_law_346 : decode (Mc mL_law) 346 = .ok (.ireturn, 1) := by decide +kernel
theorem dL_law_347 : decode (Mc mL_law) 347 = .ok (.aload_n 1, 1) := by decide +kernel
theorem dL_law_348 : decode (Mc mL_law) 348 = .ok (.aload_n 0, 1) := by decide +kernel
theorem dL_law_349 : decode (Mc mL_law) 349 = .ok (.iload_n 3, 1) := by decide +kernel
theorem dL_law_350 : decode (Mc mL_law) 350 = .ok (.iconst 1, 1) := by decide +kernel
theorem dL_law_351 : decode (Mc mL_law) 351 = .ok (.iadd, 1) := by decide +kernel
theorem dL_law_352 : decode (Mc mL_law) 352 = .ok (.iaload, 1) := by decide +kernel
theorem dL_law_353 : decode (Mc mL_law) 353 = .ok (.aload_n 0, 1) := by decide +kernel
theorem dL_law_354 : decode (Mc mL_law) 354 = .ok (.iload_n 3, 1) := by decide +kernel
theorem dL_law_355 : decode (Mc mL_law) 355 = .ok (.iconst 2, 1) := by decide +kernel
theorem dL_law_356 : decode (Mc mL_law) 356 = .ok (.iadd, 1) := by decide +kernel
theorem dL_law_357 : decode (Mc mL_law) 357 = .ok (.iaload, 1) := by decide +kernel
theorem dL_law_358 : decode (Mc mL_law) 358 = .ok (.aload_n 0, 1) := by decide +kernel
theorem dL_law_359 : decode (Mc mL_law) 359 = .ok (.iload_n 3, 1) := by decide +kernel
theorem dL_law_360 : decode (Mc mL_law) 360 = .ok (.iconst 3, 1) := by decide +kernel
theorem dL_law_361 : decode (Mc mL_law) 361 = .ok (.iadd, 1) := by decide +kernel
theorem dL_law_362 : decode (Mc mL_law) 362 = .ok (.iaload, 1) := by decide +kernel
theorem dL_law_363 : decode (Mc mL_law) 363 = .ok (.invokevirtual 46, 3) := by decide +kernel
theorem dL_law_366 : decode (Mc mL_law) 366 = .ok (.aload_n 2, 1) := by decide +kernel
theorem dL_law_367 : decode (Mc mL_law) 367 = .ok (.aload_n 0, 1) := by decide +kernel
theorem dL_law_368 : decode (Mc mL_law) 368 = .ok (.iload_n 3, 1) := by decide +kernel
theorem dL_law_369 : decode (Mc mL_law) 369 = .ok (.iconst 1, 1) := by decide +kernel
theorem dL_law_370 : decode (Mc mL_law) 370 = .ok (.iadd, 1) := by decide +kernel
theorem dL_law_371 : decode (Mc mL_law) 371 = .ok (.iaload, 1) := by decide +kernel
theorem dL_law_372 : decode (Mc mL_law) 372 = .ok (.aload_n 0, 1) := by decide +kernel
theorem dL_law_373 : decode (Mc mL_law) 373 = .ok (.iload_n 3, 1) := by decide +kernel
theorem dL_law_374 : decode (Mc mL_law) 374 = .ok (.iconst 2, 1) := by decide +kernel
theorem dL_law_375 : decode (Mc mL_law) 375 = .ok (.iadd, 1) := by decide +kernel
theorem dL_law_376 : decode (Mc mL_law) 376 = .ok (.iaload, 1) := by decide +kernel
theorem dL_law_377 : decode (Mc mL_law) 377 = .ok (.aload_n 0, 1) := by decide +kernel
theorem dL_law_378 : decode (Mc mL_law) 378 = .ok (.iload_n 3, 1) := by decide +kernel
theorem dL_law_379 : decode (Mc mL_law) 379 = .ok (.iconst 3, 1) := by decide +kernel
theorem dL_law_380 : decode (Mc mL_law) 380 = .ok (.iadd, 1) := by decide +kernel
theorem dL_law_381 : decode (Mc mL_law) 381 = .ok (.iaload, 1) := by decide +kernel
theorem dL_law_382 : decode (Mc mL_law) 382 = .ok (.invokevirtual 49, 3) := by decide +kernel
theorem dL_law_385 : decode (Mc mL_law) 385 = .ok (.if_icmp .eq 222, 3) := by decide +kernel
theorem dL_law_388 : decode (Mc mL_law) 388 = .ok (.iconst 0, 1) := by decide +kernel
theorem dL_law_389 : decode (Mc mL_law) 389 = .ok (.ireturn, 1) := by decide +kernel
theorem dL_law_390 : decode (Mc mL_law) 390 = .ok (.aload_n 1, 1) := by decide +kernel
theorem dL_law_391 : decode (Mc mL_law) 391 = .ok (.invokevirtual 50, 3) := by decide +kernel
theorem dL_law_394 : decode (Mc mL_law) 394 = .ok (.aload_n 2, 1) := by decide +kernel
theorem dL_law_395 : decode (Mc mL_law) 395 = .ok (.invokevirtual 53, 3) := by decide +kernel
theorem dL_law_398 : decode (Mc mL_law) 398 = .ok (.if_icmp .eq 209, 3) := by decide +kernel
theorem dL_law_401 : decode (Mc mL_law) 401 = .ok (.iconst 0, 1) := by decide +kernel
theorem dL_law_402 : decode (Mc mL_law) 402 = .ok (.ireturn, 1) := by decide +kernel
theorem dL_law_403 : decode (Mc mL_law) 403 = .ok (.aload_n 1, 1) := by decide +kernel
theorem dL_law_404 : decode (Mc mL_law) 404 = .ok (.aload_n 0, 1) := by decide +kernel
theorem dL_law_405 : decode (Mc mL_law) 405 = .ok (.iload_n 3, 1) := by decide +kernel
theorem dL_law_406 : decode (Mc mL_law) 406 = .ok (.iconst 1, 1) := by decide +kernel
theorem dL_law_407 : decode (Mc mL_law) 407 = .ok (.iadd, 1) := by decide +kernel
theorem dL_law_408 : decode (Mc mL_law) 408 = .ok (.iaload, 1) := by decide +kernel
theorem dL_law_409 : decode (Mc mL_law) 409 = .ok (.aload_n 0, 1) := by decide +kernel
theorem dL_law_410 : decode (Mc mL_law) 410 = .ok (.iload_n 3, 1) := by decide +kernel
theorem dL_law_411 : decode (Mc mL_law) 411 = .ok (.iconst 2, 1) := by decide +kernel
theorem dL_law_412 : decode (Mc mL_law) 412 = .ok (.iadd, 1) := by decide +kernel
theorem dL_law_413 : decode (Mc mL_law) 413 = .ok (.iaload, 1) := by decide +kernel
theorem dL_law_414 : decode (Mc mL_law) 414 = .ok (.invokevirtual 54, 3) := by decide +kernel
theorem dL_law_417 : decode (Mc mL_law) 417 = .ok (.aload_n 2, 1) := by decide +kernel
theorem dL_law_418 : decode (Mc mL_law) 418 = .ok (.aload_n 0, 1) := by decide +kernel
theorem dL_law_419 : decode (Mc mL_law) 419 = .ok (.iload_n 3, 1) := by decide +kernel
theorem dL_law_420 : decode (Mc mL_law) 420 = .ok (.iconst 1, 1) := by decide +kernel
theorem dL_law_421 : decode (Mc mL_law) 421 = .ok (.iadd, 1) := by decide +kernel
theorem dL_law_422 : decode (Mc mL_law) 422 = .ok (.iaload, 1) := by decide +kernel
theorem dL_law_423 : decode (Mc mL_law) 423 = .ok (.aload_n 0, 1) := by decide +kernel
theorem dL_law_424 : decode (Mc mL_law) 424 = .ok (.iload_n 3, 1) := by decide +kernel
theorem dL_law_425 : decode (Mc mL_law) 425 = .ok (.iconst 2, 1) := by decide +kernel
theorem dL_law_426 : decode (Mc mL_law) 426 = .ok (.iadd, 1) := by decide +kernel
theorem dL_law_427 : decode (Mc mL_law) 427 = .ok (.iaload, 1) := by decide +kernel
theorem dL_law_428 : decode (Mc mL_law) 428 = .ok (.invokevirtual 58, 3) := by decide +kernel
theorem dL_law_431 : decode (Mc mL_law) 431 = .ok (.if_icmp .eq 176, 3) := by decide +kernel
theorem dL_law_434 : decode (Mc mL_law) 434 = .ok (.iconst 0, 1) := by decide +kernel
theorem dL_law_435 : decode (Mc mL_law) 435 = .ok (.ireturn, 1) := by decide +kernel
theorem dL_law_436 : decode (Mc mL_law) 436 = .ok (.aload_n 1, 1) := by decide +kernel
theorem dL_law_437 : decode (Mc mL_law) 437 = .ok (.aload_n 0, 1) := by decide +kernel
theorem dL_law_438 : decode (Mc mL_law) 438 = .ok (.iload_n 3, 1) := by decide +kernel
theorem dL_law_439 : decode (Mc mL_law) 439 = .ok (.iconst 1, 1) := by decide +kernel
theorem dL_law_440 : decode (Mc mL_law) 440 = .ok (.iadd, 1) := by decide +kernel
theorem dL_law_441 : decode (Mc mL_law) 441 = .ok (.iaload, 1) := by decide +kernel
theorem dL_law_442 : decode (Mc mL_law) 442 = .ok (.aload_n 0, 1) := by decide +kernel
theorem dL_law_443 : decode (Mc mL_law) 443 = .ok (.iload_n 3, 1) := by decide +kernel
theorem dL_law_444 : decode (Mc mL_law) 444 = .ok (.iconst 2, 1) := by decide +kernel
theorem dL_law_445 : decode (Mc mL_law) 445 = .ok (.iadd, 1) := by decide +kernel
theorem dL_law_446 : decode (Mc mL_law) 446 = .ok (.iaload, 1) := by decide +kernel
theorem dL_law_447 : decode (Mc mL_law) 447 = .ok (.aload_n 0, 1) := by decide +kernel
theorem dL_law_448 : decode (Mc mL_law) 448 = .ok (.iload_n 3, 1) := by decide +kernel
theorem dL_law_449 : decode (Mc mL_law) 449 = .ok (.iconst 3, 1) := by decide +kernel
theorem dL_law_450 : decode (Mc mL_law) 450 = .ok (.iadd, 1) := by decide +kernel
theorem dL_law_451 : decode (Mc mL_law) 451 = .ok (.iaload, 1) := by decide +kernel
theorem dL_law_452 : decode (Mc mL_law) 452 = .ok (.aload_n 0, 1) := by decide +kernel
theorem dL_law_453 : decode (Mc mL_law) 453 = .ok (.iload_n 3, 1) := by decide +kernel
theorem dL_law_454 : decode (Mc mL_law) 454 = .ok (.iconst 4, 1) := by decide +kernel
theorem dL_law_455 : decode (Mc mL_law) 455 = .ok (.iadd, 1) := by decide +kernel
theorem dL_law_456 : decode (Mc mL_law) 456 = .ok (.iaload, 1) := by decide +kernel
theorem dL_law_457 : decode (Mc mL_law) 457 = .ok (.invokevirtual 59, 3) := by decide +kernel
theorem dL_law_460 : decode (Mc mL_law) 460 = .ok (.aload_n 2, 1) := by decide +kernel
theorem dL_law_461 : decode (Mc mL_law) 461 = .ok (.aload_n 0, 1) := by decide +kernel
theorem dL_law_462 : decode (Mc mL_law) 462 = .ok (.iload_n 3, 1) := by decide +kernel
theorem dL_law_463 : decode (Mc mL_law) 463 = .ok (.iconst 1, 1) := by decide +kernel
theorem dL_law_464 : decode (Mc mL_law) 464 = .ok (.iadd, 1) := by decide +kernel
theorem dL_law_465 : decode (Mc mL_law) 465 = .ok (.iaload, 1) := by decide +kernel
theorem dL_law_466 : decode (Mc mL_law) 466 = .ok (.aload_n 0, 1) := by decide +kernel
theorem dL_law_467 : decode (Mc mL_law) 467 = .ok (.iload_n 3, 1) := by decide +kernel
theorem dL_law_468 : decode (Mc mL_law) 468 = .ok (.iconst 2, 1) := by decide +kernel
theorem dL_law_469 : decode (Mc mL_law) 469 = .ok (.iadd, 1) := by decide +kernel
theorem dL_law_470 : decode (Mc mL_law) 470 = .ok (.iaload, 1) := by decide +kernel
theorem dL_law_471 : decode (Mc mL_law) 471 = .ok (.aload_n 0, 1) := by decide +kernel
theorem dL_law_472 : decode (Mc mL_law) 472 = .ok (.iload_n 3, 1) := by decide +kernel
theorem dL_law_473 : decode (Mc mL_law) 473 = .ok (.iconst 3, 1) := by decide +kernel
theorem dL_law_474 : decode (Mc mL_law) 474 = .ok (.iadd, 1) := by decide +kernel
theorem dL_law_475 : decode (Mc mL_law) 475 = .ok (.iaload, 1) := by decide +kernel
theorem dL_law_476 : decode (Mc mL_law) 476 = .ok (.aload_n 0, 1) := by decide +kernel
theorem dL_law_477 : decode (Mc mL_law) 477 = .ok (.iload_n 3, 1) := by decide +kernel
theorem dL_law_478 : decode (Mc mL_law) 478 = .ok (.iconst 4, 1) := by decide +kernel
theorem dL_law_479 : decode (Mc mL_law) 479 = .ok (.iadd, 1) := by decide +kernel
theorem dL_law_480 : decode (Mc mL_law) 480 = .ok (.iaload, 1) := by decide +kernel
theorem dL_law_481 : decode (Mc mL_law) 481 = .ok (.invokevirtual 62, 3) := by decide +kernel
theorem dL_law_484 : decode (Mc mL_law) 484 = .ok (.if_icmp .eq 123, 3) := by decide +kernel
theorem dL_law_487 : decode (Mc mL_law) 487 = .ok (.iconst 0, 1) := by decide +kernel
theorem dL_law_488 : decode (Mc mL_law) 488 = .ok (.ireturn, 1) := by decide +kernel
theorem dL_law_489 : decode (Mc mL_law) 489 = .ok (.aload_n 1, 1) := by decide +kernel
theorem dL_law_490 : decode (Mc mL_law) 490 = .ok (.invokevirtual 63, 3) := by decide +kernel
theorem dL_law_493 : decode (Mc mL_law) 493 = .ok (.aload_n 2, 1) := by decide +kernel
theorem dL_law_494 : decode (Mc mL_law) 494 = .ok (.invokevirtual 66, 3) := by decide +kernel
theorem dL_law_497 : decode (Mc mL_law) 497 = .ok (.if_icmp .eq 110, 3) := by decide +kernel
theorem dL_law_500 : decode (Mc mL_law) 500 = .ok (.iconst 0, 1) := by decide +kernel
theorem dL_law_501 : decode (Mc mL_law) 501 = .ok (.ireturn, 1) := by decide +kernel
theorem dL_law_502 : decode (Mc mL_law) 502 = .ok (.aload_n 1, 1) := by decide +kernel
theorem dL_law_503 : decode (Mc mL_law) 503 = .ok (.aload_n 0, 1) := by decide +kernel
theorem dL_law_504 : decode (Mc mL_law) 504 = .ok (.iload_n 3, 1) := by decide +kernel
theorem dL_law_505 : decode (Mc mL_law) 505 = .ok (.iconst 1, 1) := by decide +kernel
theorem dL_law_506 : decode (Mc mL_law) 506 = .ok (.iadd, 1) := by decide +kernel
theorem dL_law_507 : decode (Mc mL_law) 507 = .ok (.iaload, 1) := by decide +kernel
theorem dL_law_508 : decode (Mc mL_law) 508 = .ok (.invokevirtual 67, 3) := by decide +kernel
theorem dL_law_511 : decode (Mc mL_law) 511 = .ok (.aload_n 2, 1) := by decide +kernel
theorem dL_law_512 : decode (Mc mL_law) 512 = .ok (.aload_n 0, 1) := by decide +kernel
theorem dL_law_513 : decode (Mc mL_law) 513 = .ok (.iload_n 3, 1) := by decide +kernel
theorem dL_law_514 : decode (Mc mL_law) 514 = .ok (.iconst 1, 1) := by decide +kernel
theorem dL_law_515 : decode (Mc mL_law) 515 = .ok (.iadd, 1) := by decide +kernel
theorem dL_law_516 : decode (Mc mL_law) 516 = .ok (.iaload, 1) := by decide +kernel
theorem dL_law_517 : decode (Mc mL_law) 517 = .ok (.invokevirtual 70, 3) := by decide +kernel
theorem dL_law_520 : decode (Mc mL_law) 520 = .ok (.if_icmp .eq 87, 3) := by decide +kernel
theorem dL_law_523 : decode (Mc mL_law) 523 = .ok (.iconst 0, 1) := by decide +kernel
theorem dL_law_524 : decode (Mc mL_law) 524 = .ok (.ireturn, 1) := by decide +kernel
theorem dL_law_525 : decode (Mc mL_law) 525 = .ok (.aload_n 1, 1) := by decide +kernel
theorem dL_law_526 : decode (Mc mL_law) 526 = .ok (.aload_n 0, 1) := by decide +kernel
theorem dL_law_527 : decode (Mc mL_law) 527 = .ok (.iload_n 3, 1) := by decide +kernel
theorem dL_law_528 : decode (Mc mL_law) 528 = .ok (.iconst 1, 1) := by decide +kernel
theorem dL_law_529 : decode (Mc mL_law) 529 = .ok (.iadd, 1) := by decide +kernel
theorem dL_law_530 : decode (Mc mL_law) 530 = .ok (.iaload, 1) := by decide +kernel
theorem dL_law_531 : decode (Mc mL_law) 531 = .ok (.aload_n 0, 1) := by decide +kernel
theorem dL_law_532 : decode (Mc mL_law) 532 = .ok (.iload_n 3, 1) := by decide +kernel
theorem dL_law_533 : decode (Mc mL_law) 533 = .ok (.iconst 2, 1) := by decide +kernel
theorem dL_law_534 : decode (Mc mL_law) 534 = .ok (.iadd, 1) := by decide +kernel
theorem dL_law_535 : decode (Mc mL_law) 535 = .ok (.iaload, 1) := by decide +kernel
theorem dL_law_536 : decode (Mc mL_law) 536 = .ok (.invokevirtual 71, 3) := by decide +kernel
theorem dL_law_539 : decode (Mc mL_law) 539 = .ok (.aload_n 2, 1) := by decide +kernel
theorem dL_law_540 : decode (Mc mL_law) 540 = .ok (.aload_n 0, 1) := by decide +kernel
theorem dL_law_541 : decode (Mc mL_law) 541 = .ok (.iload_n 3, 1) := by decide +kernel
theorem dL_law_542 : decode (Mc mL_law) 542 = .ok (.iconst 1, 1) := by decide +kernel
theorem dL_law_543 : decode (Mc mL_law) 543 = .ok (.iadd, 1) := by decide +kernel
theorem dL_law_544 : decode (Mc mL_law) 544 = .ok (.iaload, 1) := by decide +kernel
theorem dL_law_545 : decode (Mc mL_law) 545 = .ok (.aload_n 0, 1) := by decide +kernel
theorem dL_law_546 : decode (Mc mL_law) 546 = .ok (.iload_n 3, 1) := by decide +kernel
theorem dL_law_547 : decode (Mc mL_law) 547 = .ok (.iconst 2, 1) := by decide +kernel
theorem dL_law_548 : decode (Mc mL_law) 548 = .ok (.iadd, 1) := by decide +kernel
theorem dL_law_549 : decode (Mc mL_law) 549 = .ok (.iaload, 1) := by decide +kernel
theorem dL_law_550 : decode (Mc mL_law) 550 = .ok (.invokevirtual 74, 3) := by decide +kernel
theorem dL_law_553 : decode (Mc mL_law) 553 = .ok (.if_icmp .eq 54, 3) := by decide +kernel
theorem dL_law_556 : decode (Mc mL_law) 556 = .ok (.iconst 0, 1) := by decide +kernel
theorem dL_law_557 : decode (Mc mL_law) 557 = .ok (.ireturn, 1) := by decide +kernel
theorem dL_law_558 : decode (Mc mL_law) 558 = .ok (.aload_n 1, 1) := by decide +kernel
theorem dL_law_559 : decode (Mc mL_law) 559 = .ok (.invokevirtual 75, 3) := by decide +kernel
theorem dL_law_562 : decode (Mc mL_law) 562 = .ok (.aload_n 2, 1) := by decide +kernel
theorem dL_law_563 : decode (Mc mL_law) 563 = .ok (.invokevirtual 78, 3) := by decide +kernel
theorem dL_law_566 : decode (Mc mL_law) 566 = .ok (.if_icmp .eq 41, 3) := by decide +kernel
theorem dL_law_569 : decode (Mc mL_law) 569 = .ok (.iconst 0, 1) := by decide +kernel
theorem dL_law_570 : decode (Mc mL_law) 570 = .ok (.ireturn, 1) := by decide +kernel
theorem dL_law_571 : decode (Mc mL_law) 571 = .ok (.aload_n 1, 1) := by decide +kernel
theorem dL_law_572 : decode (Mc mL_law) 572 = .ok (.invokevirtual 79, 3) := by decide +kernel
theorem dL_law_575 : decode (Mc mL_law) 575 = .ok (.aload_n 2, 1) := by decide +kernel
theorem dL_law_576 : decode (Mc mL_law) 576 = .ok (.invokevirtual 82, 3) := by decide +kernel
theorem dL_law_579 : decode (Mc mL_law) 579 = .ok (.if_icmp .eq 28, 3) := by decide +kernel
theorem dL_law_582 : decode (Mc mL_law) 582 = .ok (.iconst 0, 1) := by decide +kernel
theorem dL_law_583 : decode (Mc mL_law) 583 = .ok (.ireturn, 1) := by decide +kernel
theorem dL_law_584 : decode (Mc mL_law) 584 = .ok (.aload_n 1, 1) := by decide +kernel
theorem dL_law_585 : decode (Mc mL_law) 585 = .ok (.aload_n 0, 1) := by decide +kernel
theorem dL_law_586 : decode (Mc mL_law) 586 = .ok (.iload_n 3, 1) := by decide +kernel
theorem dL_law_587 : decode (Mc mL_law) 587 = .ok (.iconst 1, 1) := by decide +kernel
theorem dL_law_588 : decode (Mc mL_law) 588 = .ok (.iadd, 1) := by decide +kernel
theorem dL_law_589 : decode (Mc mL_law) 589 = .ok (.iaload, 1) := by decide +kernel
theorem dL_law_590 : decode (Mc mL_law) 590 = .ok (.invokevirtual 83, 3) := by decide +kernel
theorem dL_law_593 : decode (Mc mL_law) 593 = .ok (.aload_n 2, 1) := by decide +kernel
theorem dL_law_594 : decode (Mc mL_law) 594 = .ok (.aload_n 0, 1) := by decide +kernel
theorem dL_law_595 : decode (Mc mL_law) 595 = .ok (.iload_n 3, 1) := by decide +kernel
theorem dL_law_596 : decode (Mc mL_law) 596 = .ok (.iconst 1, 1) := by decide +kernel
theorem dL_law_597 : decode (Mc mL_law) 597 = .ok (.iadd, 1) := by decide +kernel
theorem dL_law_598 : decode (Mc mL_law) 598 = .ok (.iaload, 1) := by decide +kernel
theorem dL_law_599 : decode (Mc mL_law) 599 = .ok (.invokevirtual 86, 3) := by decide +kernel
theorem dL_law_602 : decode (Mc mL_law) 602 = .ok (.if_icmp .eq 5, 3) := by decide +kernel
theorem dL_law_605 : decode (Mc mL_law) 605 = .ok (.iconst 0, 1) := by decide +kernel
theorem dL_law_606 : decode (Mc mL_law) 606 = .ok (.ireturn, 1) := by decide +kernel
theorem dL_law_607 : decode (Mc mL_law) 607 = .ok (.iinc 3 5, 3) := by decide +kernel
theorem dL_law_610 : decode (Mc mL_law) 610 = .ok (.goto (-592), 3) := by decide +kernel
theorem dL_law_613 : decode (Mc mL_law) 613 = .ok (.iconst 1, 1) := by decide +kernel
theorem dL_law_614 : decode (Mc mL_law) 614 = .ok (.ireturn, 1) := by decide +kernel
