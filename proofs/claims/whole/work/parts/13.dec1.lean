theorem dT_init_0 : decode (Mc mT_init) 0 = .ok (.aload_n 0, 1) := by decide +kernel
theorem dT_init_1 : decode (Mc mT_init) 1 = .ok (.invokespecial 3, 3) := by decide +kernel
theorem dT_init_4 : decode (Mc mT_init) 4 = .ok (.aload_n 0, 1) := by decide +kernel
theorem dT_init_5 : decode (Mc mT_init) 5 = .ok (.new 9, 3) := by decide +kernel
theorem dT_init_8 : decode (Mc mT_init) 8 = .ok (.dup, 1) := by decide +kernel
theorem dT_init_9 : decode (Mc mT_init) 9 = .ok (.invokespecial 11, 3) := by decide +kernel
theorem dT_init_12 : decode (Mc mT_init) 12 = .ok (.putfield 12, 3) := by decide +kernel
theorem dT_init_15 : decode (Mc mT_init) 15 = .ok (.aload_n 0, 1) := by decide +kernel
theorem dT_init_16 : decode (Mc mT_init) 16 = .ok (.iconst 3, 1) := by decide +kernel
theorem dT_init_17 : decode (Mc mT_init) 17 = .ok (.anewarray 16, 3) := by decide +kernel
theorem dT_init_20 : decode (Mc mT_init) 20 = .ok (.dup, 1) := by decide +kernel
theorem dT_init_21 : decode (Mc mT_init) 21 = .ok (.iconst 0, 1) := by decide +kernel
theorem dT_init_22 : decode (Mc mT_init) 22 = .ok (.new 16, 3) := by decide +kernel
theorem dT_init_25 : decode (Mc mT_init) 25 = .ok (.dup, 1) := by decide +kernel
theorem dT_init_26 : decode (Mc mT_init) 26 = .ok (.invokespecial 18, 3) := by decide +kernel
theorem dT_init_29 : decode (Mc mT_init) 29 = .ok (.aastore, 1) := by decide +kernel
theorem dT_init_30 : decode (Mc mT_init) 30 = .ok (.dup, 1) := by decide +kernel
theorem dT_init_31 : decode (Mc mT_init) 31 = .ok (.iconst 1, 1) := by decide +kernel
theorem dT_init_32 : decode (Mc mT_init) 32 = .ok (.new 16, 3) := by decide +kernel
theorem dT_init_35 : decode (Mc mT_init) 35 = .ok (.dup, 1) := by decide +kernel
theorem dT_init_36 : decode (Mc mT_init) 36 = .ok (.invokespecial 18, 3) := by decide +kernel
theorem dT_init_39 : decode (Mc mT_init) 39 = .ok (.aastore, 1) := by decide +kernel
theorem dT_init_40 : decode (Mc mT_init) 40 = .ok (.dup, 1) := by decide +kernel
theorem dT_init_41 : decode (Mc mT_init) 41 = .ok (.iconst 2, 1) := by decide +kernel
theorem dT_init_42 : decode (Mc mT_init) 42 = .ok (.new 16, 3) := by decide +kernel
theorem dT_init_45 : decode (Mc mT_init) 45 = .ok (.dup, 1) := by decide +kernel
theorem dT_init_46 : decode (Mc mT_init) 46 = .ok (.invokespecial 18, 3) := by decide +kernel
theorem dT_init_49 : decode (Mc mT_init) 49 = .ok (.aastore, 1) := by decide +kernel
theorem dT_init_50 : decode (Mc mT_init) 50 = .ok (.putfield 19, 3) := by decide +kernel
theorem dT_init_53 : decode (Mc mT_init) 53 = .ok (.aload_n 0, 1) := by decide +kernel
theorem dT_init_54 : decode (Mc mT_init) 54 = .ok (.new 23, 3) := by decide +kernel
theorem dT_init_57 : decode (Mc mT_init) 57 = .ok (.dup, 1) := by decide +kernel
theorem dT_init_58 : decode (Mc mT_init) 58 = .ok (.aload_n 0, 1) := by decide +kernel
theorem dT_init_59 : decode (Mc mT_init) 59 = .ok (.getfield 19, 3) := by decide +kernel
theorem dT_init_62 : decode (Mc mT_init) 62 = .ok (.invokespecial 25, 3) := by decide +kernel
theorem dT_init_65 : decode (Mc mT_init) 65 = .ok (.putfield 28, 3) := by decide +kernel
theorem dT_init_68 : decode (Mc mT_init) 68 = .ok (.aload_n 0, 1) := by decide +kernel
theorem dT_init_69 : decode (Mc mT_init) 69 = .ok (.new 32, 3) := by decide +kernel
theorem dT_init_72 : decode (Mc mT_init) 72 = .ok (.dup, 1) := by decide +kernel
theorem dT_init_73 : decode (Mc mT_init) 73 = .ok (.invokespecial 34, 3) := by decide +kernel
theorem dT_init_76 : decode (Mc mT_init) 76 = .ok (.putfield 35, 3) := by decide +kernel
theorem dT_init_79 : decode (Mc mT_init) 79 = .ok (.aload_n 0, 1) := by decide +kernel
theorem dT_init_80 : decode (Mc mT_init) 80 = .ok (.new 32, 3) := by decide +kernel
theorem dT_init_83 : decode (Mc mT_init) 83 = .ok (.dup, 1) := by decide +kernel
theorem dT_init_84 : decode (Mc mT_init) 84 = .ok (.invokespecial 34, 3) := by decide +kernel
theorem dT_init_87 : decode (Mc mT_init) 87 = .ok (.putfield 39, 3) := by decide +kernel
theorem dT_init_90 : decode (Mc mT_init) 90 = .ok (.aload_n 0, 1) := by decide +kernel
theorem dT_init_91 : decode (Mc mT_init) 91 = .ok (.new 42, 3) := by decide +kernel
theorem dT_init_94 : decode (Mc mT_init) 94 = .ok (.dup, 1) := by decide +kernel
theorem dT_init_95 : decode (Mc mT_init) 95 = .ok (.invokespecial 44, 3) := by decide +kernel
theorem dT_init_98 : decode (Mc mT_init) 98 = .ok (.putfield 45, 3) := by decide +kernel
theorem dT_init_101 : decode (Mc mT_init) 101 = .ok (.aload_n 0, 1) := by decide +kernel
theorem dT_init_102 : decode (Mc mT_init) 102 = .ok (.new 42, 3) := by decide +kernel
theorem dT_init_105 : decode (Mc mT_init) 105 = .ok (.dup, 1) := by decide +kernel
theorem dT_init_106 : decode (Mc mT_init) 106 = .ok (.invokespecial 44, 3) := by decide +kernel
theorem dT_init_109 : decode (Mc mT_init) 109 = .ok (.putfield 49, 3) := by decide +kernel
theorem dT_init_112 : decode (Mc mT_init) 112 = .ok (.aload_n 0, 1) := by decide +kernel
theorem dT_init_113 : decode (Mc mT_init) 113 = .ok (.new 52, 3) := by decide +kernel
theorem dT_init_116 : decode (Mc mT_init) 116 = .ok (.dup, 1) := by decide +kernel
theorem dT_init_117 : decode (Mc mT_init) 117 = .ok (.aload_n 0, 1) := by decide +kernel
theorem dT_init_118 : decode (Mc mT_init) 118 = .ok (.getfield 12, 3) := by decide +kernel
theorem dT_init_121 : decode (Mc mT_init) 121 = .ok (.invokespecial 54, 3) := by decide +kernel
theorem dT_init_124 : decode (Mc mT_init) 124 = .ok (.putfield 57, 3) := by decide +kernel
theorem dT_init_127 : decode (Mc mT_init) 127 = .ok (.aload_n 0, 1) := by decide +kernel
theorem dT_init_128 : decode (Mc mT_init) 128 = .ok (.new 61, 3) := by decide +kernel
theorem dT_init_131 : decode (Mc mT_init) 131 = .ok (.dup, 1) := by decide +kernel
theorem dT_init_132 : decode (Mc mT_init) 132 = .ok (.aload_n 0, 1) := by decide +kernel
theorem dT_init_133 : decode (Mc mT_init) 133 = .ok (.getfield 12, 3) := by decide +kernel
theorem dT_init_136 : decode (Mc mT_init) 136 = .ok (.aload_n 0, 1) := by decide +kernel
theorem dT_init_137 : decode (Mc mT_init) 137 = .ok (.getfield 28, 3) := by decide +kernel
theorem dT_init_140 : decode (Mc mT_init) 140 = .ok (.aload_n 0, 1) := by decide +kernel
theorem dT_init_141 : decode (Mc mT_init) 141 = .ok (.getfield 57, 3) := by decide +kernel
theorem dT_init_144 : decode (Mc mT_init) 144 = .ok (.aload_n 0, 1) := by decide +kernel
theorem dT_init_145 : decode (Mc mT_init) 145 = .ok (.getfield 49, 3) := by decide +kernel
theorem dT_init_148 : decode (Mc mT_init) 148 = .ok (.aload_n 0, 1) := by decide +kernel
theorem dT_init_149 : decode (Mc mT_init) 149 = .ok (.getfield 35, 3) := by decide +kernel
theorem dT_init_152 : decode (Mc mT_init) 152 = .ok (.invokespecial 63, 3) := by decide +kernel
theorem dT_init_155 : decode (Mc mT_init) 155 = .ok (.putfield 66, 3) := by decide +kernel
theorem dT_init_158 : decode (Mc mT_init) 158 = .ok (.aload_n 0, 1) := by decide +kernel
theorem dT_init_159 : decode (Mc mT_init) 159 = .ok (.new 70, 3) := by decide +kernel
theorem dT_init_162 : decode (Mc mT_init) 162 = .ok (.dup, 1) := by decide +kernel
theorem dT_init_163 : decode (Mc mT_init) 163 = .ok (.aload_n 0, 1) := by decide +kernel
theorem dT_init_164 : decode (Mc mT_init) 164 = .ok (.getfield 12, 3) := by decide +kernel
theorem dT_init_167 : decode (Mc mT_init) 167 = .ok (.aload_n 0, 1) := by decide +kernel
theorem dT_init_168 : decode (Mc mT_init) 168 = .ok (.getfield 28, 3) := by decide +kernel
theorem dT_init_171 : decode (Mc mT_init) 171 = .ok (.invokespecial 72, 3) := by decide +kernel
theorem dT_init_174 : decode (Mc mT_init) 174 = .ok (.putfield 75, 3) := by decide +kernel
theorem dT_init_177 : decode (Mc mT_init) 177 = .ok (.aload_n 0, 1) := by decide +kernel
theorem dT_init_178 : decode (Mc mT_init) 178 = .ok (.iconst 0, 1) := by decide +kernel
theorem dT_init_179 : decode (Mc mT_init) 179 = .ok (.putfield 79, 3) := by decide +kernel
theorem dT_init_182 : decode (Mc mT_init) 182 = .ok (.aload_n 0, 1) := by decide +kernel
theorem dT_init_183 : decode (Mc mT_init) 183 = .ok (.iconst 0, 1) := by decide +kernel
theorem dT_init_184 : decode (Mc mT_init) 184 = .ok (.putfield 83, 3) := by decide +kernel
theorem dT_init_187 : decode (Mc mT_init) 187 = .ok (.aload_n 0, 1) := by decide +kernel
theorem dT_init_188 : decode (Mc mT_init) 188 = .ok (.getfield 45, 3) := by decide +kernel
theorem dT_init_191 : decode (Mc mT_init) 191 = .ok (.aload_n 0, 1) := by decide +kernel
theorem dT_init_192 : decode (Mc mT_init) 192 = .ok (.getfield 12, 3) := by decide +kernel
theorem dT_init_195 : decode (Mc mT_init) 195 = .ok (.invokevirtual 87, 3) := by decide +kernel
theorem dT_init_198 : decode (Mc mT_init) 198 = .ok (.return_, 1) := by decide +kernel
theorem dB_init_0 : decode (Mc mB_init) 0 = .ok (.aload_n 0, 1) := by decide +kernel
theorem dB_init_1 : decode (Mc mB_init) 1 = .ok (.invokespecial 3, 3) := by decide +kernel
theorem dB_init_4 : decode (Mc mB_init) 4 = .ok (.aload_n 0, 1) := by decide +kernel
theorem dB_init_5 : decode (Mc mB_init) 5 = .ok (.iconst 1, 1) := by decide +kernel
theorem dB_init_6 : decode (Mc mB_init) 6 = .ok (.putfield 9, 3) := by decide +kernel
theorem dB_init_9 : decode (Mc mB_init) 9 = .ok (.aload_n 0, 1) := by decide +kernel
theorem dB_init_10 : decode (Mc mB_init) 10 = .ok (.iconst 1, 1) := by decide +kernel
theorem dB_init_11 : decode (Mc mB_init) 11 = .ok (.putfield 15, 3) := by decide +kernel
theorem dB_init_14 : decode (Mc mB_init) 14 = .ok (.aload_n 0, 1) := by decide +kernel
theorem dB_init_15 : decode (Mc mB_init) 15 = .ok (.bipush 12, 2) := by decide +kernel
theorem dB_init_17 : decode (Mc mB_init) 17 = .ok (.putfield 18, 3) := by decide +kernel
theorem dB_init_20 : decode (Mc mB_init) 20 = .ok (.aload_n 0, 1) := by decide +kernel
theorem dB_init_21 : decode (Mc mB_init) 21 = .ok (.bipush 12, 2) := by decide +kernel
theorem dB_init_23 : decode (Mc mB_init) 23 = .ok (.newarray .int, 2) := by decide +kernel
theorem dB_init_25 : decode (Mc mB_init) 25 = .ok (.putfield 21, 3) := by decide +kernel
theorem dB_init_28 : decode (Mc mB_init) 28 = .ok (.return_, 1) := by decide +kernel
theorem dI_init_0 : decode (Mc mI_init) 0 = .ok (.aload_n 0, 1) := by decide +kernel
theorem dI_init_1 : decode (Mc mI_init) 1 = .ok (.invokespecial 3, 3) := by decide +kernel
theorem dI_init_4 : decode (Mc mI_init) 4 = .ok (.aload_n 0, 1) := by decide +kernel
theorem dI_init_5 : decode (Mc mI_init) 5 = .ok (.iconst 0, 1) := by decide +kernel
theorem dI_init_6 : decode (Mc mI_init) 6 = .ok (.putfield 9, 3) := by decide +kernel
theorem dI_init_9 : decode (Mc mI_init) 9 = .ok (.aload_n 0, 1) := by decide +kernel
theorem dI_init_10 : decode (Mc mI_init) 10 = .ok (.bipush 8, 2) := by decide +kernel
theorem dI_init_12 : decode (Mc mI_init) 12 = .ok (.newarray .int, 2) := by decide +kernel
theorem dI_init_14 : decode (Mc mI_init) 14 = .ok (.putfield 15, 3) := by decide +kernel
theorem dI_init_17 : decode (Mc mI_init) 17 = .ok (.aload_n 0, 1) := by decide +kernel
theorem dI_init_18 : decode (Mc mI_init) 18 = .ok (.bipush 8, 2) := by decide +kernel
theorem dI_init_20 : decode (Mc mI_init) 20 = .ok (.newarray .int, 2) := by decide +kernel
theorem dI_init_22 : decode (Mc mI_init) 22 = .ok (.putfield 19, 3) := by decide +kernel
theorem dI_init_25 : decode (Mc mI_init) 25 = .ok (.return_, 1) := by decide +kernel
theorem dJ_init_0 : decode (Mc mJ_init) 0 = .ok (.aload_n 0, 1) := by decide +kernel
theorem dJ_init_1 : decode (Mc mJ_init) 1 = .ok (.invokespecial 3, 3) := by decide +kernel
theorem dJ_init_4 : decode (Mc mJ_init) 4 = .ok (.aload_n 0, 1) := by decide +kernel
theorem dJ_init_5 : decode (Mc mJ_init) 5 = .ok (.iconst 3, 1) := by decide +kernel
theorem dJ_init_6 : decode (Mc mJ_init) 6 = .ok (.newarray .int, 2) := by decide +kernel
theorem dJ_init_8 : decode (Mc mJ_init) 8 = .ok (.putfield 9, 3) := by decide +kernel
theorem dJ_init_11 : decode (Mc mJ_init) 11 = .ok (.aload_n 0, 1) := by decide +kernel
theorem dJ_init_12 : decode (Mc mJ_init) 12 = .ok (.iconst 0, 1) := by decide +kernel
theorem dJ_init_13 : decode (Mc mJ_init) 13 = .ok (.putfield 15, 3) := by decide +kernel
theorem dJ_init_16 : decode (Mc mJ_init) 16 = .ok (.aload_n 0, 1) := by decide +kernel
theorem dJ_init_17 : decode (Mc mJ_init) 17 = .ok (.aload_n 1, 1) := by decide +kernel
theorem dJ_init_18 : decode (Mc mJ_init) 18 = .ok (.putfield 19, 3) := by decide +kernel
theorem dJ_init_21 : decode (Mc mJ_init) 21 = .ok (.return_, 1) := by decide +kernel
theorem dM_init_0 : decode (Mc mM_init) 0 = .ok (.aload_n 0, 1) := by decide +kernel
theorem dM_init_1 : decode (Mc mM_init) 1 = .ok (.invokespecial 3, 3) := by decide +kernel
theorem dM_init_4 : decode (Mc mM_init) 4 = .ok (.aload_n 0, 1) := by decide +kernel
theorem dM_init_5 : decode (Mc mM_init) 5 = .ok (.sipush 2000, 3) := by decide +kernel
theorem dM_init_8 : decode (Mc mM_init) 8 = .ok (.newarray .int, 2) := by decide +kernel
theorem dM_init_10 : decode (Mc mM_init) 10 = .ok (.putfield 9, 3) := by decide +kernel
theorem dM_init_13 : decode (Mc mM_init) 13 = .ok (.aload_n 0, 1) := by decide +kernel
theorem dM_init_14 : decode (Mc mM_init) 14 = .ok (.iconst 0, 1) := by decide +kernel
theorem dM_init_15 : decode (Mc mM_init) 15 = .ok (.putfield 15, 3) := by decide +kernel
theorem dM_init_18 : decode (Mc mM_init) 18 = .ok (.return_, 1) := by decide +kernel
theorem dS_init_0 : decode (Mc mS_init) 0 = .ok (.aload_n 0, 1) := by decide +kernel
theorem dS_init_1 : decode (Mc mS_init) 1 = .ok (.invokespecial 3, 3) := by decide +kernel
theorem dS_init_4 : decode (Mc mS_init) 4 = .ok (.aload_n 0, 1) := by decide +kernel
theorem dS_init_5 : decode (Mc mS_init) 5 = .ok (.bipush 96, 2) := by decide +kernel
theorem dS_init_7 : decode (Mc mS_init) 7 = .ok (.newarray .boolean, 2) := by decide +kernel
theorem dS_init_9 : decode (Mc mS_init) 9 = .ok (.putfield 9, 3) := by decide +kernel
theorem dS_init_12 : decode (Mc mS_init) 12 = .ok (.return_, 1) := by decide +kernel
theorem dW_init_0 : decode (Mc mW_init) 0 = .ok (.aload_n 0, 1) := by decide +kernel
theorem dW_init_1 : decode (Mc mW_init) 1 = .ok (.invokespecial 3, 3) := by decide +kernel
theorem dW_init_4 : decode (Mc mW_init) 4 = .ok (.aload_n 0, 1) := by decide +kernel
theorem dW_init_5 : decode (Mc mW_init) 5 = .ok (.sipush 320, 3) := by decide +kernel
theorem dW_init_8 : decode (Mc mW_init) 8 = .ok (.newarray .int, 2) := by decide +kernel
theorem dW_init_10 : decode (Mc mW_init) 10 = .ok (.putfield 9, 3) := by decide +kernel
theorem dW_init_13 : decode (Mc mW_init) 13 = .ok (.aload_n 0, 1) := by decide +kernel
theorem dW_init_14 : decode (Mc mW_init) 14 = .ok (.sipush 320, 3) := by decide +kernel
theorem dW_init_17 : decode (Mc mW_init) 17 = .ok (.newarray .int, 2) := by decide +kernel
theorem dW_init_19 : decode (Mc mW_init) 19 = .ok (.putfield 15, 3) := by decide +kernel
theorem dW_init_22 : decode (Mc mW_init) 22 = .ok (.aload_n 0, 1) := by decide +kernel
theorem dW_init_23 : decode (Mc mW_init) 23 = .ok (.sipush 320, 3) := by decide +kernel
theorem dW_init_26 : decode (Mc mW_init) 26 = .ok (.newarray .int, 2) := by decide +kernel
theorem dW_init_28 : decode (Mc mW_init) 28 = .ok (.putfield 18, 3) := by decide +kernel
theorem dW_init_31 : decode (Mc mW_init) 31 = .ok (.aload_n 0, 1) := by decide +kernel
theorem dW_init_32 : decode (Mc mW_init) 32 = .ok (.iconst 0, 1) := by decide +kernel
theorem dW_init_33 : decode (Mc mW_init) 33 = .ok (.putfield 21, 3) := by decide +kernel
theorem dW_init_36 : decode (Mc mW_init) 36 = .ok (.aload_n 0, 1) := by decide +kernel
theorem dW_init_37 : decode (Mc mW_init) 37 = .ok (.aload_n 1, 1) := by decide +kernel
theorem dW_init_38 : decode (Mc mW_init) 38 = .ok (.putfield 25, 3) := by decide +kernel
theorem dW_init_41 : decode (Mc mW_init) 41 = .ok (.return_, 1) := by decide +kernel
theorem dP_init_0 : decode (Mc mP_init) 0 = .ok (.aload_n 0, 1) := by decide +kernel
theorem dP_init_1 : decode (Mc mP_init) 1 = .ok (.invokespecial 3, 3) := by decide +kernel
theorem dP_init_4 : decode (Mc mP_init) 4 = .ok (.aload_n 0, 1) := by decide +kernel
theorem dP_init_5 : decode (Mc mP_init) 5 = .ok (.sipush 320, 3) := by decide +kernel
theorem dP_init_8 : decode (Mc mP_init) 8 = .ok (.newarray .int, 2) := by decide +kernel
theorem dP_init_10 : decode (Mc mP_init) 10 = .ok (.putfield 9, 3) := by decide +kernel
theorem dP_init_13 : decode (Mc mP_init) 13 = .ok (.aload_n 0, 1) := by decide +kernel
theorem dP_init_14 : decode (Mc mP_init) 14 = .ok (.aload_n 1, 1) := by decide +kernel
theorem dP_init_15 : decode (Mc mP_init) 15 = .ok (.putfield 15, 3) := by decide +kernel
theorem dP_init_18 : decode (Mc mP_init) 18 = .ok (.aload_n 0, 1) := by decide +kernel
theorem dP_init_19 : decode (Mc mP_init) 19 = .ok (.aload_n 2, 1) := by decide +kernel
theorem dP_init_20 : decode (Mc mP_init) 20 = .ok (.putfield 19, 3) := by decide +kernel
theorem dP_init_23 : decode (Mc mP_init) 23 = .ok (.aload_n 0, 1) := by decide +kernel
theorem dP_init_24 : decode (Mc mP_init) 24 = .ok (.aload_n 3, 1) := by decide +kernel
theorem dP_init_25 : decode (Mc mP_init) 25 = .ok (.putfield 23, 3) := by decide +kernel
theorem dP_init_28 : decode (Mc mP_init) 28 = .ok (.aload_n 0, 1) := by decide +kernel
theorem dP_init_29 : decode (Mc mP_init) 29 = .ok (.aload 4, 2) := by decide +kernel
theorem dP_init_31 : decode (Mc mP_init) 31 = .ok (.putfield 27, 3) := by decide +kernel
theorem dP_init_34 : decode (Mc mP_init) 34 = .ok (.aload_n 0, 1) := by decide +kernel
theorem dP_init_35 : decode (Mc mP_init) 35 = .ok (.aload 5, 2) := by decide +kernel
theorem dP_init_37 : decode (Mc mP_init) 37 = .ok (.putfield 31, 3) := by decide +kernel
theorem dP_init_40 : decode (Mc mP_init) 40 = .ok (.return_, 1) := by decide +kernel
theorem dR_init_0 : decode (Mc mR_init) 0 = .ok (.aload_n 0, 1) := by decide +kernel
theorem dR_init_1 : decode (Mc mR_init) 1 = .ok (.invokespecial 3, 3) := by decide +kernel
theorem dR_init_4 : decode (Mc mR_init) 4 = .ok (.aload_n 0, 1) := by decide +kernel
theorem dR_init_5 : decode (Mc mR_init) 5 = .ok (.iconst 0, 1) := by decide +kernel
theorem dR_init_6 : decode (Mc mR_init) 6 = .ok (.putfield 9, 3) := by decide +kernel
theorem dR_init_9 : decode (Mc mR_init) 9 = .ok (.aload_n 0, 1) := by decide +kernel
theorem dR_init_10 : decode (Mc mR_init) 10 = .ok (.iconst 0, 1) := by decide +kernel
theorem dR_init_11 : decode (Mc mR_init) 11 = .ok (.putfield 15, 3) := by decide +kernel
theorem dR_init_14 : decode (Mc mR_init) 14 = .ok (.aload_n 0, 1) := by decide +kernel
theorem dR_init_15 : decode (Mc mR_init) 15 = .ok (.iconst 0, 1) := by decide +kernel
theorem dR_init_16 : decode (Mc mR_init) 16 = .ok (.putfield 18, 3) := by decide +kernel
theorem dR_init_19 : decode (Mc mR_init) 19 = .ok (.aload_n 0, 1) := by decide +kernel
theorem dR_init_20 : decode (Mc mR_init) 20 = .ok (.iconst 0, 1) := by decide +kernel
theorem dR_init_21 : decode (Mc mR_init) 21 = .ok (.putfield 21, 3) := by decide +kernel
theorem dR_init_24 : decode (Mc mR_init) 24 = .ok (.aload_n 0, 1) := by decide +kernel
theorem dR_init_25 : decode (Mc mR_init) 25 = .ok (.iconst (-1), 1) := by decide +kernel
theorem dR_init_26 : decode (Mc mR_init) 26 = .ok (.putfield 24, 3) := by decide +kernel
theorem dR_init_29 : decode (Mc mR_init) 29 = .ok (.aload_n 0, 1) := by decide +kernel
theorem dR_init_30 : decode (Mc mR_init) 30 = .ok (.aload_n 1, 1) := by decide +kernel
theorem dR_init_31 : decode (Mc mR_init) 31 = .ok (.putfield 27, 3) := by decide +kernel
theorem dR_init_34 : decode (Mc mR_init) 34 = .ok (.aload_n 0, 1) := by decide +kernel
theorem dR_init_35 : decode (Mc mR_init) 35 = .ok (.aload_n 2, 1) := by decide +kernel
theorem dR_init_36 : decode (Mc mR_init) 36 = .ok (.putfield 31, 3) := by decide +kernel
theorem dR_init_39 : decode (Mc mR_init) 39 = .ok (.return_, 1) := by decide +kernel
theorem dS_fillFrom_0 : decode (Mc mS_fillFrom) 0 = .ok (.iconst 0, 1) := by decide +kernel
theorem dS_fillFrom_1 : decode (Mc mS_fillFrom) 1 = .ok (.istore_n 2, 1) := by decide +kernel
theorem dS_fillFrom_2 : decode (Mc mS_fillFrom) 2 = .ok (.iload_n 2, 1) := by decide +kernel
theorem dS_fillFrom_3 : decode (Mc mS_fillFrom) 3 = .ok (.bipush 96, 2) := by decide +kernel
theorem dS_fillFrom_5 : decode (Mc mS_fillFrom) 5 = .ok (.if_icmp .ge 27, 3) := by decide +kernel
theorem dS_fillFrom_8 : decode (Mc mS_fillFrom) 8 = .ok (.aload_n 0, 1) := by decide +kernel
theorem dS_fillFrom_9 : decode (Mc mS_fillFrom) 9 = .ok (.getfield 9, 3) := by decide +kernel
theorem dS_fillFrom_12 : decode (Mc mS_fillFrom) 12 = .ok (.iload_n 2, 1) := by decide +kernel
theorem dS_fillFrom_13 : decode (Mc mS_fillFrom) 13 = .ok (.aload_n 1, 1) := by decide +kernel
theorem dS_fillFrom_14 : decode (Mc mS_fillFrom) 14 = .ok (.iload_n 2, 1) := by decide +kernel
theorem dS_fillFrom_15 : decode (Mc mS_fillFrom) 15 = .ok (.bipush 8, 2) := by decide +kernel
theorem dS_fillFrom_17 : decode (Mc mS_fillFrom) 17 = .ok (.idiv, 1) := by decide +kernel
theorem dS_fillFrom_18 : decode (Mc mS_fillFrom) 18 = .ok (.iload_n 2, 1) := by decide +kernel
theorem dS_fillFrom_19 : decode (Mc mS_fillFrom) 19 = .ok (.bipush 8, 2) := by decide +kernel
theorem dS_fillFrom_21 : decode (Mc mS_fillFrom) 21 = .ok (.irem, 1) := by decide +kernel
theorem dS_fillFrom_22 : decode (Mc mS_fillFrom) 22 = .ok (.invokevirtual 15, 3) := by decide +kernel
theorem dS_fillFrom_25 : decode (Mc mS_fillFrom) 25 = .ok (.bastore, 1) := by decide +kernel
theorem dS_fillFrom_26 : decode (Mc mS_fillFrom) 26 = .ok (.iinc 2 1, 3) := by decide +kernel
theorem dS_fillFrom_29 : decode (Mc mS_fillFrom) 29 = .ok (.goto (-27), 3) := by decide +kernel
theorem dS_fillFrom_32 : decode (Mc mS_fillFrom) 32 = .ok (.return_, 1) := by decide +kernel
theorem dB_isOfBar_0 : decode (Mc mB_isOfBar) 0 = .ok (.iload_n 1, 1) := by decide +kernel
theorem dB_isOfBar_1 : decode (Mc mB_isOfBar) 1 = .ok (.iload_n 2, 1) := by decide +kernel
theorem dB_isOfBar_2 : decode (Mc mB_isOfBar) 2 = .ok (.invokestatic 25, 3) := by decide +kernel
theorem dB_isOfBar_5 : decode (Mc mB_isOfBar) 5 = .ok (.ifCond .eq 23, 3) := by decide +kernel
theorem dB_isOfBar_8 : decode (Mc mB_isOfBar) 8 = .ok (.iload_n 1, 1) := by decide +kernel
theorem dB_isOfBar_9 : decode (Mc mB_isOfBar) 9 = .ok (.aload_n 0, 1) := by decide +kernel
theorem dB_isOfBar_10 : decode (Mc mB_isOfBar) 10 = .ok (.getfield 15, 3) := by decide +kernel
theorem dB_isOfBar_13 : decode (Mc mB_isOfBar) 13 = .ok (.if_icmp .ge 15, 3) := by decide +kernel
theorem dB_isOfBar_16 : decode (Mc mB_isOfBar) 16 = .ok (.iload_n 2, 1) := by decide +kernel
theorem dB_isOfBar_17 : decode (Mc mB_isOfBar) 17 = .ok (.aload_n 0, 1) := by decide +kernel
theorem dB_isOfBar_18 : decode (Mc mB_isOfBar) 18 = .ok (.getfield 9, 3) := by decide +kernel
theorem dB_isOfBar_21 : decode (Mc mB_isOfBar) 21 = .ok (.if_icmp .ge 7, 3) := by decide +kernel
theorem dB_isOfBar_24 : decode (Mc mB_isOfBar) 24 = .ok (.iconst 1, 1) := by decide +kernel
theorem dB_isOfBar_25 : decode (Mc mB_isOfBar) 25 = .ok (.goto 4, 3) := by decide +kernel
theorem dB_isOfBar_28 : decode (Mc mB_isOfBar) 28 = .ok (.iconst 0, 1) := by decide +kernel
theorem dB_isOfBar_29 : decode (Mc mB_isOfBar) 29 = .ok (.ireturn, 1) := by decide +kernel
theorem dT_isCell_0 : decode (Mc mT_isCell) 0 = .ok (.iload_n 0, 1) := by decide +kernel
theorem dT_isCell_1 : decode (Mc mT_isCell) 1 = .ok (.ifCond .lt 23, 3) := by decide +kernel
theorem dT_isCell_4 : decode (Mc mT_isCell) 4 = .ok (.iload_n 0, 1) := by decide +kernel
theorem dT_isCell_5 : decode (Mc mT_isCell) 5 = .ok (.bipush 12, 2) := by decide +kernel
theorem dT_isCell_7 : decode (Mc mT_isCell) 7 = .ok (.if_icmp .ge 17, 3) := by decide +kernel
theorem dT_isCell_10 : decode (Mc mT_isCell) 10 = .ok (.iload_n 1, 1) := by decide +kernel
theorem dT_isCell_11 : decode (Mc mT_isCell) 11 = .ok (.ifCond .lt 13, 3) := by decide +kernel
theorem dT_isCell_14 : decode (Mc mT_isCell) 14 = .ok (.iload_n 1, 1) := by decide +kernel
theorem dT_isCell_15 : decode (Mc mT_isCell) 15 = .ok (.bipush 8, 2) := by decide +kernel
theorem dT_isCell_17 : decode (Mc mT_isCell) 17 = .ok (.if_icmp .ge 7, 3) := by decide +kernel
theorem dT_isCell_20 : decode (Mc mT_isCell) 20 = .ok (.iconst 1, 1) := by decide +kernel
theorem dT_isCell_21 : decode (Mc mT_isCell) 21 = .ok (.goto 4, 3) := by decide +kernel
theorem dT_isCell_24 : decode (Mc mT_isCell) 24 = .ok (.iconst 0, 1) := by decide +kernel
theorem dT_isCell_25 : decode (Mc mT_isCell) 25 = .ok (.ireturn, 1) := by decide +kernel
theorem dT_bar_0 : decode (Mc mT_bar) 0 = .ok (.iload_n 1, 1) := by decide +kernel
theorem dT_bar_1 : decode (Mc mT_bar) 1 = .ok (.iconst 1, 1) := by decide +kernel
theorem dT_bar_2 : decode (Mc mT_bar) 2 = .ok (.if_icmp .lt 30, 3) := by decide +kernel
theorem dT_bar_5 : decode (Mc mT_bar) 5 = .ok (.iload_n 1, 1) := by decide +kernel
theorem dT_bar_6 : decode (Mc mT_bar) 6 = .ok (.bipush 8, 2) := by decide +kernel
theorem dT_bar_8 : decode (Mc mT_bar) 8 = .ok (.if_icmp .gt 24, 3) := by decide +kernel
theorem dT_bar_11 : decode (Mc mT_bar) 11 = .ok (.iload_n 2, 1) := by decide +kernel
theorem dT_bar_12 : decode (Mc mT_bar) 12 = .ok (.iconst 1, 1) := by decide +kernel
theorem dT_bar_13 : decode (Mc mT_bar) 13 = .ok (.if_icmp .lt 19, 3) := by decide +kernel
theorem dT_bar_16 : decode (Mc mT_bar) 16 = .ok (.iload_n 2, 1) := by decide +kernel
theorem dT_bar_17 : decode (Mc mT_bar) 17 = .ok (.bipush 12, 2) := by decide +kernel
theorem dT_bar_19 : decode (Mc mT_bar) 19 = .ok (.if_icmp .gt 13, 3) := by decide +kernel
theorem dT_bar_22 : decode (Mc mT_bar) 22 = .ok (.iload_n 3, 1) := by decide +kernel
theorem dT_bar_23 : decode (Mc mT_bar) 23 = .ok (.ifCond .lt 9, 3) := by decide +kernel
theorem dT_bar_26 : decode (Mc mT_bar) 26 = .ok (.iload_n 3, 1) := by decide +kernel
theorem dT_bar_27 : decode (Mc mT_bar) 27 = .ok (.bipush 12, 2) := by decide +kernel
theorem dT_bar_29 : decode (Mc mT_bar) 29 = .ok (.if_icmp .le 5, 3) := by decide +kernel
theorem dT_bar_32 : decode (Mc mT_bar) 32 = .ok (.iconst 0, 1) := by decide +kernel
theorem dT_bar_33 : decode (Mc mT_bar) 33 = .ok (.ireturn, 1) := by decide +kernel
theorem dT_bar_34 : decode (Mc mT_bar) 34 = .ok (.aload_n 0, 1) := by decide +kernel
theorem dT_bar_35 : decode (Mc mT_bar) 35 = .ok (.getfield 12, 3) := by decide +kernel
theorem dT_bar_38 : decode (Mc mT_bar) 38 = .ok (.iload_n 1, 1) := by decide +kernel
theorem dT_bar_39 : decode (Mc mT_bar) 39 = .ok (.putfield 90, 3) := by decide +kernel
theorem dT_bar_42 : decode (Mc mT_bar) 42 = .ok (.aload_n 0, 1) := by decide +kernel
theorem dT_bar_43 : decode (Mc mT_bar) 43 = .ok (.getfield 12, 3) := by decide +kernel
theorem dT_bar_46 : decode (Mc mT_bar) 46 = .ok (.iload_n 2, 1) := by decide +kernel
theorem dT_bar_47 : decode (Mc mT_bar) 47 = .ok (.putfield 93, 3) := by decide +kernel
theorem dT_bar_50 : decode (Mc mT_bar) 50 = .ok (.aload_n 0, 1) := by decide +kernel
theorem dT_bar_51 : decode (Mc mT_bar) 51 = .ok (.getfield 12, 3) := by decide +kernel
theorem dT_bar_54 : decode (Mc mT_bar) 54 = .ok (.iload_n 3, 1) := by decide +kernel
theorem dT_bar_55 : decode (Mc mT_bar) 55 = .ok (.putfield 96, 3) := by decide +kernel
theorem dT_bar_58 : decode (Mc mT_bar) 58 = .ok (.aload_n 0, 1) := by decide +kernel
theorem dT_bar_59 : decode (Mc mT_bar) 59 = .ok (.invokevirtual 99, 3) := by decide +kernel
theorem dT_bar_62 : decode (Mc mT_bar) 62 = .ok (.iconst 1, 1) := by decide +kernel
theorem dT_bar_63 : decode (Mc mT_bar) 63 = .ok (.ireturn, 1) := by decide +kernel
theorem dT_dropPlan_0 : decode (Mc mT_dropPlan) 0 = .ok (.aload_n 0, 1) := by decide +kernel
theorem dT_dropPlan_1 : decode (Mc mT_dropPlan) 1 = .ok (.iconst 0, 1) := by decide +kernel
theorem dT_dropPlan_2 : decode (Mc mT_dropPlan) 2 = .ok (.putfield 79, 3) := by decide +kernel
theorem dT_dropPlan_5 : decode (Mc mT_dropPlan) 5 = .ok (.aload_n 0, 1) := by decide +kernel
theorem dT_dropPlan_6 : decode (Mc mT_dropPlan) 6 = .ok (.getfield 45, 3) := by decide +kernel
theorem dT_dropPlan_9 : decode (Mc mT_dropPlan) 9 = .ok (.aload_n 0, 1) := by decide +kernel
theorem dT_dropPlan_10 : decode (Mc mT_dropPlan) 10 = .ok (.getfield 12, 3) := by decide +kernel
theorem dT_dropPlan_13 : decode (Mc mT_dropPlan) 13 = .ok (.invokevirtual 87, 3) := by decide +kernel
theorem dT_dropPlan_16 : decode (Mc mT_dropPlan) 16 = .ok (.return_, 1) := by decide +kernel
theorem dT_profile_0 : decode (Mc mT_profile) 0 = .ok (.iload_n 1, 1) := by decide +kernel
theorem dT_profile_1 : decode (Mc mT_profile) 1 = .ok (.ifCond .lt 19, 3) := by decide +kernel
theorem dT_profile_4 : decode (Mc mT_profile) 4 = .ok (.iload_n 1, 1) := by decide +kernel
theorem dT_profile_5 : decode (Mc mT_profile) 5 = .ok (.bipush 12, 2) := by decide +kernel
theorem dT_profile_7 : decode (Mc mT_profile) 7 = .ok (.if_icmp .ge 13, 3) := by decide +kernel
theorem dT_profile_10 : decode (Mc mT_profile) 10 = .ok (.iload_n 2, 1) := by decide +kernel
theorem dT_profile_11 : decode (Mc mT_profile) 11 = .ok (.ifCond .lt 9, 3) := by decide +kernel
theorem dT_profile_14 : decode (Mc mT_profile) 14 = .ok (.iload_n 2, 1) := by decide +kernel
theorem dT_profile_15 : decode (Mc mT_profile) 15 = .ok (.bipush 8, 2) := by decide +kernel
theorem dT_profile_17 : decode (Mc mT_profile) 17 = .ok (.if_icmp .le 5, 3) := by decide +kernel
theorem dT_profile_20 : decode (Mc mT_profile) 20 = .ok (.iconst 0, 1) := by decide +kernel
theorem dT_profile_21 : decode (Mc mT_profile) 21 = .ok (.ireturn, 1) := by decide +kernel
theorem dT_profile_22 : decode (Mc mT_profile) 22 = .ok (.aload_n 0, 1) := by decide +kernel
theorem dT_profile_23 : decode (Mc mT_profile) 23 = .ok (.getfield 12, 3) := by decide +kernel
theorem dT_profile_26 : decode (Mc mT_profile) 26 = .ok (.getfield 102, 3) := by decide +kernel
theorem dT_profile_29 : decode (Mc mT_profile) 29 = .ok (.iload_n 1, 1) := by decide +kernel
theorem dT_profile_30 : decode (Mc mT_profile) 30 = .ok (.iload_n 2, 1) := by decide +kernel
theorem dT_profile_31 : decode (Mc mT_profile) 31 = .ok (.iastore, 1) := by decide +kernel
theorem dT_profile_32 : decode (Mc mT_profile) 32 = .ok (.aload_n 0, 1) := by decide +kernel
theorem dT_profile_33 : decode (Mc mT_profile) 33 = .ok (.invokevirtual 99, 3) := by decide +kernel
theorem dT_profile_36 : decode (Mc mT_profile) 36 = .ok (.iconst 1, 1) := by decide +kernel
theorem dT_profile_37 : decode (Mc mT_profile) 37 = .ok (.ireturn, 1) := by decide +kernel
theorem dT_spot_0 : decode (Mc mT_spot) 0 = .ok (.iload_n 1, 1) := by decide +kernel
theorem dT_spot_1 : decode (Mc mT_spot) 1 = .ok (.invokestatic 106, 3) := by decide +kernel
theorem dT_spot_4 : decode (Mc mT_spot) 4 = .ok (.ifCond .eq 23, 3) := by decide +kernel
theorem dT_spot_7 : decode (Mc mT_spot) 7 = .ok (.iload_n 2, 1) := by decide +kernel
theorem dT_spot_8 : decode (Mc mT_spot) 8 = .ok (.bipush (-2), 2) := by decide +kernel
theorem dT_spot_10 : decode (Mc mT_spot) 10 = .ok (.if_icmp .lt 17, 3) := by decide +kernel
theorem dT_spot_13 : decode (Mc mT_spot) 13 = .ok (.iload_n 2, 1) := by decide +kernel
theorem dT_spot_14 : decode (Mc mT_spot) 14 = .ok (.iconst 2, 1) := by decide +kernel
theorem dT_spot_15 : decode (Mc mT_spot) 15 = .ok (.if_icmp .gt 12, 3) := by decide +kernel
theorem dT_spot_18 : decode (Mc mT_spot) 18 = .ok (.iload_n 3, 1) := by decide +kernel
theorem dT_spot_19 : decode (Mc mT_spot) 19 = .ok (.ifCond .lt 8, 3) := by decide +kernel
theorem dT_spot_22 : decode (Mc mT_spot) 22 = .ok (.iload_n 3, 1) := by decide +kernel
theorem dT_spot_23 : decode (Mc mT_spot) 23 = .ok (.iconst 4, 1) := by decide +kernel
theorem dT_spot_24 : decode (Mc mT_spot) 24 = .ok (.if_icmp .le 5, 3) := by decide +kernel
theorem dT_spot_27 : decode (Mc mT_spot) 27 = .ok (.iconst 0, 1) := by decide +kernel
theorem dT_spot_28 : decode (Mc mT_spot) 28 = .ok (.ireturn, 1) := by decide +kernel
theorem dT_spot_29 : decode (Mc mT_spot) 29 = .ok (.aload_n 0, 1) := by decide +kernel
theorem dT_spot_30 : decode (Mc mT_spot) 30 = .ok (.getfield 19, 3) := by decide +kernel
theorem dT_spot_33 : decode (Mc mT_spot) 33 = .ok (.iload_n 1, 1) := by decide +kernel
theorem dT_spot_34 : decode (Mc mT_spot) 34 = .ok (.aaload, 1) := by decide +kernel
theorem dT_spot_35 : decode (Mc mT_spot) 35 = .ok (.iload_n 2, 1) := by decide +kernel
theorem dT_spot_36 : decode (Mc mT_spot) 36 = .ok (.iload_n 3, 1) := by decide +kernel
theorem dT_spot_37 : decode (Mc mT_spot) 37 = .ok (.invokevirtual 110, 3) := by decide +kernel
theorem dT_spot_40 : decode (Mc mT_spot) 40 = .ok (.ifCond .ne 5, 3) := by decide +kernel
theorem dT_spot_43 : decode (Mc mT_spot) 43 = .ok (.iconst 0, 1) := by decide +kernel
theorem dT_spot_44 : decode (Mc mT_spot) 44 = .ok (.ireturn, 1) := by decide +kernel
theorem dT_spot_45 : decode (Mc mT_spot) 45 = .ok (.aload_n 0, 1) := by decide +kernel
theorem dT_spot_46 : decode (Mc mT_spot) 46 = .ok (.invokevirtual 99, 3) := by decide +kernel
theorem dT_spot_49 : decode (Mc mT_spot) 49 = .ok (.iconst 1, 1) := by decide +kernel
theorem dT_spot_50 : decode (Mc mT_spot) 50 = .ok (.ireturn, 1) := by decide +kernel
theorem dT_isInsert_0 : decode (Mc mT_isInsert) 0 = .ok (.iload_n 0, 1) := by decide +kernel
theorem dT_isInsert_1 : decode (Mc mT_isInsert) 1 = .ok (.ifCond .lt 12, 3) := by decide +kernel
theorem dT_isInsert_4 : decode (Mc mT_isInsert) 4 = .ok (.iload_n 0, 1) := by decide +kernel
theorem dT_isInsert_5 : decode (Mc mT_isInsert) 5 = .ok (.iconst 3, 1) := by decide +kernel
theorem dT_isInsert_6 : decode (Mc mT_isInsert) 6 = .ok (.if_icmp .ge 7, 3) := by decide +kernel
theorem dT_isInsert_9 : decode (Mc mT_isInsert) 9 = .ok (.iconst 1, 1) := by decide +kernel
theorem dT_isInsert_10 : decode (Mc mT_isInsert) 10 = .ok (.goto 4, 3) := by decide +kernel
theorem dT_isInsert_13 : decode (Mc mT_isInsert) 13 = .ok (.iconst 0, 1) := by decide +kernel
theorem dT_isInsert_14 : decode (Mc mT_isInsert) 14 = .ok (.ireturn, 1) := by decide +kernel
theorem dI_addSpot_0 : decode (Mc mI_addSpot) 0 = .ok (.aload_n 0, 1) := by decide +kernel
theorem dI_addSpot_1 : decode (Mc mI_addSpot) 1 = .ok (.getfield 9, 3) := by decide +kernel
theorem dI_addSpot_4 : decode (Mc mI_addSpot) 4 = .ok (.bipush 8, 2) := by decide +kernel
theorem dI_addSpot_6 : decode (Mc mI_addSpot) 6 = .ok (.if_icmp .ge 12, 3) := by decide +kernel
theorem dI_addSpot_9 : decode (Mc mI_addSpot) 9 = .ok (.aload_n 0, 1) := by decide +kernel
theorem dI_addSpot_10 : decode (Mc mI_addSpot) 10 = .ok (.iload_n 1, 1) := by decide +kernel
theorem dI_addSpot_11 : decode (Mc mI_addSpot) 11 = .ok (.iload_n 2, 1) := by decide +kernel
theorem dI_addSpot_12 : decode (Mc mI_addSpot) 12 = .ok (.invokevirtual 22, 3) := by decide +kernel
theorem dI_addSpot_15 : decode (Mc mI_addSpot) 15 = .ok (.ifCond .eq 5, 3) := by decide +kernel
theorem dI_addSpot_18 : decode (Mc mI_addSpot) 18 = .ok (.iconst 0, 1) := by decide +kernel
theorem dI_addSpot_19 : decode (Mc mI_addSpot) 19 = .ok (.ireturn, 1) := by decide +kernel
theorem dI_addSpot_20 : decode (Mc mI_addSpot) 20 = .ok (.aload_n 0, 1) := by decide +kernel
theorem dI_addSpot_21 : decode (Mc mI_addSpot) 21 = .ok (.getfield 15, 3) := by decide +kernel
theorem dI_addSpot_24 : decode (Mc mI_addSpot) 24 = .ok (.aload_n 0, 1) := by decide +kernel
theorem dI_addSpot_25 : decode (Mc mI_addSpot) 25 = .ok (.getfield 9, 3) := by decide +kernel
theorem dI_addSpot_28 : decode (Mc mI_addSpot) 28 = .ok (.iload_n 1, 1) := by decide +kernel
theorem dI_addSpot_29 : decode (Mc mI_addSpot) 29 = .ok (.iastore, 1) := by decide +kernel
theorem dI_addSpot_30 : decode (Mc mI_addSpot) 30 = .ok (.aload_n 0, 1) := by decide +kernel
theorem dI_addSpot_31 : decode (Mc mI_addSpot) 31 = .ok (.getfield 19, 3) := by decide +kernel
theorem dI_addSpot_34 : decode (Mc mI_addSpot) 34 = .ok (.aload_n 0, 1) := by decide +kernel
theorem dI_addSpot_35 : decode (Mc mI_addSpot) 35 = .ok (.getfield 9, 3) := by decide +kernel
theorem dI_addSpot_38 : decode (Mc mI_addSpot) 38 = .ok (.iload_n 2, 1) := by decide +kernel
theorem dI_addSpot_39 : decode (Mc mI_addSpot) 39 = .ok (.iastore, 1) := by decide +kernel
theorem dI_addSpot_40 : decode (Mc mI_addSpot) 40 = .ok (.aload_n 0, 1) := by decide +kernel
theorem dI_addSpot_41 : decode (Mc mI_addSpot) 41 = .ok (.dup, 1) := by decide +kernel
theorem dI_addSpot_42 : decode (Mc mI_addSpot) 42 = .ok (.getfield 9, 3) := by decide +kernel
theorem dI_addSpot_45 : decode (Mc mI_addSpot) 45 = .ok (.iconst 1, 1) := by decide +kernel
theorem dI_addSpot_46 : decode (Mc mI_addSpot) 46 = .ok (.iadd, 1) := by decide +kernel
theorem dI_addSpot_47 : decode (Mc mI_addSpot) 47 = .ok (.putfield 9, 3) := by decide +kernel
theorem dI_addSpot_50 : decode (Mc mI_addSpot) 50 = .ok (.iconst 1, 1) := by decide +kernel
theorem dI_addSpot_51 : decode (Mc mI_addSpot) 51 = .ok (.ireturn, 1) := by decide +kernel
theorem dI_hasSpot_0 : decode (Mc mI_hasSpot) 0 = .ok (.iconst 0, 1) := by decide +kernel
theorem dI_hasSpot_1 : decode (Mc mI_hasSpot) 1 = .ok (.istore_n 3, 1) := by decide +kernel
theorem dI_hasSpot_2 : decode (Mc mI_hasSpot) 2 = .ok (.iload_n 3, 1) := by decide +kernel
theorem dI_hasSpot_3 : decode (Mc mI_hasSpot) 3 = .ok (.aload_n 0, 1) := by decide +kernel
theorem dI_hasSpot_4 : decode (Mc mI_hasSpot) 4 = .ok (.getfield 9, 3) := by decide +kernel
theorem dI_hasSpot_7 : decode (Mc mI_hasSpot) 7 = .ok (.if_icmp .ge 31, 3) := by decide +kernel
theorem dI_hasSpot_10 : decode (Mc mI_hasSpot) 10 = .ok (.aload_n 0, 1) := by decide +kernel
theorem dI_hasSpot_11 : decode (Mc mI_hasSpot) 11 = .ok (.getfield 15, 3) := by decide +kernel
theorem dI_hasSpot_14 : decode (Mc mI_hasSpot) 14 = .ok (.iload_n 3, 1) := by decide +kernel
theorem dI_hasSpot_15 : decode (Mc mI_hasSpot) 15 = .ok (.iaload, 1) := by decide +kernel
theorem dI_hasSpot_16 : decode (Mc mI_hasSpot) 16 = .ok (.iload_n 1, 1) := by decide +kernel
theorem dI_hasSpot_17 : decode (Mc mI_hasSpot) 17 = .ok (.if_icmp .ne 15, 3) := by decide +kernel
theorem dI_hasSpot_20 : decode (Mc mI_hasSpot) 20 = .ok (.aload_n 0, 1) := by decide +kernel
theorem dI_hasSpot_21 : decode (Mc mI_hasSpot) 21 = .ok (.getfield 19, 3) := by decide +kernel
theorem dI_hasSpot_24 : decode (Mc mI_hasSpot) 24 = .ok (.iload_n 3, 1) := by decide +kernel
theorem dI_hasSpot_25 : decode (Mc mI_hasSpot) 25 = .ok (.iaload, 1) := by decide +kernel
theorem dI_hasSpot_26 : decode (Mc mI_hasSpot) 26 = .ok (.iload_n 2, 1) := by decide +kernel
theorem dI_hasSpot_27 : decode (Mc mI_hasSpot) 27 = .ok (.if_icmp .ne 5, 3) := by decide +kernel
theorem dI_hasSpot_30 : decode (Mc mI_hasSpot) 30 = .ok (.iconst 1, 1) := by decide +kernel
theorem dI_hasSpot_31 : decode (Mc mI_hasSpot) 31 = .ok (.ireturn, 1) := by decide +kernel
theorem dI_hasSpot_32 : decode (Mc mI_hasSpot) 32 = .ok (.iinc 3 1, 3) := by decide +kernel
theorem dI_hasSpot_35 : decode (Mc mI_hasSpot) 35 = .ok (.goto (-33), 3) := by decide +kernel
theorem dI_hasSpot_38 : decode (Mc mI_hasSpot) 38 = .ok (.iconst 0, 1) := by decide +kernel
theorem dI_hasSpot_39 : decode (Mc mI_hasSpot) 39 = .ok (.ireturn, 1) := by decide +kernel
theorem dT_clear_0 : decode (Mc mT_clear) 0 = .ok (.iload_n 1, 1) := by decide +kernel
theorem dT_clear_1 : decode (Mc mT_clear) 1 = .ok (.invokestatic 106, 3) := by decide +kernel
theorem dT_clear_4 : decode (Mc mT_clear) 4 = .ok (.ifCond .ne 5, 3) := by decide +kernel
theorem dT_clear_7 : decode (Mc mT_clear) 7 = .ok (.iconst (-1), 1) := by decide +kernel
theorem dT_clear_8 : decode (Mc mT_clear) 8 = .ok (.ireturn, 1) := by decide +kernel
theorem dT_clear_9 : decode (Mc mT_clear) 9 = .ok (.aload_n 0, 1) := by decide +kernel
theorem dT_clear_10 : decode (Mc mT_clear) 10 = .ok (.getfield 19, 3) := by decide +kernel
theorem dT_clear_13 : decode (Mc mT_clear) 13 = .ok (.iload_n 1, 1) := by decide +kernel
theorem dT_clear_14 : decode (Mc mT_clear) 14 = .ok (.aaload, 1) := by decide +kernel
theorem dT_clear_15 : decode (Mc mT_clear) 15 = .ok (.getfield 114, 3) := by decide +kernel
theorem dT_clear_18 : decode (Mc mT_clear) 18 = .ok (.istore_n 2, 1) := by decide +kernel
theorem dT_clear_19 : decode (Mc mT_clear) 19 = .ok (.aload_n 0, 1) := by decide +kernel
theorem dT_clear_20 : decode (Mc mT_clear) 20 = .ok (.getfield 19, 3) := by decide +kernel
theorem dT_clear_23 : decode (Mc mT_clear) 23 = .ok (.iload_n 1, 1) := by decide +kernel
theorem dT_clear_24 : decode (Mc mT_clear) 24 = .ok (.aaload, 1) := by decide +kernel
theorem dT_clear_25 : decode (Mc mT_clear) 25 = .ok (.iconst 0, 1) := by decide +kernel
theorem dT_clear_26 : decode (Mc mT_clear) 26 = .ok (.putfield 114, 3) := by decide +kernel
theorem dT_clear_29 : decode (Mc mT_clear) 29 = .ok (.aload_n 0, 1) := by decide +kernel
theorem dT_clear_30 : decode (Mc mT_clear) 30 = .ok (.invokevirtual 99, 3) := by decide +kernel
theorem dT_clear_33 : decode (Mc mT_clear) 33 = .ok (.iload_n 2, 1) := by decide +kernel
theorem dT_clear_34 : decode (Mc mT_clear) 34 = .ok (.ireturn, 1) := by decide +kernel
theorem dT_choose_0 : decode (Mc mT_choose) 0 = .ok (.iload_n 1, 1) := by decide +kernel
theorem dT_choose_1 : decode (Mc mT_choose) 1 = .ok (.invokestatic 106, 3) := by decide +kernel
theorem dT_choose_4 : decode (Mc mT_choose) 4 = .ok (.ifCond .eq 26, 3) := by decide +kernel
theorem dT_choose_7 : decode (Mc mT_choose) 7 = .ok (.aload_n 0, 1) := by decide +kernel
theorem dT_choose_8 : decode (Mc mT_choose) 8 = .ok (.getfield 19, 3) := by decide +kernel
theorem dT_choose_11 : decode (Mc mT_choose) 11 = .ok (.iload_n 1, 1) := by decide +kernel
theorem dT_choose_12 : decode (Mc mT_choose) 12 = .ok (.aaload, 1) := by decide +kernel
theorem dT_choose_13 : decode (Mc mT_choose) 13 = .ok (.getfield 114, 3) := by decide +kernel
theorem dT_choose_16 : decode (Mc mT_choose) 16 = .ok (.ifCond .eq 14, 3) := by decide +kernel
theorem dT_choose_19 : decode (Mc mT_choose) 19 = .ok (.aload_n 0, 1) := by decide +kernel
theorem dT_choose_20 : decode (Mc mT_choose) 20 = .ok (.getfield 28, 3) := by decide +kernel
theorem dT_choose_23 : decode (Mc mT_choose) 23 = .ok (.getfield 117, 3) := by decide +kernel
theorem dT_choose_26 : decode (Mc mT_choose) 26 = .ok (.iconst 3, 1) := by decide +kernel
theorem dT_choose_27 : decode (Mc mT_choose) 27 = .ok (.if_icmp .lt 5, 3) := by decide +kernel
theorem dT_choose_30 : decode (Mc mT_choose) 30 = .ok (.iconst (-1), 1) := by decide +kernel
theorem dT_choose_31 : decode (Mc mT_choose) 31 = .ok (.ireturn, 1) := by decide +kernel
theorem dT_choose_32 : decode (Mc mT_choose) 32 = .ok (.aload_n 0, 1) := by decide +kernel
theorem dT_choose_33 : decode (Mc mT_choose) 33 = .ok (.getfield 28, 3) := by decide +kernel
theorem dT_choose_36 : decode (Mc mT_choose) 36 = .ok (.iload_n 1, 1) := by decide +kernel
theorem dT_choose_37 : decode (Mc mT_choose) 37 = .ok (.invokevirtual 120, 3) := by decide +kernel
theorem dT_choose_40 : decode (Mc mT_choose) 40 = .ok (.aload_n 0, 1) := by decide +kernel
theorem dT_choose_41 : decode (Mc mT_choose) 41 = .ok (.invokevirtual 99, 3) := by decide +kernel
theorem dT_choose_44 : decode (Mc mT_choose) 44 = .ok (.aload_n 0, 1) := by decide +kernel
theorem dT_choose_45 : decode (Mc mT_choose) 45 = .ok (.getfield 28, 3) := by decide +kernel
theorem dT_choose_48 : decode (Mc mT_choose) 48 = .ok (.getfield 117, 3) := by decide +kernel
theorem dT_choose_51 : decode (Mc mT_choose) 51 = .ok (.ireturn, 1) := by decide +kernel
theorem dJ_append_0 : decode (Mc mJ_append) 0 = .ok (.aload_n 0, 1) := by decide +kernel
theorem dJ_append_1 : decode (Mc mJ_append) 1 = .ok (.getfield 9, 3) := by decide +kernel
theorem dJ_append_4 : decode (Mc mJ_append) 4 = .ok (.aload_n 0, 1) := by decide +kernel
theorem dJ_append_5 : decode (Mc mJ_append) 5 = .ok (.getfield 15, 3) := by decide +kernel
theorem dJ_append_8 : decode (Mc mJ_append) 8 = .ok (.iload_n 1, 1) := by decide +kernel
theorem dJ_append_9 : decode (Mc mJ_append) 9 = .ok (.iastore, 1) := by decide +kernel
theorem dJ_append_10 : decode (Mc mJ_append) 10 = .ok (.aload_n 0, 1) := by decide +kernel
theorem dJ_append_11 : decode (Mc mJ_append) 11 = .ok (.dup, 1) := by decide +kernel
theorem dJ_append_12 : decode (Mc mJ_append) 12 = .ok (.getfield 15, 3) := by decide +kernel
theorem dJ_append_15 : decode (Mc mJ_append) 15 = .ok (.iconst 1, 1) := by decide +kernel
theorem dJ_append_16 : decode (Mc mJ_append) 16 = .ok (.iadd, 1) := by decide +kernel
theorem dJ_append_17 : decode (Mc mJ_append) 17 = .ok (.putfield 15, 3) := by decide +kernel
theorem dJ_append_20 : decode (Mc mJ_append) 20 = .ok (.return_, 1) := by decide +kernel
theorem dT_restart_0 : decode (Mc mT_restart) 0 = .ok (.aload_n 0, 1) := by decide +kernel
theorem dT_restart_1 : decode (Mc mT_restart) 1 = .ok (.getfield 28, 3) := by decide +kernel
theorem dT_restart_4 : decode (Mc mT_restart) 4 = .ok (.getfield 117, 3) := by decide +kernel
theorem dT_restart_7 : decode (Mc mT_restart) 7 = .ok (.istore_n 1, 1) := by decide +kernel
theorem dT_restart_8 : decode (Mc mT_restart) 8 = .ok (.aload_n 0, 1) := by decide +kernel
theorem dT_restart_9 : decode (Mc mT_restart) 9 = .ok (.getfield 28, 3) := by decide +kernel
theorem dT_restart_12 : decode (Mc mT_restart) 12 = .ok (.iconst 0, 1) := by decide +kernel
theorem dT_restart_13 : decode (Mc mT_restart) 13 = .ok (.putfield 117, 3) := by decide +kernel
theorem dT_restart_16 : decode (Mc mT_restart) 16 = .ok (.aload_n 0, 1) := by decide +kernel
theorem dT_restart_17 : decode (Mc mT_restart) 17 = .ok (.invokevirtual 99, 3) := by decide +kernel
theorem dT_restart_20 : decode (Mc mT_restart) 20 = .ok (.iload_n 1, 1) := by decide +kernel
theorem dT_restart_21 : decode (Mc mT_restart) 21 = .ok (.ireturn, 1) := by decide +kernel
theorem dT_at_0 : decode (Mc mT_at) 0 = .ok (.iload_n 1, 1) := by decide +kernel
theorem dT_at_1 : decode (Mc mT_at) 1 = .ok (.invokestatic 106, 3) := by decide +kernel
theorem dT_at_4 : decode (Mc mT_at) 4 = .ok (.ifCond .eq 11, 3) := by decide +kernel
theorem dT_at_7 : decode (Mc mT_at) 7 = .ok (.iload_n 2, 1) := by decide +kernel
theorem dT_at_8 : decode (Mc mT_at) 8 = .ok (.iload_n 3, 1) := by decide +kernel
theorem dT_at_9 : decode (Mc mT_at) 9 = .ok (.invokestatic 124, 3) := by decide +kernel
theorem dT_at_12 : decode (Mc mT_at) 12 = .ok (.ifCond .ne 5, 3) := by decide +kernel
theorem dT_at_15 : decode (Mc mT_at) 15 = .ok (.iconst 0, 1) := by decide +kernel
theorem dT_at_16 : decode (Mc mT_at) 16 = .ok (.ireturn, 1) := by decide +kernel
theorem dT_at_17 : decode (Mc mT_at) 17 = .ok (.aload_n 0, 1) := by decide +kernel
theorem dT_at_18 : decode (Mc mT_at) 18 = .ok (.getfield 19, 3) := by decide +kernel
theorem dT_at_21 : decode (Mc mT_at) 21 = .ok (.iload_n 1, 1) := by decide +kernel
theorem dT_at_22 : decode (Mc mT_at) 22 = .ok (.aaload, 1) := by decide +kernel
theorem dT_at_23 : decode (Mc mT_at) 23 = .ok (.astore 5, 2) := by decide +kernel
theorem dT_at_25 : decode (Mc mT_at) 25 = .ok (.iload 4, 2) := by decide +kernel
theorem dT_at_27 : decode (Mc mT_at) 27 = .ok (.tableswitch 74 0 2 #[25, 37, 62], 25) := by decide +kernel
theorem dT_at_52 : decode (Mc mT_at) 52 = .ok (.aload 5, 2) := by decide +kernel
theorem dT_at_54 : decode (Mc mT_at) 54 = .ok (.aload_n 0, 1) := by decide +kernel
theorem dT_at_55 : decode (Mc mT_at) 55 = .ok (.getfield 12, 3) := by decide +kernel
theorem dT_at_58 : decode (Mc mT_at) 58 = .ok (.iload_n 2, 1) := by decide +kernel
theorem dT_at_59 : decode (Mc mT_at) 59 = .ok (.iload_n 3, 1) := by decide +kernel
theorem dT_at_60 : decode (Mc mT_at) 60 = .ok (.invokevirtual 127, 3) := by decide +kernel
theorem dT_at_63 : decode (Mc mT_at) 63 = .ok (.ireturn, 1) := by decide +kernel
theorem dT_at_64 : decode (Mc mT_at) 64 = .ok (.aload 5, 2) := by decide +kernel
theorem dT_at_66 : decode (Mc mT_at) 66 = .ok (.getfield 114, 3) := by decide +kernel
theorem dT_at_69 : decode (Mc mT_at) 69 = .ok (.ifCond .le 18, 3) := by decide +kernel
theorem dT_at_72 : decode (Mc mT_at) 72 = .ok (.aload_n 0, 1) := by decide +kernel
theorem dT_at_73 : decode (Mc mT_at) 73 = .ok (.aload 5, 2) := by decide +kernel
theorem dT_at_75 : decode (Mc mT_at) 75 = .ok (.iload_n 2, 1) := by decide +kernel
theorem dT_at_76 : decode (Mc mT_at) 76 = .ok (.iload_n 3, 1) := by decide +kernel
theorem dT_at_77 : decode (Mc mT_at) 77 = .ok (.invokevirtual 131, 3) := by decide +kernel
theorem dT_at_80 : decode (Mc mT_at) 80 = .ok (.ifCond .eq 7, 3) := by decide +kernel
theorem dT_at_83 : decode (Mc mT_at) 83 = .ok (.iconst 1, 1) := by decide +kernel
theorem dT_at_84 : decode (Mc mT_at) 84 = .ok (.goto 4, 3) := by decide +kernel
theorem dT_at_87 : decode (Mc mT_at) 87 = .ok (.iconst 0, 1) := by decide +kernel
theorem dT_at_88 : decode (Mc mT_at) 88 = .ok (.ireturn, 1) := by decide +kernel
theorem dT_at_89 : decode (Mc mT_at) 89 = .ok (.aload 5, 2) := by decide +kernel
theorem dT_at_91 : decode (Mc mT_at) 91 = .ok (.aload_n 0, 1) := by decide +kernel
theorem dT_at_92 : decode (Mc mT_at) 92 = .ok (.getfield 12, 3) := by decide +kernel
theorem dT_at_95 : decode (Mc mT_at) 95 = .ok (.iload_n 2, 1) := by decide +kernel
theorem dT_at_96 : decode (Mc mT_at) 96 = .ok (.iload_n 3, 1) := by decide +kernel
theorem dT_at_97 : decode (Mc mT_at) 97 = .ok (.invokevirtual 135, 3) := by decide +kernel
theorem dT_at_100 : decode (Mc mT_at) 100 = .ok (.ireturn, 1) := by decide +kernel
theorem dT_at_101 : decode (Mc mT_at) 101 = .ok (.iconst 0, 1) := by decide +kernel
theorem dT_at_102 : decode (Mc mT_at) 102 = .ok (.ireturn, 1) := by decide +kernel
theorem dT_isPosition_0 : decode (Mc mT_isPosition) 0 = .ok (.iload_n 0, 1) := by decide +kernel
theorem dT_isPosition_1 : decode (Mc mT_isPosition) 1 = .ok (.bipush (-4), 2) := by decide +kernel
theorem dT_isPosition_3 : decode (Mc mT_isPosition) 3 = .ok (.if_icmp .lt 23, 3) := by decide +kernel
theorem dT_isPosition_6 : decode (Mc mT_isPosition) 6 = .ok (.iload_n 0, 1) := by decide +kernel
theorem dT_isPosition_7 : decode (Mc mT_isPosition) 7 = .ok (.bipush 16, 2) := by decide +kernel
theorem dT_isPosition_9 : decode (Mc mT_isPosition) 9 = .ok (.if_icmp .ge 17, 3) := by decide +kernel
theorem dT_isPosition_12 : decode (Mc mT_isPosition) 12 = .ok (.iload_n 1, 1) := by decide +kernel
theorem dT_isPosition_13 : decode (Mc mT_isPosition) 13 = .ok (.ifCond .lt 13, 3) := by decide +kernel
theorem dT_isPosition_16 : decode (Mc mT_isPosition) 16 = .ok (.iload_n 1, 1) := by decide +kernel
theorem dT_isPosition_17 : decode (Mc mT_isPosition) 17 = .ok (.bipush 16, 2) := by decide +kernel
theorem dT_isPosition_19 : decode (Mc mT_isPosition) 19 = .ok (.if_icmp .ge 7, 3) := by decide +kernel
theorem dT_isPosition_22 : decode (Mc mT_isPosition) 22 = .ok (.iconst 1, 1) := by decide +kernel
theorem dT_isPosition_23 : decode (Mc mT_isPosition) 23 = .ok (.goto 4, 3) := by decide +kernel
theorem dT_isPosition_26 : decode (Mc mT_isPosition) 26 = .ok (.iconst 0, 1) := by decide +kernel
theorem dT_isPosition_27 : decode (Mc mT_isPosition) 27 = .ok (.ireturn, 1) := by decide +kernel
theorem dI_isSafe_0 : decode (Mc mI_isSafe) 0 = .ok (.iconst 0, 1) := by decide +kernel
theorem dI_isSafe_1 : decode (Mc mI_isSafe) 1 = .ok (.istore 4, 2) := by decide +kernel
theorem dI_isSafe_3 : decode (Mc mI_isSafe) 3 = .ok (.iload 4, 2) := by decide +kernel
theorem dI_isSafe_5 : decode (Mc mI_isSafe) 5 = .ok (.aload_n 0, 1) := by decide +kernel
theorem dI_isSafe_6 : decode (Mc mI_isSafe) 6 = .ok (.getfield 9, 3) := by decide +kernel
theorem dI_isSafe_9 : decode (Mc mI_isSafe) 9 = .ok (.if_icmp .ge 36, 3) := by decide +kernel
theorem dI_isSafe_12 : decode (Mc mI_isSafe) 12 = .ok (.aload_n 1, 1) := by decide +kernel
theorem dI_isSafe_13 : decode (Mc mI_isSafe) 13 = .ok (.iload_n 2, 1) := by decide +kernel
theorem dI_isSafe_14 : decode (Mc mI_isSafe) 14 = .ok (.aload_n 0, 1) := by decide +kernel
theorem dI_isSafe_15 : decode (Mc mI_isSafe) 15 = .ok (.getfield 15, 3) := by decide +kernel
theorem dI_isSafe_18 : decode (Mc mI_isSafe) 18 = .ok (.iload 4, 2) := by decide +kernel
theorem dI_isSafe_20 : decode (Mc mI_isSafe) 20 = .ok (.iaload, 1) := by decide +kernel
theorem dI_isSafe_21 : decode (Mc mI_isSafe) 21 = .ok (.iadd, 1) := by decide +kernel
theorem dI_isSafe_22 : decode (Mc mI_isSafe) 22 = .ok (.iload_n 3, 1) := by decide +kernel
theorem dI_isSafe_23 : decode (Mc mI_isSafe) 23 = .ok (.aload_n 0, 1) := by decide +kernel
theorem dI_isSafe_24 : decode (Mc mI_isSafe) 24 = .ok (.getfield 19, 3) := by decide +kernel
theorem dI_isSafe_27 : decode (Mc mI_isSafe) 27 = .ok (.iload 4, 2) := by decide +kernel
theorem dI_isSafe_29 : decode (Mc mI_isSafe) 29 = .ok (.iaload, 1) := by decide +kernel
theorem dI_isSafe_30 : decode (Mc mI_isSafe) 30 = .ok (.iadd, 1) := by decide +kernel
theorem dI_isSafe_31 : decode (Mc mI_isSafe) 31 = .ok (.invokevirtual 26, 3) := by decide +kernel
theorem dI_isSafe_34 : decode (Mc mI_isSafe) 34 = .ok (.ifCond .ne 5, 3) := by decide +kernel
theorem dI_isSafe_37 : decode (Mc mI_isSafe) 37 = .ok (.iconst 0, 1) := by decide +kernel
theorem dI_isSafe_38 : decode (Mc mI_isSafe) 38 = .ok (.ireturn, 1) := by decide +kernel
theorem dI_isSafe_39 : decode (Mc mI_isSafe) 39 = .ok (.iinc 4 1, 3) := by decide +kernel
theorem dI_isSafe_42 : decode (Mc mI_isSafe) 42 = .ok (.goto (-39), 3) := by decide +kernel
theorem dI_isSafe_45 : decode (Mc mI_isSafe) 45 = .ok (.iconst 1, 1) := by decide +kernel
theorem dI_isSafe_46 : decode (Mc mI_isSafe) 46 = .ok (.ireturn, 1) := by decide +kernel
theorem dB_isFreeFromOn_0 : decode (Mc mB_isFreeFromOn) 0 = .ok (.iload_n 1, 1) := by decide +kernel
theorem dB_isFreeFromOn_1 : decode (Mc mB_isFreeFromOn) 1 = .ok (.aload_n 0, 1) := by decide +kernel
theorem dB_isFreeFromOn_2 : decode (Mc mB_isFreeFromOn) 2 = .ok (.getfield 18, 3) := by decide +kernel
theorem dB_isFreeFromOn_5 : decode (Mc mB_isFreeFromOn) 5 = .ok (.if_icmp .lt 5, 3) := by decide +kernel
theorem dB_isFreeFromOn_8 : decode (Mc mB_isFreeFromOn) 8 = .ok (.iconst 0, 1) := by decide +kernel
theorem dB_isFreeFromOn_9 : decode (Mc mB_isFreeFromOn) 9 = .ok (.ireturn, 1) := by decide +kernel
theorem dB_isFreeFromOn_10 : decode (Mc mB_isFreeFromOn) 10 = .ok (.iload_n 1, 1) := by decide +kernel
theorem dB_isFreeFromOn_11 : decode (Mc mB_isFreeFromOn) 11 = .ok (.ifCond .lt 19, 3) := by decide +kernel
theorem dB_isFreeFromOn_14 : decode (Mc mB_isFreeFromOn) 14 = .ok (.iload_n 1, 1) := by decide +kernel
theorem dB_isFreeFromOn_15 : decode (Mc mB_isFreeFromOn) 15 = .ok (.bipush 12, 2) := by decide +kernel
theorem dB_isFreeFromOn_17 : decode (Mc mB_isFreeFromOn) 17 = .ok (.if_icmp .ge 13, 3) := by decide +kernel
theorem dB_isFreeFromOn_20 : decode (Mc mB_isFreeFromOn) 20 = .ok (.iload_n 2, 1) := by decide +kernel
theorem dB_isFreeFromOn_21 : decode (Mc mB_isFreeFromOn) 21 = .ok (.aload_n 0, 1) := by decide +kernel
theorem dB_isFreeFromOn_22 : decode (Mc mB_isFreeFromOn) 22 = .ok (.getfield 21, 3) := by decide +kernel
theorem dB_isFreeFromOn_25 : decode (Mc mB_isFreeFromOn) 25 = .ok (.iload_n 1, 1) := by decide +kernel
theorem dB_isFreeFromOn_26 : decode (Mc mB_isFreeFromOn) 26 = .ok (.iaload, 1) := by decide +kernel
theorem dB_isFreeFromOn_27 : decode (Mc mB_isFreeFromOn) 27 = .ok (.if_icmp .lt 7, 3) := by decide +kernel
theorem dB_isFreeFromOn_30 : decode (Mc mB_isFreeFromOn) 30 = .ok (.iconst 1, 1) := by decide +kernel
theorem dB_isFreeFromOn_31 : decode (Mc mB_isFreeFromOn) 31 = .ok (.goto 4, 3) := by decide +kernel
theorem dB_isFreeFromOn_34 : decode (Mc mB_isFreeFromOn) 34 = .ok (.iconst 0, 1) := by decide +kernel
theorem dB_isFreeFromOn_35 : decode (Mc mB_isFreeFromOn) 35 = .ok (.ireturn, 1) := by decide +kernel
theorem dT_isInReach_0 : decode (Mc mT_isInReach) 0 = .ok (.aload_n 0, 1) := by decide +kernel
theorem dT_isInReach_1 : decode (Mc mT_isInReach) 1 = .ok (.getfield 57, 3) := by decide +kernel
theorem dT_isInReach_4 : decode (Mc mT_isInReach) 4 = .ok (.aload_n 1, 1) := by decide +kernel
theorem dT_isInReach_5 : decode (Mc mT_isInReach) 5 = .ok (.invokevirtual 141, 3) := by decide +kernel
theorem dT_isInReach_8 : decode (Mc mT_isInReach) 8 = .ok (.aload_n 0, 1) := by decide +kernel
theorem dT_isInReach_9 : decode (Mc mT_isInReach) 9 = .ok (.getfield 57, 3) := by decide +kernel
theorem dT_isInReach_12 : decode (Mc mT_isInReach) 12 = .ok (.iload_n 2, 1) := by decide +kernel
theorem dT_isInReach_13 : decode (Mc mT_isInReach) 13 = .ok (.iload_n 3, 1) := by decide +kernel
theorem dT_isInReach_14 : decode (Mc mT_isInReach) 14 = .ok (.invokestatic 151, 3) := by decide +kernel
theorem dT_isInReach_17 : decode (Mc mT_isInReach) 17 = .ok (.invokevirtual 155, 3) := by decide +kernel
theorem dT_isInReach_20 : decode (Mc mT_isInReach) 20 = .ok (.ireturn, 1) := by decide +kernel
theorem dW_exploreFromHome_0 : decode (Mc mW_exploreFromHome) 0 = .ok (.aload_n 0, 1) := by decide +kernel
theorem dW_exploreFromHome_1 : decode (Mc mW_exploreFromHome) 1 = .ok (.bipush 15, 2) := by decide +kernel
theorem dW_exploreFromHome_3 : decode (Mc mW_exploreFromHome) 3 = .ok (.invokevirtual 29, 3) := by decide +kernel
theorem dW_exploreFromHome_6 : decode (Mc mW_exploreFromHome) 6 = .ok (.iconst 0, 1) := by decide +kernel
theorem dW_exploreFromHome_7 : decode (Mc mW_exploreFromHome) 7 = .ok (.istore_n 2, 1) := by decide +kernel
theorem dW_exploreFromHome_8 : decode (Mc mW_exploreFromHome) 8 = .ok (.iload_n 2, 1) := by decide +kernel
theorem dW_exploreFromHome_9 : decode (Mc mW_exploreFromHome) 9 = .ok (.aload_n 0, 1) := by decide +kernel
theorem dW_exploreFromHome_10 : decode (Mc mW_exploreFromHome) 10 = .ok (.getfield 21, 3) := by decide +kernel
theorem dW_exploreFromHome_13 : decode (Mc mW_exploreFromHome) 13 = .ok (.if_icmp .ge 27, 3) := by decide +kernel
theorem dW_exploreFromHome_16 : decode (Mc mW_exploreFromHome) 16 = .ok (.iload_n 2, 1) := by decide +kernel
theorem dW_exploreFromHome_17 : decode (Mc mW_exploreFromHome) 17 = .ok (.sipush 320, 3) := by decide +kernel
theorem dW_exploreFromHome_20 : decode (Mc mW_exploreFromHome) 20 = .ok (.if_icmp .ge 20, 3) := by decide +kernel
theorem dW_exploreFromHome_23 : decode (Mc mW_exploreFromHome) 23 = .ok (.aload_n 0, 1) := by decide +kernel
theorem dW_exploreFromHome_24 : decode (Mc mW_exploreFromHome) 24 = .ok (.aload_n 1, 1) := by decide +kernel
theorem dW_exploreFromHome_25 : decode (Mc mW_exploreFromHome) 25 = .ok (.aload_n 0, 1) := by decide +kernel
theorem dW_exploreFromHome_26 : decode (Mc mW_exploreFromHome) 26 = .ok (.getfield 9, 3) := by decide +kernel
theorem dW_exploreFromHome_29 : decode (Mc mW_exploreFromHome) 29 = .ok (.iload_n 2, 1) := by decide +kernel
theorem dW_exploreFromHome_30 : decode (Mc mW_exploreFromHome) 30 = .ok (.iaload, 1) := by decide +kernel
theorem dW_exploreFromHome_31 : decode (Mc mW_exploreFromHome) 31 = .ok (.invokevirtual 33, 3) := by decide +kernel
theorem dW_exploreFromHome_34 : decode (Mc mW_exploreFromHome) 34 = .ok (.iinc 2 1, 3) := by decide +kernel
theorem dW_exploreFromHome_37 : decode (Mc mW_exploreFromHome) 37 = .ok (.goto (-29), 3) := by decide +kernel
theorem dW_exploreFromHome_40 : decode (Mc mW_exploreFromHome) 40 = .ok (.return_, 1) := by decide +kernel
theorem dW_begin_0 : decode (Mc mW_begin) 0 = .ok (.aload_n 0, 1) := by decide +kernel
theorem dW_begin_1 : decode (Mc mW_begin) 1 = .ok (.getfield 15, 3) := by decide +kernel
theorem dW_begin_4 : decode (Mc mW_begin) 4 = .ok (.iconst (-1), 1) := by decide +kernel
theorem dW_begin_5 : decode (Mc mW_begin) 5 = .ok (.invokestatic 65, 3) := by decide +kernel
theorem dW_begin_8 : decode (Mc mW_begin) 8 = .ok (.aload_n 0, 1) := by decide +kernel
theorem dW_begin_9 : decode (Mc mW_begin) 9 = .ok (.getfield 15, 3) := by decide +kernel
theorem dW_begin_12 : decode (Mc mW_begin) 12 = .ok (.iload_n 1, 1) := by decide +kernel
theorem dW_begin_13 : decode (Mc mW_begin) 13 = .ok (.iconst 0, 1) := by decide +kernel
theorem dW_begin_14 : decode (Mc mW_begin) 14 = .ok (.iastore, 1) := by decide +kernel
theorem dW_begin_15 : decode (Mc mW_begin) 15 = .ok (.aload_n 0, 1) := by decide +kernel
theorem dW_begin_16 : decode (Mc mW_begin) 16 = .ok (.getfield 9, 3) := by decide +kernel
theorem dW_begin_19 : decode (Mc mW_begin) 19 = .ok (.iconst 0, 1) := by decide +kernel
theorem dW_begin_20 : decode (Mc mW_begin) 20 = .ok (.iload_n 1, 1) := by decide +kernel
theorem dW_begin_21 : decode (Mc mW_begin) 21 = .ok (.iastore, 1) := by decide +kernel
theorem dW_begin_22 : decode (Mc mW_begin) 22 = .ok (.aload_n 0, 1) := by decide +kernel
theorem dW_begin_23 : decode (Mc mW_begin) 23 = .ok (.iconst 1, 1) := by decide +kernel
theorem dW_begin_24 : decode (Mc mW_begin) 24 = .ok (.putfield 21, 3) := by decide +kernel
theorem dW_begin_27 : decode (Mc mW_begin) 27 = .ok (.return_, 1) := by decide +kernel
theorem dA_fill_0 : decode (Mc mA_fill) 0 = .ok (.iconst 0, 1) := by decide +kernel
theorem dA_fill_1 : decode (Mc mA_fill) 1 = .ok (.istore_n 2, 1) := by decide +kernel
theorem dA_fill_2 : decode (Mc mA_fill) 2 = .ok (.aload_n 0, 1) := by decide +kernel
theorem dA_fill_3 : decode (Mc mA_fill) 3 = .ok (.arraylength, 1) := by decide +kernel
theorem dA_fill_4 : decode (Mc mA_fill) 4 = .ok (.istore_n 3, 1) := by decide +kernel
theorem dA_fill_5 : decode (Mc mA_fill) 5 = .ok (.iload_n 2, 1) := by decide +kernel
theorem dA_fill_6 : decode (Mc mA_fill) 6 = .ok (.iload_n 3, 1) := by decide +kernel
theorem dA_fill_7 : decode (Mc mA_fill) 7 = .ok (.if_icmp .ge 13, 3) := by decide +kernel
theorem dA_fill_10 : decode (Mc mA_fill) 10 = .ok (.aload_n 0, 1) := by decide +kernel
theorem dA_fill_11 : decode (Mc mA_fill) 11 = .ok (.iload_n 2, 1) := by decide +kernel
theorem dA_fill_12 : decode (Mc mA_fill) 12 = .ok (.iload_n 1, 1) := by decide +kernel
theorem dA_fill_13 : decode (Mc mA_fill) 13 = .ok (.iastore, 1) := by decide +kernel
theorem dA_fill_14 : decode (Mc mA_fill) 14 = .ok (.iinc 2 1, 3) := by decide +kernel
theorem dA_fill_17 : decode (Mc mA_fill) 17 = .ok (.goto (-12), 3) := by decide +kernel
theorem dA_fill_20 : decode (Mc mA_fill) 20 = .ok (.return_, 1) := by decide +kernel
theorem dW_spread_0 : decode (Mc mW_spread) 0 = .ok (.iconst 0, 1) := by decide +kernel
theorem dW_spread_1 : decode (Mc mW_spread) 1 = .ok (.istore_n 3, 1) := by decide +kernel
theorem dW_spread_2 : decode (Mc mW_spread) 2 = .ok (.iload_n 3, 1) := by decide +kernel
theorem dW_spread_3 : decode (Mc mW_spread) 3 = .ok (.iconst 4, 1) := by decide +kernel
theorem dW_spread_4 : decode (Mc mW_spread) 4 = .ok (.if_icmp .ge 125, 3) := by decide +kernel
theorem dW_spread_7 : decode (Mc mW_spread) 7 = .ok (.iload_n 2, 1) := by decide +kernel
theorem dW_spread_8 : decode (Mc mW_spread) 8 = .ok (.invokestatic 37, 3) := by decide +kernel
theorem dW_spread_11 : decode (Mc mW_spread) 11 = .ok (.getstatic 56, 3) := by decide +kernel
theorem dW_spread_14 : decode (Mc mW_spread) 14 = .ok (.iload_n 3, 1) := by decide +kernel
theorem dW_spread_15 : decode (Mc mW_spread) 15 = .ok (.iaload, 1) := by decide +kernel
theorem dW_spread_16 : decode (Mc mW_spread) 16 = .ok (.iadd, 1) := by decide +kernel
theorem dW_spread_17 : decode (Mc mW_spread) 17 = .ok (.istore 4, 2) := by decide +kernel
theorem dW_spread_19 : decode (Mc mW_spread) 19 = .ok (.iload_n 2, 1) := by decide +kernel
theorem dW_spread_20 : decode (Mc mW_spread) 20 = .ok (.invokestatic 41, 3) := by decide +kernel
theorem dW_spread_23 : decode (Mc mW_spread) 23 = .ok (.getstatic 59, 3) := by decide +kernel
theorem dW_spread_26 : decode (Mc mW_spread) 26 = .ok (.iload_n 3, 1) := by decide +kernel
theorem dW_spread_27 : decode (Mc mW_spread) 27 = .ok (.iaload, 1) := by decide +kernel
theorem dW_spread_28 : decode (Mc mW_spread) 28 = .ok (.iadd, 1) := by decide +kernel
theorem dW_spread_29 : decode (Mc mW_spread) 29 = .ok (.istore 5, 2) := by decide +kernel
theorem dW_spread_31 : decode (Mc mW_spread) 31 = .ok (.iload 4, 2) := by decide +kernel
theorem dW_spread_33 : decode (Mc mW_spread) 33 = .ok (.iload 5, 2) := by decide +kernel
theorem dW_spread_35 : decode (Mc mW_spread) 35 = .ok (.invokestatic 71, 3) := by decide +kernel
theorem dW_spread_38 : decode (Mc mW_spread) 38 = .ok (.ifCond .eq 85, 3) := by decide +kernel
theorem dW_spread_41 : decode (Mc mW_spread) 41 = .ok (.aload_n 0, 1) := by decide +kernel
theorem dW_spread_42 : decode (Mc mW_spread) 42 = .ok (.iload 4, 2) := by decide +kernel
theorem dW_spread_44 : decode (Mc mW_spread) 44 = .ok (.iload 5, 2) := by decide +kernel
theorem dW_spread_46 : decode (Mc mW_spread) 46 = .ok (.invokestatic 62, 3) := by decide +kernel
theorem dW_spread_49 : decode (Mc mW_spread) 49 = .ok (.invokevirtual 75, 3) := by decide +kernel
theorem dW_spread_52 : decode (Mc mW_spread) 52 = .ok (.ifCond .ne 71, 3) := by decide +kernel
theorem dW_spread_55 : decode (Mc mW_spread) 55 = .ok (.aload_n 1, 1) := by decide +kernel
theorem dW_spread_56 : decode (Mc mW_spread) 56 = .ok (.aload_n 0, 1) := by decide +kernel
theorem dW_spread_57 : decode (Mc mW_spread) 57 = .ok (.getfield 25, 3) := by decide +kernel
theorem dW_spread_60 : decode (Mc mW_spread) 60 = .ok (.iload 4, 2) := by decide +kernel
theorem dW_spread_62 : decode (Mc mW_spread) 62 = .ok (.iload 5, 2) := by decide +kernel
theorem dW_spread_64 : decode (Mc mW_spread) 64 = .ok (.invokevirtual 79, 3) := by decide +kernel
theorem dW_spread_67 : decode (Mc mW_spread) 67 = .ok (.ifCond .eq 56, 3) := by decide +kernel
theorem dW_spread_70 : decode (Mc mW_spread) 70 = .ok (.iload 4, 2) := by decide +kernel
theorem dW_spread_72 : decode (Mc mW_spread) 72 = .ok (.iload 5, 2) := by decide +kernel
theorem dW_spread_74 : decode (Mc mW_spread) 74 = .ok (.invokestatic 62, 3) := by decide +kernel
theorem dW_spread_77 : decode (Mc mW_spread) 77 = .ok (.istore 6, 2) := by decide +kernel
theorem dW_spread_79 : decode (Mc mW_spread) 79 = .ok (.aload_n 0, 1) := by decide +kernel
theorem dW_spread_80 : decode (Mc mW_spread) 80 = .ok (.getfield 15, 3) := by decide +kernel
theorem dW_spread_83 : decode (Mc mW_spread) 83 = .ok (.iload 6, 2) := by decide +kernel
theorem dW_spread_85 : decode (Mc mW_spread) 85 = .ok (.aload_n 0, 1) := by decide +kernel
theorem dW_spread_86 : decode (Mc mW_spread) 86 = .ok (.getfield 15, 3) := by decide +kernel
theorem dW_spread_89 : decode (Mc mW_spread) 89 = .ok (.iload_n 2, 1) := by decide +kernel
theorem dW_spread_90 : decode (Mc mW_spread) 90 = .ok (.iaload, 1) := by decide +kernel
theorem dW_spread_91 : decode (Mc mW_spread) 91 = .ok (.iconst 1, 1) := by decide +kernel
theorem dW_spread_92 : decode (Mc mW_spread) 92 = .ok (.iadd, 1) := by decide +kernel
theorem dW_spread_93 : decode (Mc mW_spread) 93 = .ok (.iastore, 1) := by decide +kernel
theorem dW_spread_94 : decode (Mc mW_spread) 94 = .ok (.aload_n 0, 1) := by decide +kernel
theorem dW_spread_95 : decode (Mc mW_spread) 95 = .ok (.getfield 18, 3) := by decide +kernel
theorem dW_spread_98 : decode (Mc mW_spread) 98 = .ok (.iload 6, 2) := by decide +kernel
theorem dW_spread_100 : decode (Mc mW_spread) 100 = .ok (.iload_n 3, 1) := by decide +kernel
theorem dW_spread_101 : decode (Mc mW_spread) 101 = .ok (.iastore, 1) := by decide +kernel
theorem dW_spread_102 : decode (Mc mW_spread) 102 = .ok (.aload_n 0, 1) := by decide +kernel
theorem dW_spread_103 : decode (Mc mW_spread) 103 = .ok (.getfield 9, 3) := by decide +kernel
theorem dW_spread_106 : decode (Mc mW_spread) 106 = .ok (.aload_n 0, 1) := by decide +kernel
theorem dW_spread_107 : decode (Mc mW_spread) 107 = .ok (.getfield 21, 3) := by decide +kernel
theorem dW_spread_110 : decode (Mc mW_spread) 110 = .ok (.iload 6, 2) := by decide +kernel
theorem dW_spread_112 : decode (Mc mW_spread) 112 = .ok (.iastore, 1) := by decide +kernel
theorem dW_spread_113 : decode (Mc mW_spread) 113 = .ok (.aload_n 0, 1) := by decide +kernel
theorem dW_spread_114 : decode (Mc mW_spread) 114 = .ok (.dup, 1) := by decide +kernel
theorem dW_spread_115 : decode (Mc mW_spread) 115 = .ok (.getfield 21, 3) := by decide +kernel
theorem dW_spread_118 : decode (Mc mW_spread) 118 = .ok (.iconst 1, 1) := by decide +kernel
theorem dW_spread_119 : decode (Mc mW_spread) 119 = .ok (.iadd, 1) := by decide +kernel
theorem dW_spread_120 : decode (Mc mW_spread) 120 = .ok (.putfield 21, 3) := by decide +kernel
theorem dW_spread_123 : decode (Mc mW_spread) 123 = .ok (.iinc 3 1, 3) := by decide +kernel
theorem dW_spread_126 : decode (Mc mW_spread) 126 = .ok (.goto (-124), 3) := by decide +kernel
theorem dW_spread_129 : decode (Mc mW_spread) 129 = .ok (.return_, 1) := by decide +kernel
