/-! decoded instructions -/
theorem e_S_init_0 : decode (mB I_S_init) 0 = .ok (.aload_n 0, 1) := by decide +kernel
theorem e_S_init_1 : decode (mB I_S_init) 1 = .ok (.invokespecial 3, 3) := by decide +kernel
theorem e_S_init_4 : decode (mB I_S_init) 4 = .ok (.aload_n 0, 1) := by decide +kernel
theorem e_S_init_5 : decode (mB I_S_init) 5 = .ok (.bipush 20, 2) := by decide +kernel
theorem e_S_init_7 : decode (mB I_S_init) 7 = .ok (.newarray .int, 2) := by decide +kernel
theorem e_S_init_9 : decode (mB I_S_init) 9 = .ok (.putfield 9, 3) := by decide +kernel
theorem e_S_init_12 : decode (mB I_S_init) 12 = .ok (.aload_n 0, 1) := by decide +kernel
theorem e_S_init_13 : decode (mB I_S_init) 13 = .ok (.bipush 20, 2) := by decide +kernel
theorem e_S_init_15 : decode (mB I_S_init) 15 = .ok (.newarray .int, 2) := by decide +kernel
theorem e_S_init_17 : decode (mB I_S_init) 17 = .ok (.putfield 15, 3) := by decide +kernel
theorem e_S_init_20 : decode (mB I_S_init) 20 = .ok (.aload_n 0, 1) := by decide +kernel
theorem e_S_init_21 : decode (mB I_S_init) 21 = .ok (.bipush 20, 2) := by decide +kernel
theorem e_S_init_23 : decode (mB I_S_init) 23 = .ok (.newarray .boolean, 2) := by decide +kernel
theorem e_S_init_25 : decode (mB I_S_init) 25 = .ok (.putfield 18, 3) := by decide +kernel
theorem e_S_init_28 : decode (mB I_S_init) 28 = .ok (.aload_n 0, 1) := by decide +kernel
theorem e_S_init_29 : decode (mB I_S_init) 29 = .ok (.bipush 20, 2) := by decide +kernel
theorem e_S_init_31 : decode (mB I_S_init) 31 = .ok (.newarray .int, 2) := by decide +kernel
theorem e_S_init_33 : decode (mB I_S_init) 33 = .ok (.putfield 22, 3) := by decide +kernel
theorem e_S_init_36 : decode (mB I_S_init) 36 = .ok (.aload_n 0, 1) := by decide +kernel
theorem e_S_init_37 : decode (mB I_S_init) 37 = .ok (.bipush 20, 2) := by decide +kernel
theorem e_S_init_39 : decode (mB I_S_init) 39 = .ok (.newarray .int, 2) := by decide +kernel
theorem e_S_init_41 : decode (mB I_S_init) 41 = .ok (.putfield 25, 3) := by decide +kernel
theorem e_S_init_44 : decode (mB I_S_init) 44 = .ok (.aload_n 0, 1) := by decide +kernel
theorem e_S_init_45 : decode (mB I_S_init) 45 = .ok (.bipush 20, 2) := by decide +kernel
theorem e_S_init_47 : decode (mB I_S_init) 47 = .ok (.newarray .int, 2) := by decide +kernel
theorem e_S_init_49 : decode (mB I_S_init) 49 = .ok (.putfield 28, 3) := by decide +kernel
theorem e_S_init_52 : decode (mB I_S_init) 52 = .ok (.aload_n 0, 1) := by decide +kernel
theorem e_S_init_53 : decode (mB I_S_init) 53 = .ok (.bipush 20, 2) := by decide +kernel
theorem e_S_init_55 : decode (mB I_S_init) 55 = .ok (.newarray .int, 2) := by decide +kernel
theorem e_S_init_57 : decode (mB I_S_init) 57 = .ok (.putfield 31, 3) := by decide +kernel
theorem e_S_init_60 : decode (mB I_S_init) 60 = .ok (.aload_n 0, 1) := by decide +kernel
theorem e_S_init_61 : decode (mB I_S_init) 61 = .ok (.bipush 20, 2) := by decide +kernel
theorem e_S_init_63 : decode (mB I_S_init) 63 = .ok (.newarray .int, 2) := by decide +kernel
theorem e_S_init_65 : decode (mB I_S_init) 65 = .ok (.putfield 34, 3) := by decide +kernel
theorem e_S_init_68 : decode (mB I_S_init) 68 = .ok (.aload_n 0, 1) := by decide +kernel
theorem e_S_init_69 : decode (mB I_S_init) 69 = .ok (.bipush 20, 2) := by decide +kernel
theorem e_S_init_71 : decode (mB I_S_init) 71 = .ok (.newarray .int, 2) := by decide +kernel
theorem e_S_init_73 : decode (mB I_S_init) 73 = .ok (.putfield 37, 3) := by decide +kernel
theorem e_S_init_76 : decode (mB I_S_init) 76 = .ok (.aload_n 0, 1) := by decide +kernel
theorem e_S_init_77 : decode (mB I_S_init) 77 = .ok (.bipush 100, 2) := by decide +kernel
theorem e_S_init_79 : decode (mB I_S_init) 79 = .ok (.putfield 40, 3) := by decide +kernel
theorem e_S_init_82 : decode (mB I_S_init) 82 = .ok (.return_, 1) := by decide +kernel
theorem e_L_init_0 : decode (mB I_L_init) 0 = .ok (.aload_n 0, 1) := by decide +kernel
theorem e_L_init_1 : decode (mB I_L_init) 1 = .ok (.invokespecial 3, 3) := by decide +kernel
theorem e_L_init_4 : decode (mB I_L_init) 4 = .ok (.aload_n 0, 1) := by decide +kernel
theorem e_L_init_5 : decode (mB I_L_init) 5 = .ok (.sipush 900, 3) := by decide +kernel
theorem e_L_init_8 : decode (mB I_L_init) 8 = .ok (.newarray .byte, 2) := by decide +kernel
theorem e_L_init_10 : decode (mB I_L_init) 10 = .ok (.putfield 9, 3) := by decide +kernel
theorem e_L_init_13 : decode (mB I_L_init) 13 = .ok (.return_, 1) := by decide +kernel
theorem e_T_init_0 : decode (mB I_T_init) 0 = .ok (.aload_n 0, 1) := by decide +kernel
theorem e_T_init_1 : decode (mB I_T_init) 1 = .ok (.invokespecial 3, 3) := by decide +kernel
theorem e_T_init_4 : decode (mB I_T_init) 4 = .ok (.aload_n 0, 1) := by decide +kernel
theorem e_T_init_5 : decode (mB I_T_init) 5 = .ok (.bipush 21, 2) := by decide +kernel
theorem e_T_init_7 : decode (mB I_T_init) 7 = .ok (.newarray .int, 2) := by decide +kernel
theorem e_T_init_9 : decode (mB I_T_init) 9 = .ok (.putfield 9, 3) := by decide +kernel
theorem e_T_init_12 : decode (mB I_T_init) 12 = .ok (.aload_n 0, 1) := by decide +kernel
theorem e_T_init_13 : decode (mB I_T_init) 13 = .ok (.bipush 21, 2) := by decide +kernel
theorem e_T_init_15 : decode (mB I_T_init) 15 = .ok (.newarray .int, 2) := by decide +kernel
theorem e_T_init_17 : decode (mB I_T_init) 17 = .ok (.putfield 15, 3) := by decide +kernel
theorem e_T_init_20 : decode (mB I_T_init) 20 = .ok (.aload_n 0, 1) := by decide +kernel
theorem e_T_init_21 : decode (mB I_T_init) 21 = .ok (.bipush 21, 2) := by decide +kernel
theorem e_T_init_23 : decode (mB I_T_init) 23 = .ok (.newarray .int, 2) := by decide +kernel
theorem e_T_init_25 : decode (mB I_T_init) 25 = .ok (.putfield 18, 3) := by decide +kernel
theorem e_T_init_28 : decode (mB I_T_init) 28 = .ok (.aload_n 0, 1) := by decide +kernel
theorem e_T_init_29 : decode (mB I_T_init) 29 = .ok (.bipush 21, 2) := by decide +kernel
theorem e_T_init_31 : decode (mB I_T_init) 31 = .ok (.newarray .int, 2) := by decide +kernel
theorem e_T_init_33 : decode (mB I_T_init) 33 = .ok (.putfield 21, 3) := by decide +kernel
theorem e_T_init_36 : decode (mB I_T_init) 36 = .ok (.aload_n 0, 1) := by decide +kernel
theorem e_T_init_37 : decode (mB I_T_init) 37 = .ok (.bipush 21, 2) := by decide +kernel
theorem e_T_init_39 : decode (mB I_T_init) 39 = .ok (.newarray .int, 2) := by decide +kernel
theorem e_T_init_41 : decode (mB I_T_init) 41 = .ok (.putfield 24, 3) := by decide +kernel
theorem e_T_init_44 : decode (mB I_T_init) 44 = .ok (.return_, 1) := by decide +kernel
theorem e_I_init_0 : decode (mB I_I_init) 0 = .ok (.aload_n 0, 1) := by decide +kernel
theorem e_I_init_1 : decode (mB I_I_init) 1 = .ok (.invokespecial 3, 3) := by decide +kernel
theorem e_I_init_4 : decode (mB I_I_init) 4 = .ok (.aload_n 0, 1) := by decide +kernel
theorem e_I_init_5 : decode (mB I_I_init) 5 = .ok (.new 9, 3) := by decide +kernel
theorem e_I_init_8 : decode (mB I_I_init) 8 = .ok (.dup, 1) := by decide +kernel
theorem e_I_init_9 : decode (mB I_I_init) 9 = .ok (.invokespecial 11, 3) := by decide +kernel
theorem e_I_init_12 : decode (mB I_I_init) 12 = .ok (.putfield 12, 3) := by decide +kernel
theorem e_I_init_15 : decode (mB I_I_init) 15 = .ok (.aload_n 0, 1) := by decide +kernel
theorem e_I_init_16 : decode (mB I_I_init) 16 = .ok (.new 18, 3) := by decide +kernel
theorem e_I_init_19 : decode (mB I_I_init) 19 = .ok (.dup, 1) := by decide +kernel
theorem e_I_init_20 : decode (mB I_I_init) 20 = .ok (.invokespecial 20, 3) := by decide +kernel
theorem e_I_init_23 : decode (mB I_I_init) 23 = .ok (.putfield 21, 3) := by decide +kernel
theorem e_I_init_26 : decode (mB I_I_init) 26 = .ok (.aload_n 0, 1) := by decide +kernel
theorem e_I_init_27 : decode (mB I_I_init) 27 = .ok (.iconst (-1), 1) := by decide +kernel
theorem e_I_init_28 : decode (mB I_I_init) 28 = .ok (.putfield 25, 3) := by decide +kernel
theorem e_I_init_31 : decode (mB I_I_init) 31 = .ok (.return_, 1) := by decide +kernel
theorem e_C_init_0 : decode (mB I_C_init) 0 = .ok (.aload_n 0, 1) := by decide +kernel
theorem e_C_init_1 : decode (mB I_C_init) 1 = .ok (.invokespecial 1, 3) := by decide +kernel
theorem e_C_init_4 : decode (mB I_C_init) 4 = .ok (.aload_n 0, 1) := by decide +kernel
theorem e_C_init_5 : decode (mB I_C_init) 5 = .ok (.new 7, 3) := by decide +kernel
theorem e_C_init_8 : decode (mB I_C_init) 8 = .ok (.dup, 1) := by decide +kernel
theorem e_C_init_9 : decode (mB I_C_init) 9 = .ok (.invokespecial 9, 3) := by decide +kernel
theorem e_C_init_12 : decode (mB I_C_init) 12 = .ok (.putfield 10, 3) := by decide +kernel
theorem e_C_init_15 : decode (mB I_C_init) 15 = .ok (.aload_n 0, 1) := by decide +kernel
theorem e_C_init_16 : decode (mB I_C_init) 16 = .ok (.aload_n 0, 1) := by decide +kernel
theorem e_C_init_17 : decode (mB I_C_init) 17 = .ok (.getfield 10, 3) := by decide +kernel
theorem e_C_init_20 : decode (mB I_C_init) 20 = .ok (.getfield 16, 3) := by decide +kernel
theorem e_C_init_23 : decode (mB I_C_init) 23 = .ok (.getfield 20, 3) := by decide +kernel
theorem e_C_init_26 : decode (mB I_C_init) 26 = .ok (.putfield 26, 3) := by decide +kernel
theorem e_C_init_29 : decode (mB I_C_init) 29 = .ok (.aload_n 0, 1) := by decide +kernel
theorem e_C_init_30 : decode (mB I_C_init) 30 = .ok (.iconst (-1), 1) := by decide +kernel
theorem e_C_init_31 : decode (mB I_C_init) 31 = .ok (.putfield 29, 3) := by decide +kernel
theorem e_C_init_34 : decode (mB I_C_init) 34 = .ok (.aload_n 0, 1) := by decide +kernel
theorem e_C_init_35 : decode (mB I_C_init) 35 = .ok (.sipush 512, 3) := by decide +kernel
theorem e_C_init_38 : decode (mB I_C_init) 38 = .ok (.newarray .byte, 2) := by decide +kernel
theorem e_C_init_40 : decode (mB I_C_init) 40 = .ok (.putfield 33, 3) := by decide +kernel
theorem e_C_init_43 : decode (mB I_C_init) 43 = .ok (.aload_n 0, 1) := by decide +kernel
theorem e_C_init_44 : decode (mB I_C_init) 44 = .ok (.new 36, 3) := by decide +kernel
theorem e_C_init_47 : decode (mB I_C_init) 47 = .ok (.dup, 1) := by decide +kernel
theorem e_C_init_48 : decode (mB I_C_init) 48 = .ok (.invokespecial 38, 3) := by decide +kernel
theorem e_C_init_51 : decode (mB I_C_init) 51 = .ok (.putfield 39, 3) := by decide +kernel
theorem e_C_init_54 : decode (mB I_C_init) 54 = .ok (.aload_n 0, 1) := by decide +kernel
theorem e_C_init_55 : decode (mB I_C_init) 55 = .ok (.aload_n 0, 1) := by decide +kernel
theorem e_C_init_56 : decode (mB I_C_init) 56 = .ok (.getfield 10, 3) := by decide +kernel
theorem e_C_init_59 : decode (mB I_C_init) 59 = .ok (.getfield 43, 3) := by decide +kernel
theorem e_C_init_62 : decode (mB I_C_init) 62 = .ok (.putfield 46, 3) := by decide +kernel
theorem e_C_init_65 : decode (mB I_C_init) 65 = .ok (.aload_n 0, 1) := by decide +kernel
theorem e_C_init_66 : decode (mB I_C_init) 66 = .ok (.new 49, 3) := by decide +kernel
theorem e_C_init_69 : decode (mB I_C_init) 69 = .ok (.dup, 1) := by decide +kernel
theorem e_C_init_70 : decode (mB I_C_init) 70 = .ok (.invokespecial 51, 3) := by decide +kernel
theorem e_C_init_73 : decode (mB I_C_init) 73 = .ok (.putfield 52, 3) := by decide +kernel
theorem e_C_init_76 : decode (mB I_C_init) 76 = .ok (.aload_n 0, 1) := by decide +kernel
theorem e_C_init_77 : decode (mB I_C_init) 77 = .ok (.bipush 8, 2) := by decide +kernel
theorem e_C_init_79 : decode (mB I_C_init) 79 = .ok (.anewarray 36, 3) := by decide +kernel
theorem e_C_init_82 : decode (mB I_C_init) 82 = .ok (.putfield 56, 3) := by decide +kernel
theorem e_C_init_85 : decode (mB I_C_init) 85 = .ok (.aload_n 0, 1) := by decide +kernel
theorem e_C_init_86 : decode (mB I_C_init) 86 = .ok (.iconst 2, 1) := by decide +kernel
theorem e_C_init_87 : decode (mB I_C_init) 87 = .ok (.anewarray 36, 3) := by decide +kernel
theorem e_C_init_90 : decode (mB I_C_init) 90 = .ok (.putfield 60, 3) := by decide +kernel
theorem e_C_init_93 : decode (mB I_C_init) 93 = .ok (.aload_n 0, 1) := by decide +kernel
theorem e_C_init_94 : decode (mB I_C_init) 94 = .ok (.iconst 2, 1) := by decide +kernel
theorem e_C_init_95 : decode (mB I_C_init) 95 = .ok (.newarray .boolean, 2) := by decide +kernel
theorem e_C_init_97 : decode (mB I_C_init) 97 = .ok (.putfield 63, 3) := by decide +kernel
theorem e_C_init_100 : decode (mB I_C_init) 100 = .ok (.iconst 0, 1) := by decide +kernel
theorem e_C_init_101 : decode (mB I_C_init) 101 = .ok (.istore_n 1, 1) := by decide +kernel
theorem e_C_init_102 : decode (mB I_C_init) 102 = .ok (.iload_n 1, 1) := by decide +kernel
theorem e_C_init_103 : decode (mB I_C_init) 103 = .ok (.bipush 8, 2) := by decide +kernel
theorem e_C_init_105 : decode (mB I_C_init) 105 = .ok (.if_icmp .ge 22, 3) := by decide +kernel
theorem e_C_init_108 : decode (mB I_C_init) 108 = .ok (.aload_n 0, 1) := by decide +kernel
theorem e_C_init_109 : decode (mB I_C_init) 109 = .ok (.getfield 56, 3) := by decide +kernel
theorem e_C_init_112 : decode (mB I_C_init) 112 = .ok (.iload_n 1, 1) := by decide +kernel
theorem e_C_init_113 : decode (mB I_C_init) 113 = .ok (.new 36, 3) := by decide +kernel
theorem e_C_init_116 : decode (mB I_C_init) 116 = .ok (.dup, 1) := by decide +kernel
theorem e_C_init_117 : decode (mB I_C_init) 117 = .ok (.invokespecial 38, 3) := by decide +kernel
theorem e_C_init_120 : decode (mB I_C_init) 120 = .ok (.aastore, 1) := by decide +kernel
theorem e_C_init_121 : decode (mB I_C_init) 121 = .ok (.iinc 1 1, 3) := by decide +kernel
theorem e_C_init_124 : decode (mB I_C_init) 124 = .ok (.goto (-22), 3) := by decide +kernel
theorem e_C_init_127 : decode (mB I_C_init) 127 = .ok (.iconst 0, 1) := by decide +kernel
theorem e_C_init_128 : decode (mB I_C_init) 128 = .ok (.istore_n 1, 1) := by decide +kernel
theorem e_C_init_129 : decode (mB I_C_init) 129 = .ok (.iload_n 1, 1) := by decide +kernel
theorem e_C_init_130 : decode (mB I_C_init) 130 = .ok (.iconst 2, 1) := by decide +kernel
theorem e_C_init_131 : decode (mB I_C_init) 131 = .ok (.if_icmp .ge 22, 3) := by decide +kernel
theorem e_C_init_134 : decode (mB I_C_init) 134 = .ok (.aload_n 0, 1) := by decide +kernel
theorem e_C_init_135 : decode (mB I_C_init) 135 = .ok (.getfield 60, 3) := by decide +kernel
theorem e_C_init_138 : decode (mB I_C_init) 138 = .ok (.iload_n 1, 1) := by decide +kernel
theorem e_C_init_139 : decode (mB I_C_init) 139 = .ok (.new 36, 3) := by decide +kernel
theorem e_C_init_142 : decode (mB I_C_init) 142 = .ok (.dup, 1) := by decide +kernel
theorem e_C_init_143 : decode (mB I_C_init) 143 = .ok (.invokespecial 38, 3) := by decide +kernel
theorem e_C_init_146 : decode (mB I_C_init) 146 = .ok (.aastore, 1) := by decide +kernel
theorem e_C_init_147 : decode (mB I_C_init) 147 = .ok (.iinc 1 1, 3) := by decide +kernel
theorem e_C_init_150 : decode (mB I_C_init) 150 = .ok (.goto (-21), 3) := by decide +kernel
theorem e_C_init_153 : decode (mB I_C_init) 153 = .ok (.iconst 0, 1) := by decide +kernel
theorem e_C_init_154 : decode (mB I_C_init) 154 = .ok (.istore_n 1, 1) := by decide +kernel
theorem e_C_init_155 : decode (mB I_C_init) 155 = .ok (.iload_n 1, 1) := by decide +kernel
theorem e_C_init_156 : decode (mB I_C_init) 156 = .ok (.ldc 67, 2) := by decide +kernel
theorem e_C_init_158 : decode (mB I_C_init) 158 = .ok (.invokevirtual 69, 3) := by decide +kernel
theorem e_C_init_161 : decode (mB I_C_init) 161 = .ok (.if_icmp .ge 29, 3) := by decide +kernel
theorem e_C_init_164 : decode (mB I_C_init) 164 = .ok (.iload_n 1, 1) := by decide +kernel
theorem e_C_init_165 : decode (mB I_C_init) 165 = .ok (.sipush 900, 3) := by decide +kernel
theorem e_C_init_168 : decode (mB I_C_init) 168 = .ok (.if_icmp .ge 22, 3) := by decide +kernel
theorem e_C_init_171 : decode (mB I_C_init) 171 = .ok (.aload_n 0, 1) := by decide +kernel
theorem e_C_init_172 : decode (mB I_C_init) 172 = .ok (.getfield 26, 3) := by decide +kernel
theorem e_C_init_175 : decode (mB I_C_init) 175 = .ok (.iload_n 1, 1) := by decide +kernel
theorem e_C_init_176 : decode (mB I_C_init) 176 = .ok (.ldc 67, 2) := by decide +kernel
theorem e_C_init_178 : decode (mB I_C_init) 178 = .ok (.iload_n 1, 1) := by decide +kernel
theorem e_C_init_179 : decode (mB I_C_init) 179 = .ok (.invokevirtual 75, 3) := by decide +kernel
theorem e_C_init_182 : decode (mB I_C_init) 182 = .ok (.i2b, 1) := by decide +kernel
theorem e_C_init_183 : decode (mB I_C_init) 183 = .ok (.bastore, 1) := by decide +kernel
theorem e_C_init_184 : decode (mB I_C_init) 184 = .ok (.iinc 1 1, 3) := by decide +kernel
theorem e_C_init_187 : decode (mB I_C_init) 187 = .ok (.goto (-32), 3) := by decide +kernel
theorem e_C_init_190 : decode (mB I_C_init) 190 = .ok (.aload_n 0, 1) := by decide +kernel
theorem e_C_init_191 : decode (mB I_C_init) 191 = .ok (.getfield 10, 3) := by decide +kernel
theorem e_C_init_194 : decode (mB I_C_init) 194 = .ok (.ldc 67, 2) := by decide +kernel
theorem e_C_init_196 : decode (mB I_C_init) 196 = .ok (.invokevirtual 69, 3) := by decide +kernel
theorem e_C_init_199 : decode (mB I_C_init) 199 = .ok (.invokevirtual 79, 3) := by decide +kernel
theorem e_C_init_202 : decode (mB I_C_init) 202 = .ok (.aload_n 0, 1) := by decide +kernel
theorem e_C_init_203 : decode (mB I_C_init) 203 = .ok (.getfield 10, 3) := by decide +kernel
theorem e_C_init_206 : decode (mB I_C_init) 206 = .ok (.invokevirtual 83, 3) := by decide +kernel
theorem e_C_init_209 : decode (mB I_C_init) 209 = .ok (.ifCond .eq 24, 3) := by decide +kernel
theorem e_C_init_212 : decode (mB I_C_init) 212 = .ok (.aload_n 0, 1) := by decide +kernel
theorem e_C_init_213 : decode (mB I_C_init) 213 = .ok (.getfield 10, 3) := by decide +kernel
theorem e_C_init_216 : decode (mB I_C_init) 216 = .ok (.invokevirtual 87, 3) := by decide +kernel
theorem e_C_init_219 : decode (mB I_C_init) 219 = .ok (.ifCond .eq 14, 3) := by decide +kernel
theorem e_C_init_222 : decode (mB I_C_init) 222 = .ok (.aload_n 0, 1) := by decide +kernel
theorem e_C_init_223 : decode (mB I_C_init) 223 = .ok (.getfield 39, 3) := by decide +kernel
theorem e_C_init_226 : decode (mB I_C_init) 226 = .ok (.aload_n 0, 1) := by decide +kernel
theorem e_C_init_227 : decode (mB I_C_init) 227 = .ok (.getfield 46, 3) := by decide +kernel
theorem e_C_init_230 : decode (mB I_C_init) 230 = .ok (.invokevirtual 90, 3) := by decide +kernel
theorem e_C_init_233 : decode (mB I_C_init) 233 = .ok (.return_, 1) := by decide +kernel
theorem e_A_init_0 : decode (mB I_A_init) 0 = .ok (.aload_n 0, 1) := by decide +kernel
theorem e_A_init_1 : decode (mB I_A_init) 1 = .ok (.invokespecial 3, 3) := by decide +kernel
theorem e_A_init_4 : decode (mB I_A_init) 4 = .ok (.getstatic 18, 3) := by decide +kernel
theorem e_A_init_7 : decode (mB I_A_init) 7 = .ok (.ifCond .eq 18, 3) := by decide +kernel
theorem e_A_init_10 : decode (mB I_A_init) 10 = .ok (.aload_n 0, 1) := by decide +kernel
theorem e_A_init_11 : decode (mB I_A_init) 11 = .ok (.iload_n 1, 1) := by decide +kernel
theorem e_A_init_12 : decode (mB I_A_init) 12 = .ok (.newarray .byte, 2) := by decide +kernel
theorem e_A_init_14 : decode (mB I_A_init) 14 = .ok (.putfield 15, 3) := by decide +kernel
theorem e_A_init_17 : decode (mB I_A_init) 17 = .ok (.aload_n 0, 1) := by decide +kernel
theorem e_A_init_18 : decode (mB I_A_init) 18 = .ok (.iconst 0, 1) := by decide +kernel
theorem e_A_init_19 : decode (mB I_A_init) 19 = .ok (.putfield 22, 3) := by decide +kernel
theorem e_A_init_22 : decode (mB I_A_init) 22 = .ok (.goto 16, 3) := by decide +kernel
theorem e_A_init_38 : decode (mB I_A_init) 38 = .ok (.return_, 1) := by decide +kernel
theorem e_B_init_0 : decode (mB I_B_init) 0 = .ok (.aload_n 0, 1) := by decide +kernel
theorem e_B_init_1 : decode (mB I_B_init) 1 = .ok (.bipush 16, 2) := by decide +kernel
theorem e_B_init_3 : decode (mB I_B_init) 3 = .ok (.invokespecial 1, 3) := by decide +kernel
theorem e_B_init_6 : decode (mB I_B_init) 6 = .ok (.return_, 1) := by decide +kernel
theorem e_A_ensureCapacityInternal_0 : decode (mB I_A_ensureCapacityInternal) 0 = .ok (.aload_n 0, 1) := by decide +kernel
theorem e_A_ensureCapacityInternal_1 : decode (mB I_A_ensureCapacityInternal) 1 = .ok (.getfield 15, 3) := by decide +kernel
theorem e_A_ensureCapacityInternal_4 : decode (mB I_A_ensureCapacityInternal) 4 = .ok (.arraylength, 1) := by decide +kernel
theorem e_A_ensureCapacityInternal_5 : decode (mB I_A_ensureCapacityInternal) 5 = .ok (.aload_n 0, 1) := by decide +kernel
theorem e_A_ensureCapacityInternal_6 : decode (mB I_A_ensureCapacityInternal) 6 = .ok (.getfield 22, 3) := by decide +kernel
theorem e_A_ensureCapacityInternal_9 : decode (mB I_A_ensureCapacityInternal) 9 = .ok (.ishr, 1) := by decide +kernel
theorem e_A_ensureCapacityInternal_10 : decode (mB I_A_ensureCapacityInternal) 10 = .ok (.istore_n 2, 1) := by decide +kernel
theorem e_A_ensureCapacityInternal_11 : decode (mB I_A_ensureCapacityInternal) 11 = .ok (.iload_n 1, 1) := by decide +kernel
theorem e_A_ensureCapacityInternal_12 : decode (mB I_A_ensureCapacityInternal) 12 = .ok (.iload_n 2, 1) := by decide +kernel
theorem e_A_ensureCapacityInternal_13 : decode (mB I_A_ensureCapacityInternal) 13 = .ok (.isub, 1) := by decide +kernel
theorem e_A_ensureCapacityInternal_14 : decode (mB I_A_ensureCapacityInternal) 14 = .ok (.ifCond .le 24, 3) := by decide +kernel
theorem e_A_ensureCapacityInternal_38 : decode (mB I_A_ensureCapacityInternal) 38 = .ok (.return_, 1) := by decide +kernel
theorem e_A_inflateIfNeededFor_0 : decode (mB I_A_inflateIfNeededFor) 0 = .ok (.getstatic 18, 3) := by decide +kernel
theorem e_A_inflateIfNeededFor_3 : decode (mB I_A_inflateIfNeededFor) 3 = .ok (.ifCond .eq 18, 3) := by decide +kernel
theorem e_A_inflateIfNeededFor_6 : decode (mB I_A_inflateIfNeededFor) 6 = .ok (.aload_n 0, 1) := by decide +kernel
theorem e_A_inflateIfNeededFor_7 : decode (mB I_A_inflateIfNeededFor) 7 = .ok (.getfield 22, 3) := by decide +kernel
theorem e_A_inflateIfNeededFor_10 : decode (mB I_A_inflateIfNeededFor) 10 = .ok (.aload_n 1, 1) := by decide +kernel
theorem e_A_inflateIfNeededFor_11 : decode (mB I_A_inflateIfNeededFor) 11 = .ok (.invokevirtual 40, 3) := by decide +kernel
theorem e_A_inflateIfNeededFor_14 : decode (mB I_A_inflateIfNeededFor) 14 = .ok (.if_icmp .eq 7, 3) := by decide +kernel
theorem e_A_inflateIfNeededFor_21 : decode (mB I_A_inflateIfNeededFor) 21 = .ok (.return_, 1) := by decide +kernel
theorem e_U_getBytes_0 : decode (mB I_U_getBytes) 0 = .ok (.aload_n 0, 1) := by decide +kernel
theorem e_U_getBytes_1 : decode (mB I_U_getBytes) 1 = .ok (.invokevirtual 335, 3) := by decide +kernel
theorem e_U_getBytes_4 : decode (mB I_U_getBytes) 4 = .ok (.iload_n 3, 1) := by decide +kernel
theorem e_U_getBytes_5 : decode (mB I_U_getBytes) 5 = .ok (.if_icmp .ne 23, 3) := by decide +kernel
theorem e_U_getBytes_8 : decode (mB I_U_getBytes) 8 = .ok (.aload_n 0, 1) := by decide +kernel
theorem e_U_getBytes_9 : decode (mB I_U_getBytes) 9 = .ok (.getfield 9, 3) := by decide +kernel
theorem e_U_getBytes_12 : decode (mB I_U_getBytes) 12 = .ok (.iconst 0, 1) := by decide +kernel
theorem e_U_getBytes_13 : decode (mB I_U_getBytes) 13 = .ok (.aload_n 1, 1) := by decide +kernel
theorem e_U_getBytes_14 : decode (mB I_U_getBytes) 14 = .ok (.iload_n 2, 1) := by decide +kernel
theorem e_U_getBytes_15 : decode (mB I_U_getBytes) 15 = .ok (.iload_n 3, 1) := by decide +kernel
theorem e_U_getBytes_16 : decode (mB I_U_getBytes) 16 = .ok (.ishl, 1) := by decide +kernel
theorem e_U_getBytes_17 : decode (mB I_U_getBytes) 17 = .ok (.aload_n 0, 1) := by decide +kernel
theorem e_U_getBytes_18 : decode (mB I_U_getBytes) 18 = .ok (.getfield 9, 3) := by decide +kernel
theorem e_U_getBytes_21 : decode (mB I_U_getBytes) 21 = .ok (.arraylength, 1) := by decide +kernel
theorem e_U_getBytes_22 : decode (mB I_U_getBytes) 22 = .ok (.invokestatic 212, 3) := by decide +kernel
theorem e_U_getBytes_25 : decode (mB I_U_getBytes) 25 = .ok (.goto 18, 3) := by decide +kernel
theorem e_U_getBytes_43 : decode (mB I_U_getBytes) 43 = .ok (.return_, 1) := by decide +kernel
theorem e_A_putStringAt_0 : decode (mB I_A_putStringAt) 0 = .ok (.aload_n 0, 1) := by decide +kernel
theorem e_A_putStringAt_1 : decode (mB I_A_putStringAt) 1 = .ok (.aload_n 2, 1) := by decide +kernel
theorem e_A_putStringAt_2 : decode (mB I_A_putStringAt) 2 = .ok (.invokevirtual 397, 3) := by decide +kernel
theorem e_A_putStringAt_5 : decode (mB I_A_putStringAt) 5 = .ok (.aload_n 2, 1) := by decide +kernel
theorem e_A_putStringAt_6 : decode (mB I_A_putStringAt) 6 = .ok (.aload_n 0, 1) := by decide +kernel
theorem e_A_putStringAt_7 : decode (mB I_A_putStringAt) 7 = .ok (.getfield 15, 3) := by decide +kernel
theorem e_A_putStringAt_10 : decode (mB I_A_putStringAt) 10 = .ok (.iload_n 1, 1) := by decide +kernel
theorem e_A_putStringAt_11 : decode (mB I_A_putStringAt) 11 = .ok (.aload_n 0, 1) := by decide +kernel
theorem e_A_putStringAt_12 : decode (mB I_A_putStringAt) 12 = .ok (.getfield 22, 3) := by decide +kernel
theorem e_A_putStringAt_15 : decode (mB I_A_putStringAt) 15 = .ok (.invokevirtual 399, 3) := by decide +kernel
theorem e_A_putStringAt_18 : decode (mB I_A_putStringAt) 18 = .ok (.return_, 1) := by decide +kernel
theorem e_A_append_0 : decode (mB I_A_append) 0 = .ok (.aload_n 1, 1) := by decide +kernel
theorem e_A_append_1 : decode (mB I_A_append) 1 = .ok (.ifnonnull 8, 3) := by decide +kernel
theorem e_A_append_9 : decode (mB I_A_append) 9 = .ok (.aload_n 1, 1) := by decide +kernel
theorem e_A_append_10 : decode (mB I_A_append) 10 = .ok (.invokevirtual 32, 3) := by decide +kernel
theorem e_A_append_13 : decode (mB I_A_append) 13 = .ok (.istore_n 2, 1) := by decide +kernel
theorem e_A_append_14 : decode (mB I_A_append) 14 = .ok (.aload_n 0, 1) := by decide +kernel
theorem e_A_append_15 : decode (mB I_A_append) 15 = .ok (.aload_n 0, 1) := by decide +kernel
theorem e_A_append_16 : decode (mB I_A_append) 16 = .ok (.getfield 79, 3) := by decide +kernel
theorem e_A_append_19 : decode (mB I_A_append) 19 = .ok (.iload_n 2, 1) := by decide +kernel
theorem e_A_append_20 : decode (mB I_A_append) 20 = .ok (.iadd, 1) := by decide +kernel
theorem e_A_append_21 : decode (mB I_A_append) 21 = .ok (.invokevirtual 100, 3) := by decide +kernel
theorem e_A_append_24 : decode (mB I_A_append) 24 = .ok (.aload_n 0, 1) := by decide +kernel
theorem e_A_append_25 : decode (mB I_A_append) 25 = .ok (.aload_n 0, 1) := by decide +kernel
theorem e_A_append_26 : decode (mB I_A_append) 26 = .ok (.getfield 79, 3) := by decide +kernel
theorem e_A_append_29 : decode (mB I_A_append) 29 = .ok (.aload_n 1, 1) := by decide +kernel
theorem e_A_append_30 : decode (mB I_A_append) 30 = .ok (.invokevirtual 208, 3) := by decide +kernel
theorem e_A_append_33 : decode (mB I_A_append) 33 = .ok (.aload_n 0, 1) := by decide +kernel
theorem e_A_append_34 : decode (mB I_A_append) 34 = .ok (.dup, 1) := by decide +kernel
theorem e_A_append_35 : decode (mB I_A_append) 35 = .ok (.getfield 79, 3) := by decide +kernel
theorem e_A_append_38 : decode (mB I_A_append) 38 = .ok (.iload_n 2, 1) := by decide +kernel
theorem e_A_append_39 : decode (mB I_A_append) 39 = .ok (.iadd, 1) := by decide +kernel
theorem e_A_append_40 : decode (mB I_A_append) 40 = .ok (.putfield 79, 3) := by decide +kernel
theorem e_A_append_43 : decode (mB I_A_append) 43 = .ok (.aload_n 0, 1) := by decide +kernel
theorem e_A_append_44 : decode (mB I_A_append) 44 = .ok (.areturn, 1) := by decide +kernel
theorem e_B_append_0 : decode (mB I_B_append) 0 = .ok (.aload_n 0, 1) := by decide +kernel
theorem e_B_append_1 : decode (mB I_B_append) 1 = .ok (.aload_n 1, 1) := by decide +kernel
theorem e_B_append_2 : decode (mB I_B_append) 2 = .ok (.invokespecial 29, 3) := by decide +kernel
theorem e_B_append_5 : decode (mB I_B_append) 5 = .ok (.pop, 1) := by decide +kernel
theorem e_B_append_6 : decode (mB I_B_append) 6 = .ok (.aload_n 0, 1) := by decide +kernel
theorem e_B_append_7 : decode (mB I_B_append) 7 = .ok (.areturn, 1) := by decide +kernel
theorem e_N_stringSize_0 : decode (mB I_N_stringSize) 0 = .ok (.iconst 1, 1) := by decide +kernel
theorem e_N_stringSize_1 : decode (mB I_N_stringSize) 1 = .ok (.istore_n 1, 1) := by decide +kernel
theorem e_N_stringSize_2 : decode (mB I_N_stringSize) 2 = .ok (.iload_n 0, 1) := by decide +kernel
theorem e_N_stringSize_3 : decode (mB I_N_stringSize) 3 = .ok (.ifCond .lt 8, 3) := by decide +kernel
theorem e_N_stringSize_6 : decode (mB I_N_stringSize) 6 = .ok (.iconst 0, 1) := by decide +kernel
theorem e_N_stringSize_7 : decode (mB I_N_stringSize) 7 = .ok (.istore_n 1, 1) := by decide +kernel
theorem e_N_stringSize_8 : decode (mB I_N_stringSize) 8 = .ok (.iload_n 0, 1) := by decide +kernel
theorem e_N_stringSize_9 : decode (mB I_N_stringSize) 9 = .ok (.ineg, 1) := by decide +kernel
theorem e_N_stringSize_10 : decode (mB I_N_stringSize) 10 = .ok (.istore_n 0, 1) := by decide +kernel
theorem e_N_stringSize_11 : decode (mB I_N_stringSize) 11 = .ok (.bipush (-10), 2) := by decide +kernel
theorem e_N_stringSize_13 : decode (mB I_N_stringSize) 13 = .ok (.istore_n 2, 1) := by decide +kernel
theorem e_N_stringSize_14 : decode (mB I_N_stringSize) 14 = .ok (.iconst 1, 1) := by decide +kernel
theorem e_N_stringSize_15 : decode (mB I_N_stringSize) 15 = .ok (.istore_n 3, 1) := by decide +kernel
theorem e_N_stringSize_16 : decode (mB I_N_stringSize) 16 = .ok (.iload_n 3, 1) := by decide +kernel
theorem e_N_stringSize_17 : decode (mB I_N_stringSize) 17 = .ok (.bipush 10, 2) := by decide +kernel
theorem e_N_stringSize_19 : decode (mB I_N_stringSize) 19 = .ok (.if_icmp .ge 23, 3) := by decide +kernel
theorem e_N_stringSize_22 : decode (mB I_N_stringSize) 22 = .ok (.iload_n 0, 1) := by decide +kernel
theorem e_N_stringSize_23 : decode (mB I_N_stringSize) 23 = .ok (.iload_n 2, 1) := by decide +kernel
theorem e_N_stringSize_24 : decode (mB I_N_stringSize) 24 = .ok (.if_icmp .le 7, 3) := by decide +kernel
theorem e_N_stringSize_27 : decode (mB I_N_stringSize) 27 = .ok (.iload_n 3, 1) := by decide +kernel
theorem e_N_stringSize_28 : decode (mB I_N_stringSize) 28 = .ok (.iload_n 1, 1) := by decide +kernel
theorem e_N_stringSize_29 : decode (mB I_N_stringSize) 29 = .ok (.iadd, 1) := by decide +kernel
theorem e_N_stringSize_30 : decode (mB I_N_stringSize) 30 = .ok (.ireturn, 1) := by decide +kernel
theorem e_N_stringSize_31 : decode (mB I_N_stringSize) 31 = .ok (.bipush 10, 2) := by decide +kernel
theorem e_N_stringSize_33 : decode (mB I_N_stringSize) 33 = .ok (.iload_n 2, 1) := by decide +kernel
theorem e_N_stringSize_34 : decode (mB I_N_stringSize) 34 = .ok (.imul, 1) := by decide +kernel
theorem e_N_stringSize_35 : decode (mB I_N_stringSize) 35 = .ok (.istore_n 2, 1) := by decide +kernel
theorem e_N_stringSize_36 : decode (mB I_N_stringSize) 36 = .ok (.iinc 3 1, 3) := by decide +kernel
theorem e_N_stringSize_39 : decode (mB I_N_stringSize) 39 = .ok (.goto (-23), 3) := by decide +kernel
theorem e_N_stringSize_42 : decode (mB I_N_stringSize) 42 = .ok (.bipush 10, 2) := by decide +kernel
theorem e_N_stringSize_44 : decode (mB I_N_stringSize) 44 = .ok (.iload_n 1, 1) := by decide +kernel
theorem e_N_stringSize_45 : decode (mB I_N_stringSize) 45 = .ok (.iadd, 1) := by decide +kernel
theorem e_N_stringSize_46 : decode (mB I_N_stringSize) 46 = .ok (.ireturn, 1) := by decide +kernel
theorem e_A_isLatin1_0 : decode (mB I_A_isLatin1) 0 = .ok (.getstatic 18, 3) := by decide +kernel
theorem e_A_isLatin1_3 : decode (mB I_A_isLatin1) 3 = .ok (.ifCond .eq 14, 3) := by decide +kernel
theorem e_A_isLatin1_6 : decode (mB I_A_isLatin1) 6 = .ok (.aload_n 0, 1) := by decide +kernel
theorem e_A_isLatin1_7 : decode (mB I_A_isLatin1) 7 = .ok (.getfield 22, 3) := by decide +kernel
theorem e_A_isLatin1_10 : decode (mB I_A_isLatin1) 10 = .ok (.ifCond .ne 7, 3) := by decide +kernel
theorem e_A_isLatin1_13 : decode (mB I_A_isLatin1) 13 = .ok (.iconst 1, 1) := by decide +kernel
theorem e_A_isLatin1_14 : decode (mB I_A_isLatin1) 14 = .ok (.goto 4, 3) := by decide +kernel
theorem e_A_isLatin1_18 : decode (mB I_A_isLatin1) 18 = .ok (.ireturn, 1) := by decide +kernel
theorem e_N_getChars_0 : decode (mB I_N_getChars) 0 = .ok (.iload_n 1, 1) := by decide +kernel
theorem e_N_getChars_1 : decode (mB I_N_getChars) 1 = .ok (.istore 5, 2) := by decide +kernel
theorem e_N_getChars_3 : decode (mB I_N_getChars) 3 = .ok (.iload_n 0, 1) := by decide +kernel
theorem e_N_getChars_4 : decode (mB I_N_getChars) 4 = .ok (.ifCond .ge 7, 3) := by decide +kernel
theorem e_N_getChars_7 : decode (mB I_N_getChars) 7 = .ok (.iconst 1, 1) := by decide +kernel
theorem e_N_getChars_8 : decode (mB I_N_getChars) 8 = .ok (.goto 4, 3) := by decide +kernel
theorem e_N_getChars_11 : decode (mB I_N_getChars) 11 = .ok (.iconst 0, 1) := by decide +kernel
theorem e_N_getChars_12 : decode (mB I_N_getChars) 12 = .ok (.istore 6, 2) := by decide +kernel
theorem e_N_getChars_14 : decode (mB I_N_getChars) 14 = .ok (.iload 6, 2) := by decide +kernel
theorem e_N_getChars_16 : decode (mB I_N_getChars) 16 = .ok (.ifCond .ne 6, 3) := by decide +kernel
theorem e_N_getChars_19 : decode (mB I_N_getChars) 19 = .ok (.iload_n 0, 1) := by decide +kernel
theorem e_N_getChars_20 : decode (mB I_N_getChars) 20 = .ok (.ineg, 1) := by decide +kernel
theorem e_N_getChars_21 : decode (mB I_N_getChars) 21 = .ok (.istore_n 0, 1) := by decide +kernel
theorem e_N_getChars_22 : decode (mB I_N_getChars) 22 = .ok (.iload_n 0, 1) := by decide +kernel
theorem e_N_getChars_23 : decode (mB I_N_getChars) 23 = .ok (.bipush (-100), 2) := by decide +kernel
theorem e_N_getChars_25 : decode (mB I_N_getChars) 25 = .ok (.if_icmp .gt 47, 3) := by decide +kernel
theorem e_N_getChars_28 : decode (mB I_N_getChars) 28 = .ok (.iload_n 0, 1) := by decide +kernel
theorem e_N_getChars_29 : decode (mB I_N_getChars) 29 = .ok (.bipush 100, 2) := by decide +kernel
theorem e_N_getChars_31 : decode (mB I_N_getChars) 31 = .ok (.idiv, 1) := by decide +kernel
theorem e_N_getChars_32 : decode (mB I_N_getChars) 32 = .ok (.istore_n 3, 1) := by decide +kernel
theorem e_N_getChars_33 : decode (mB I_N_getChars) 33 = .ok (.iload_n 3, 1) := by decide +kernel
theorem e_N_getChars_34 : decode (mB I_N_getChars) 34 = .ok (.bipush 100, 2) := by decide +kernel
theorem e_N_getChars_36 : decode (mB I_N_getChars) 36 = .ok (.imul, 1) := by decide +kernel
theorem e_N_getChars_37 : decode (mB I_N_getChars) 37 = .ok (.iload_n 0, 1) := by decide +kernel
theorem e_N_getChars_38 : decode (mB I_N_getChars) 38 = .ok (.isub, 1) := by decide +kernel
theorem e_N_getChars_39 : decode (mB I_N_getChars) 39 = .ok (.istore 4, 2) := by decide +kernel
theorem e_N_getChars_41 : decode (mB I_N_getChars) 41 = .ok (.iload_n 3, 1) := by decide +kernel
theorem e_N_getChars_42 : decode (mB I_N_getChars) 42 = .ok (.istore_n 0, 1) := by decide +kernel
theorem e_N_getChars_43 : decode (mB I_N_getChars) 43 = .ok (.aload_n 2, 1) := by decide +kernel
theorem e_N_getChars_44 : decode (mB I_N_getChars) 44 = .ok (.iinc 5 (-1), 3) := by decide +kernel
theorem e_N_getChars_47 : decode (mB I_N_getChars) 47 = .ok (.iload 5, 2) := by decide +kernel
theorem e_N_getChars_49 : decode (mB I_N_getChars) 49 = .ok (.getstatic 83, 3) := by decide +kernel
theorem e_N_getChars_52 : decode (mB I_N_getChars) 52 = .ok (.iload 4, 2) := by decide +kernel
theorem e_N_getChars_54 : decode (mB I_N_getChars) 54 = .ok (.baload, 1) := by decide +kernel
theorem e_N_getChars_55 : decode (mB I_N_getChars) 55 = .ok (.bastore, 1) := by decide +kernel
theorem e_N_getChars_56 : decode (mB I_N_getChars) 56 = .ok (.aload_n 2, 1) := by decide +kernel
theorem e_N_getChars_57 : decode (mB I_N_getChars) 57 = .ok (.iinc 5 (-1), 3) := by decide +kernel
theorem e_N_getChars_60 : decode (mB I_N_getChars) 60 = .ok (.iload 5, 2) := by decide +kernel
theorem e_N_getChars_62 : decode (mB I_N_getChars) 62 = .ok (.getstatic 87, 3) := by decide +kernel
theorem e_N_getChars_65 : decode (mB I_N_getChars) 65 = .ok (.iload 4, 2) := by decide +kernel
theorem e_N_getChars_67 : decode (mB I_N_getChars) 67 = .ok (.baload, 1) := by decide +kernel
theorem e_N_getChars_68 : decode (mB I_N_getChars) 68 = .ok (.bastore, 1) := by decide +kernel
theorem e_N_getChars_69 : decode (mB I_N_getChars) 69 = .ok (.goto (-47), 3) := by decide +kernel
theorem e_N_getChars_72 : decode (mB I_N_getChars) 72 = .ok (.aload_n 2, 1) := by decide +kernel
theorem e_N_getChars_73 : decode (mB I_N_getChars) 73 = .ok (.iinc 5 (-1), 3) := by decide +kernel
theorem e_N_getChars_76 : decode (mB I_N_getChars) 76 = .ok (.iload 5, 2) := by decide +kernel
theorem e_N_getChars_78 : decode (mB I_N_getChars) 78 = .ok (.getstatic 83, 3) := by decide +kernel
theorem e_N_getChars_81 : decode (mB I_N_getChars) 81 = .ok (.iload_n 0, 1) := by decide +kernel
theorem e_N_getChars_82 : decode (mB I_N_getChars) 82 = .ok (.ineg, 1) := by decide +kernel
theorem e_N_getChars_83 : decode (mB I_N_getChars) 83 = .ok (.baload, 1) := by decide +kernel
theorem e_N_getChars_84 : decode (mB I_N_getChars) 84 = .ok (.bastore, 1) := by decide +kernel
theorem e_N_getChars_85 : decode (mB I_N_getChars) 85 = .ok (.iload_n 0, 1) := by decide +kernel
theorem e_N_getChars_86 : decode (mB I_N_getChars) 86 = .ok (.bipush (-9), 2) := by decide +kernel
theorem e_N_getChars_88 : decode (mB I_N_getChars) 88 = .ok (.if_icmp .ge 16, 3) := by decide +kernel
theorem e_N_getChars_91 : decode (mB I_N_getChars) 91 = .ok (.aload_n 2, 1) := by decide +kernel
theorem e_N_getChars_92 : decode (mB I_N_getChars) 92 = .ok (.iinc 5 (-1), 3) := by decide +kernel
theorem e_N_getChars_95 : decode (mB I_N_getChars) 95 = .ok (.iload 5, 2) := by decide +kernel
theorem e_N_getChars_97 : decode (mB I_N_getChars) 97 = .ok (.getstatic 87, 3) := by decide +kernel
theorem e_N_getChars_100 : decode (mB I_N_getChars) 100 = .ok (.iload_n 0, 1) := by decide +kernel
theorem e_N_getChars_101 : decode (mB I_N_getChars) 101 = .ok (.ineg, 1) := by decide +kernel
theorem e_N_getChars_102 : decode (mB I_N_getChars) 102 = .ok (.baload, 1) := by decide +kernel
theorem e_N_getChars_103 : decode (mB I_N_getChars) 103 = .ok (.bastore, 1) := by decide +kernel
theorem e_N_getChars_104 : decode (mB I_N_getChars) 104 = .ok (.iload 6, 2) := by decide +kernel
theorem e_N_getChars_106 : decode (mB I_N_getChars) 106 = .ok (.ifCond .eq 12, 3) := by decide +kernel
theorem e_N_getChars_109 : decode (mB I_N_getChars) 109 = .ok (.aload_n 2, 1) := by decide +kernel
theorem e_N_getChars_110 : decode (mB I_N_getChars) 110 = .ok (.iinc 5 (-1), 3) := by decide +kernel
theorem e_N_getChars_113 : decode (mB I_N_getChars) 113 = .ok (.iload 5, 2) := by decide +kernel
theorem e_N_getChars_115 : decode (mB I_N_getChars) 115 = .ok (.bipush 45, 2) := by decide +kernel
theorem e_N_getChars_117 : decode (mB I_N_getChars) 117 = .ok (.bastore, 1) := by decide +kernel
theorem e_N_getChars_118 : decode (mB I_N_getChars) 118 = .ok (.iload 5, 2) := by decide +kernel
theorem e_N_getChars_120 : decode (mB I_N_getChars) 120 = .ok (.ireturn, 1) := by decide +kernel
theorem e_A_appendI_0 : decode (mB I_A_appendI) 0 = .ok (.aload_n 0, 1) := by decide +kernel
theorem e_A_appendI_1 : decode (mB I_A_appendI) 1 = .ok (.getfield 79, 3) := by decide +kernel
theorem e_A_appendI_4 : decode (mB I_A_appendI) 4 = .ok (.istore_n 2, 1) := by decide +kernel
theorem e_A_appendI_5 : decode (mB I_A_appendI) 5 = .ok (.iload_n 2, 1) := by decide +kernel
theorem e_A_appendI_6 : decode (mB I_A_appendI) 6 = .ok (.iload_n 1, 1) := by decide +kernel
theorem e_A_appendI_7 : decode (mB I_A_appendI) 7 = .ok (.invokestatic 245, 3) := by decide +kernel
theorem e_A_appendI_10 : decode (mB I_A_appendI) 10 = .ok (.iadd, 1) := by decide +kernel
theorem e_A_appendI_11 : decode (mB I_A_appendI) 11 = .ok (.istore_n 3, 1) := by decide +kernel
theorem e_A_appendI_12 : decode (mB I_A_appendI) 12 = .ok (.aload_n 0, 1) := by decide +kernel
theorem e_A_appendI_13 : decode (mB I_A_appendI) 13 = .ok (.iload_n 3, 1) := by decide +kernel
theorem e_A_appendI_14 : decode (mB I_A_appendI) 14 = .ok (.invokevirtual 100, 3) := by decide +kernel
theorem e_A_appendI_17 : decode (mB I_A_appendI) 17 = .ok (.aload_n 0, 1) := by decide +kernel
theorem e_A_appendI_18 : decode (mB I_A_appendI) 18 = .ok (.invokevirtual 83, 3) := by decide +kernel
theorem e_A_appendI_21 : decode (mB I_A_appendI) 21 = .ok (.ifCond .eq 16, 3) := by decide +kernel
theorem e_A_appendI_24 : decode (mB I_A_appendI) 24 = .ok (.iload_n 1, 1) := by decide +kernel
theorem e_A_appendI_25 : decode (mB I_A_appendI) 25 = .ok (.iload_n 3, 1) := by decide +kernel
theorem e_A_appendI_26 : decode (mB I_A_appendI) 26 = .ok (.aload_n 0, 1) := by decide +kernel
theorem e_A_appendI_27 : decode (mB I_A_appendI) 27 = .ok (.getfield 15, 3) := by decide +kernel
theorem e_A_appendI_30 : decode (mB I_A_appendI) 30 = .ok (.invokestatic 248, 3) := by decide +kernel
theorem e_A_appendI_33 : decode (mB I_A_appendI) 33 = .ok (.pop, 1) := by decide +kernel
theorem e_A_appendI_34 : decode (mB I_A_appendI) 34 = .ok (.goto 14, 3) := by decide +kernel
theorem e_A_appendI_48 : decode (mB I_A_appendI) 48 = .ok (.aload_n 0, 1) := by decide +kernel
theorem e_A_appendI_49 : decode (mB I_A_appendI) 49 = .ok (.iload_n 3, 1) := by decide +kernel
theorem e_A_appendI_50 : decode (mB I_A_appendI) 50 = .ok (.putfield 79, 3) := by decide +kernel
theorem e_A_appendI_53 : decode (mB I_A_appendI) 53 = .ok (.aload_n 0, 1) := by decide +kernel
theorem e_A_appendI_54 : decode (mB I_A_appendI) 54 = .ok (.areturn, 1) := by decide +kernel
theorem e_B_appendI_0 : decode (mB I_B_appendI) 0 = .ok (.aload_n 0, 1) := by decide +kernel
theorem e_B_appendI_1 : decode (mB I_B_appendI) 1 = .ok (.iload_n 1, 1) := by decide +kernel
theorem e_B_appendI_2 : decode (mB I_B_appendI) 2 = .ok (.invokespecial 53, 3) := by decide +kernel
theorem e_B_appendI_5 : decode (mB I_B_appendI) 5 = .ok (.pop, 1) := by decide +kernel
theorem e_B_appendI_6 : decode (mB I_B_appendI) 6 = .ok (.aload_n 0, 1) := by decide +kernel
theorem e_B_appendI_7 : decode (mB I_B_appendI) 7 = .ok (.areturn, 1) := by decide +kernel
theorem e_A_getValue_0 : decode (mB I_A_getValue) 0 = .ok (.aload_n 0, 1) := by decide +kernel
theorem e_A_getValue_1 : decode (mB I_A_getValue) 1 = .ok (.getfield 15, 3) := by decide +kernel
theorem e_A_getValue_4 : decode (mB I_A_getValue) 4 = .ok (.areturn, 1) := by decide +kernel
theorem e_A_length_0 : decode (mB I_A_length) 0 = .ok (.aload_n 0, 1) := by decide +kernel
theorem e_A_length_1 : decode (mB I_A_length) 1 = .ok (.getfield 79, 3) := by decide +kernel
theorem e_A_length_4 : decode (mB I_A_length) 4 = .ok (.ireturn, 1) := by decide +kernel
