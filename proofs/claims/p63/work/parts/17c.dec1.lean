/-! decoded instructions of the law -/
theorem e_W_law_2 : decode code 2 = .ok (.iload_n 1, 1) := by decide +kernel
theorem e_W_law_3 : decode code 3 = .ok (.aload_n 0, 1) := by decide +kernel
theorem e_W_law_4 : decode code 4 = .ok (.arraylength, 1) := by decide +kernel
theorem e_W_law_5 : decode code 5 = .ok (.if_icmp .ge 257, 3) := by decide +kernel
theorem e_W_law_8 : decode code 8 = .ok (.iload_n 1, 1) := by decide +kernel
theorem e_W_law_9 : decode code 9 = .ok (.iconst 1, 1) := by decide +kernel
theorem e_W_law_10 : decode code 10 = .ok (.if_icmp .ge 252, 3) := by decide +kernel
theorem e_W_law_22 : decode code 22 = .ok (.astore_n 2, 1) := by decide +kernel
theorem e_W_law_23 : decode code 23 = .ok (.new 8, 3) := by decide +kernel
theorem e_W_law_26 : decode code 26 = .ok (.dup, 1) := by decide +kernel
theorem e_W_law_27 : decode code 27 = .ok (.invokespecial 258, 3) := by decide +kernel
theorem e_W_law_30 : decode code 30 = .ok (.astore_n 3, 1) := by decide +kernel
theorem e_W_law_31 : decode code 31 = .ok (.aload_n 3, 1) := by decide +kernel
theorem e_W_law_32 : decode code 32 = .ok (.new 259, 3) := by decide +kernel
theorem e_W_law_35 : decode code 35 = .ok (.dup, 1) := by decide +kernel
theorem e_W_law_36 : decode code 36 = .ok (.invokespecial 261, 3) := by decide +kernel
theorem e_W_law_39 : decode code 39 = .ok (.ldc_w 262, 3) := by decide +kernel
theorem e_W_law_42 : decode code 42 = .ok (.invokevirtual 264, 3) := by decide +kernel
theorem e_W_law_45 : decode code 45 = .ok (.aload_n 2, 1) := by decide +kernel
theorem e_W_law_46 : decode code 46 = .ok (.bipush 100, 2) := by decide +kernel
theorem e_W_law_48 : decode code 48 = .ok (.invokestatic 217, 3) := by decide +kernel
theorem e_W_law_51 : decode code 51 = .ok (.invokevirtual 267, 3) := by decide +kernel
theorem e_W_law_54 : decode code 54 = .ok (.ldc_w 270, 3) := by decide +kernel
theorem e_W_law_57 : decode code 57 = .ok (.invokevirtual 264, 3) := by decide +kernel
theorem e_W_law_60 : decode code 60 = .ok (.bipush 100, 2) := by decide +kernel
theorem e_W_law_62 : decode code 62 = .ok (.aload_n 2, 1) := by decide +kernel
theorem e_W_law_63 : decode code 63 = .ok (.sipush 900, 3) := by decide +kernel
theorem e_W_law_66 : decode code 66 = .ok (.invokestatic 217, 3) := by decide +kernel
theorem e_W_law_69 : decode code 69 = .ok (.iadd, 1) := by decide +kernel
theorem e_W_law_70 : decode code 70 = .ok (.invokevirtual 267, 3) := by decide +kernel
theorem e_W_law_73 : decode code 73 = .ok (.ldc_w 272, 3) := by decide +kernel
theorem e_W_law_76 : decode code 76 = .ok (.invokevirtual 264, 3) := by decide +kernel
theorem e_W_law_79 : decode code 79 = .ok (.invokevirtual 274, 3) := by decide +kernel
theorem e_W_law_82 : decode code 82 = .ok (.invokestatic 278, 3) := by decide +kernel
theorem e_W_law_85 : decode code 85 = .ok (.ifCond .eq 17, 3) := by decide +kernel
theorem e_W_law_88 : decode code 88 = .ok (.aload_n 3, 1) := by decide +kernel
theorem e_W_law_89 : decode code 89 = .ok (.invokevirtual 282, 3) := by decide +kernel
theorem e_W_law_92 : decode code 92 = .ok (.ifCond .ne 10, 3) := by decide +kernel
theorem e_W_law_95 : decode code 95 = .ok (.aload_n 3, 1) := by decide +kernel
theorem e_W_law_96 : decode code 96 = .ok (.invokestatic 285, 3) := by decide +kernel
theorem e_W_law_99 : decode code 99 = .ok (.ifCond .ne 5, 3) := by decide +kernel
theorem e_W_law_102 : decode code 102 = .ok (.iconst 0, 1) := by decide +kernel
theorem e_W_law_103 : decode code 103 = .ok (.ireturn, 1) := by decide +kernel
theorem e_W_law_104 : decode code 104 = .ok (.iconst 0, 1) := by decide +kernel
theorem e_W_law_105 : decode code 105 = .ok (.istore 4, 2) := by decide +kernel
theorem e_W_law_107 : decode code 107 = .ok (.iload 4, 2) := by decide +kernel
theorem e_W_law_109 : decode code 109 = .ok (.bipush 16, 2) := by decide +kernel
theorem e_W_law_111 : decode code 111 = .ok (.if_icmp .ge 26, 3) := by decide +kernel
theorem e_W_law_114 : decode code 114 = .ok (.aload_n 3, 1) := by decide +kernel
theorem e_W_law_115 : decode code 115 = .ok (.aload_n 2, 1) := by decide +kernel
theorem e_W_law_116 : decode code 116 = .ok (.invokestatic 289, 3) := by decide +kernel
theorem e_W_law_119 : decode code 119 = .ok (.ifCond .eq 10, 3) := by decide +kernel
theorem e_W_law_122 : decode code 122 = .ok (.aload_n 3, 1) := by decide +kernel
theorem e_W_law_123 : decode code 123 = .ok (.invokestatic 285, 3) := by decide +kernel
theorem e_W_law_126 : decode code 126 = .ok (.ifCond .ne 5, 3) := by decide +kernel
theorem e_W_law_129 : decode code 129 = .ok (.iconst 0, 1) := by decide +kernel
theorem e_W_law_130 : decode code 130 = .ok (.ireturn, 1) := by decide +kernel
theorem e_W_law_131 : decode code 131 = .ok (.iinc 4 1, 3) := by decide +kernel
theorem e_W_law_134 : decode code 134 = .ok (.goto (-27), 3) := by decide +kernel
theorem e_W_law_137 : decode code 137 = .ok (.aload_n 3, 1) := by decide +kernel
theorem e_W_law_138 : decode code 138 = .ok (.invokevirtual 293, 3) := by decide +kernel
theorem e_W_law_141 : decode code 141 = .ok (.istore 4, 2) := by decide +kernel
theorem e_W_law_143 : decode code 143 = .ok (.aload_n 3, 1) := by decide +kernel
theorem e_W_law_144 : decode code 144 = .ok (.invokevirtual 126, 3) := by decide +kernel
theorem e_W_law_147 : decode code 147 = .ok (.istore 5, 2) := by decide +kernel
theorem e_W_law_149 : decode code 149 = .ok (.aload_n 3, 1) := by decide +kernel
theorem e_W_law_150 : decode code 150 = .ok (.invokevirtual 175, 3) := by decide +kernel
theorem e_W_law_153 : decode code 153 = .ok (.istore 6, 2) := by decide +kernel
theorem e_W_law_155 : decode code 155 = .ok (.aload_n 3, 1) := by decide +kernel
theorem e_W_law_156 : decode code 156 = .ok (.invokevirtual 178, 3) := by decide +kernel
theorem e_W_law_159 : decode code 159 = .ok (.istore 7, 2) := by decide +kernel
theorem e_W_law_161 : decode code 161 = .ok (.aload_n 3, 1) := by decide +kernel
theorem e_W_law_162 : decode code 162 = .ok (.invokevirtual 160, 3) := by decide +kernel
theorem e_W_law_165 : decode code 165 = .ok (.istore 8, 2) := by decide +kernel
theorem e_W_law_167 : decode code 167 = .ok (.aload_n 3, 1) := by decide +kernel
theorem e_W_law_168 : decode code 168 = .ok (.iload 8, 2) := by decide +kernel
theorem e_W_law_170 : decode code 170 = .ok (.ifCond .ne 7, 3) := by decide +kernel
theorem e_W_law_173 : decode code 173 = .ok (.iconst 1, 1) := by decide +kernel
theorem e_W_law_174 : decode code 174 = .ok (.goto 4, 3) := by decide +kernel
theorem e_W_law_177 : decode code 177 = .ok (.iconst 0, 1) := by decide +kernel
theorem e_W_law_178 : decode code 178 = .ok (.invokevirtual 251, 3) := by decide +kernel
theorem e_W_law_181 : decode code 181 = .ok (.iload 8, 2) := by decide +kernel
theorem e_W_law_183 : decode code 183 = .ok (.if_icmp .ne 71, 3) := by decide +kernel
theorem e_W_law_186 : decode code 186 = .ok (.aload_n 3, 1) := by decide +kernel
theorem e_W_law_187 : decode code 187 = .ok (.invokestatic 285, 3) := by decide +kernel
theorem e_W_law_190 : decode code 190 = .ok (.ifCond .eq 64, 3) := by decide +kernel
theorem e_W_law_193 : decode code 193 = .ok (.aload_n 3, 1) := by decide +kernel
theorem e_W_law_194 : decode code 194 = .ok (.invokestatic 296, 3) := by decide +kernel
theorem e_W_law_197 : decode code 197 = .ok (.bipush 8, 2) := by decide +kernel
theorem e_W_law_199 : decode code 199 = .ok (.iload 4, 2) := by decide +kernel
theorem e_W_law_201 : decode code 201 = .ok (.iconst 1, 1) := by decide +kernel
theorem e_W_law_202 : decode code 202 = .ok (.iadd, 1) := by decide +kernel
theorem e_W_law_203 : decode code 203 = .ok (.invokestatic 298, 3) := by decide +kernel
theorem e_W_law_206 : decode code 206 = .ok (.iconst 1, 1) := by decide +kernel
theorem e_W_law_207 : decode code 207 = .ok (.isub, 1) := by decide +kernel
theorem e_W_law_208 : decode code 208 = .ok (.if_icmp .ne 46, 3) := by decide +kernel
theorem e_W_law_211 : decode code 211 = .ok (.aload_n 3, 1) := by decide +kernel
theorem e_W_law_212 : decode code 212 = .ok (.invokevirtual 160, 3) := by decide +kernel
theorem e_W_law_215 : decode code 215 = .ok (.iload 8, 2) := by decide +kernel
theorem e_W_law_217 : decode code 217 = .ok (.if_icmp .ne 37, 3) := by decide +kernel
theorem e_W_law_220 : decode code 220 = .ok (.aload_n 3, 1) := by decide +kernel
theorem e_W_law_221 : decode code 221 = .ok (.invokevirtual 126, 3) := by decide +kernel
theorem e_W_law_224 : decode code 224 = .ok (.iload 5, 2) := by decide +kernel
theorem e_W_law_226 : decode code 226 = .ok (.if_icmp .ne 28, 3) := by decide +kernel
theorem e_W_law_229 : decode code 229 = .ok (.aload_n 3, 1) := by decide +kernel
theorem e_W_law_230 : decode code 230 = .ok (.invokevirtual 175, 3) := by decide +kernel
theorem e_W_law_233 : decode code 233 = .ok (.iload 6, 2) := by decide +kernel
theorem e_W_law_235 : decode code 235 = .ok (.if_icmp .ne 19, 3) := by decide +kernel
theorem e_W_law_238 : decode code 238 = .ok (.aload_n 3, 1) := by decide +kernel
theorem e_W_law_239 : decode code 239 = .ok (.invokevirtual 178, 3) := by decide +kernel
theorem e_W_law_242 : decode code 242 = .ok (.iload 7, 2) := by decide +kernel
theorem e_W_law_244 : decode code 244 = .ok (.if_icmp .ne 10, 3) := by decide +kernel
theorem e_W_law_247 : decode code 247 = .ok (.aload_n 3, 1) := by decide +kernel
theorem e_W_law_248 : decode code 248 = .ok (.invokestatic 285, 3) := by decide +kernel
theorem e_W_law_251 : decode code 251 = .ok (.ifCond .ne 5, 3) := by decide +kernel
theorem e_W_law_254 : decode code 254 = .ok (.iconst 0, 1) := by decide +kernel
theorem e_W_law_255 : decode code 255 = .ok (.ireturn, 1) := by decide +kernel
theorem e_W_law_256 : decode code 256 = .ok (.iinc 1 1, 3) := by decide +kernel
theorem e_W_law_259 : decode code 259 = .ok (.goto (-257), 3) := by decide +kernel
theorem e_W_law_262 : decode code 262 = .ok (.iconst 1, 1) := by decide +kernel
theorem e_W_law_263 : decode code 263 = .ok (.ireturn, 1) := by decide +kernel
