/-! decoded instructions of the law -/
theorem e_W_isSound_0 : decode (mB I_W_isSound) 0 = .ok (.aload_n 0, 1) := by decide +kernel
theorem e_W_isSound_1 : decode (mB I_W_isSound) 1 = .ok (.invokevirtual 126, 3) := by decide +kernel
theorem e_W_isSound_4 : decode (mB I_W_isSound) 4 = .ok (.istore_n 1, 1) := by decide +kernel
theorem e_W_isSound_5 : decode (mB I_W_isSound) 5 = .ok (.iconst 0, 1) := by decide +kernel
theorem e_W_isSound_6 : decode (mB I_W_isSound) 6 = .ok (.istore_n 2, 1) := by decide +kernel
theorem e_W_isSound_7 : decode (mB I_W_isSound) 7 = .ok (.iconst 0, 1) := by decide +kernel
theorem e_W_isSound_8 : decode (mB I_W_isSound) 8 = .ok (.istore_n 3, 1) := by decide +kernel
theorem e_W_isSound_9 : decode (mB I_W_isSound) 9 = .ok (.iconst 0, 1) := by decide +kernel
theorem e_W_isSound_10 : decode (mB I_W_isSound) 10 = .ok (.istore 4, 2) := by decide +kernel
theorem e_W_isSound_12 : decode (mB I_W_isSound) 12 = .ok (.iconst 0, 1) := by decide +kernel
theorem e_W_isSound_13 : decode (mB I_W_isSound) 13 = .ok (.istore 5, 2) := by decide +kernel
theorem e_W_isSound_15 : decode (mB I_W_isSound) 15 = .ok (.iconst (-1), 1) := by decide +kernel
theorem e_W_isSound_16 : decode (mB I_W_isSound) 16 = .ok (.istore 6, 2) := by decide +kernel
theorem e_W_isSound_18 : decode (mB I_W_isSound) 18 = .ok (.aload_n 0, 1) := by decide +kernel
theorem e_W_isSound_19 : decode (mB I_W_isSound) 19 = .ok (.invokevirtual 129, 3) := by decide +kernel
theorem e_W_isSound_22 : decode (mB I_W_isSound) 22 = .ok (.iload_n 1, 1) := by decide +kernel
theorem e_W_isSound_23 : decode (mB I_W_isSound) 23 = .ok (.iconst 1, 1) := by decide +kernel
theorem e_W_isSound_24 : decode (mB I_W_isSound) 24 = .ok (.iadd, 1) := by decide +kernel
theorem e_W_isSound_25 : decode (mB I_W_isSound) 25 = .ok (.if_icmp .ne 39, 3) := by decide +kernel
theorem e_W_isSound_28 : decode (mB I_W_isSound) 28 = .ok (.aload_n 0, 1) := by decide +kernel
theorem e_W_isSound_29 : decode (mB I_W_isSound) 29 = .ok (.iconst 0, 1) := by decide +kernel
theorem e_W_isSound_30 : decode (mB I_W_isSound) 30 = .ok (.invokestatic 132, 3) := by decide +kernel
theorem e_W_isSound_33 : decode (mB I_W_isSound) 33 = .ok (.ifCond .ne 31, 3) := by decide +kernel
theorem e_W_isSound_36 : decode (mB I_W_isSound) 36 = .ok (.aload_n 0, 1) := by decide +kernel
theorem e_W_isSound_37 : decode (mB I_W_isSound) 37 = .ok (.iconst 0, 1) := by decide +kernel
theorem e_W_isSound_38 : decode (mB I_W_isSound) 38 = .ok (.invokestatic 134, 3) := by decide +kernel
theorem e_W_isSound_41 : decode (mB I_W_isSound) 41 = .ok (.ifCond .ne 23, 3) := by decide +kernel
theorem e_W_isSound_44 : decode (mB I_W_isSound) 44 = .ok (.aload_n 0, 1) := by decide +kernel
theorem e_W_isSound_45 : decode (mB I_W_isSound) 45 = .ok (.iconst 0, 1) := by decide +kernel
theorem e_W_isSound_46 : decode (mB I_W_isSound) 46 = .ok (.invokestatic 136, 3) := by decide +kernel
theorem e_W_isSound_49 : decode (mB I_W_isSound) 49 = .ok (.ifCond .ne 15, 3) := by decide +kernel
theorem e_W_isSound_52 : decode (mB I_W_isSound) 52 = .ok (.aload_n 0, 1) := by decide +kernel
theorem e_W_isSound_53 : decode (mB I_W_isSound) 53 = .ok (.iload_n 1, 1) := by decide +kernel
theorem e_W_isSound_54 : decode (mB I_W_isSound) 54 = .ok (.iconst 1, 1) := by decide +kernel
theorem e_W_isSound_55 : decode (mB I_W_isSound) 55 = .ok (.iadd, 1) := by decide +kernel
theorem e_W_isSound_56 : decode (mB I_W_isSound) 56 = .ok (.invokestatic 132, 3) := by decide +kernel
theorem e_W_isSound_59 : decode (mB I_W_isSound) 59 = .ok (.ldc 32, 2) := by decide +kernel
theorem e_W_isSound_61 : decode (mB I_W_isSound) 61 = .ok (.if_icmp .eq 5, 3) := by decide +kernel
theorem e_W_isSound_64 : decode (mB I_W_isSound) 64 = .ok (.iconst 0, 1) := by decide +kernel
theorem e_W_isSound_65 : decode (mB I_W_isSound) 65 = .ok (.ireturn, 1) := by decide +kernel
theorem e_W_isSound_66 : decode (mB I_W_isSound) 66 = .ok (.iconst 0, 1) := by decide +kernel
theorem e_W_isSound_67 : decode (mB I_W_isSound) 67 = .ok (.istore 7, 2) := by decide +kernel
theorem e_W_isSound_69 : decode (mB I_W_isSound) 69 = .ok (.iload 7, 2) := by decide +kernel
theorem e_W_isSound_71 : decode (mB I_W_isSound) 71 = .ok (.iload_n 1, 1) := by decide +kernel
theorem e_W_isSound_72 : decode (mB I_W_isSound) 72 = .ok (.if_icmp .ge 409, 3) := by decide +kernel
theorem e_W_isSound_75 : decode (mB I_W_isSound) 75 = .ok (.aload_n 0, 1) := by decide +kernel
theorem e_W_isSound_76 : decode (mB I_W_isSound) 76 = .ok (.iload 7, 2) := by decide +kernel
theorem e_W_isSound_78 : decode (mB I_W_isSound) 78 = .ok (.invokestatic 138, 3) := by decide +kernel
theorem e_W_isSound_81 : decode (mB I_W_isSound) 81 = .ok (.istore 8, 2) := by decide +kernel
theorem e_W_isSound_83 : decode (mB I_W_isSound) 83 = .ok (.aload_n 0, 1) := by decide +kernel
theorem e_W_isSound_84 : decode (mB I_W_isSound) 84 = .ok (.iload 7, 2) := by decide +kernel
theorem e_W_isSound_86 : decode (mB I_W_isSound) 86 = .ok (.invokestatic 140, 3) := by decide +kernel
theorem e_W_isSound_89 : decode (mB I_W_isSound) 89 = .ok (.istore 9, 2) := by decide +kernel
theorem e_W_isSound_91 : decode (mB I_W_isSound) 91 = .ok (.iload 8, 2) := by decide +kernel
theorem e_W_isSound_93 : decode (mB I_W_isSound) 93 = .ok (.ifCond .lt 55, 3) := by decide +kernel
theorem e_W_isSound_96 : decode (mB I_W_isSound) 96 = .ok (.iload 8, 2) := by decide +kernel
theorem e_W_isSound_98 : decode (mB I_W_isSound) 98 = .ok (.aload_n 0, 1) := by decide +kernel
theorem e_W_isSound_99 : decode (mB I_W_isSound) 99 = .ok (.iload 7, 2) := by decide +kernel
theorem e_W_isSound_101 : decode (mB I_W_isSound) 101 = .ok (.invokestatic 142, 3) := by decide +kernel
theorem e_W_isSound_104 : decode (mB I_W_isSound) 104 = .ok (.if_icmp .gt 44, 3) := by decide +kernel
theorem e_W_isSound_107 : decode (mB I_W_isSound) 107 = .ok (.aload_n 0, 1) := by decide +kernel
theorem e_W_isSound_108 : decode (mB I_W_isSound) 108 = .ok (.iload 7, 2) := by decide +kernel
theorem e_W_isSound_110 : decode (mB I_W_isSound) 110 = .ok (.invokestatic 144, 3) := by decide +kernel
theorem e_W_isSound_113 : decode (mB I_W_isSound) 113 = .ok (.iconst 1, 1) := by decide +kernel
theorem e_W_isSound_114 : decode (mB I_W_isSound) 114 = .ok (.if_icmp .ne 36, 3) := by decide +kernel
theorem e_W_isSound_117 : decode (mB I_W_isSound) 117 = .ok (.iload 8, 2) := by decide +kernel
theorem e_W_isSound_119 : decode (mB I_W_isSound) 119 = .ok (.aload_n 0, 1) := by decide +kernel
theorem e_W_isSound_120 : decode (mB I_W_isSound) 120 = .ok (.iload 7, 2) := by decide +kernel
theorem e_W_isSound_122 : decode (mB I_W_isSound) 122 = .ok (.invokestatic 146, 3) := by decide +kernel
theorem e_W_isSound_125 : decode (mB I_W_isSound) 125 = .ok (.if_icmp .ne 23, 3) := by decide +kernel
theorem e_W_isSound_128 : decode (mB I_W_isSound) 128 = .ok (.aload_n 0, 1) := by decide +kernel
theorem e_W_isSound_129 : decode (mB I_W_isSound) 129 = .ok (.iload 7, 2) := by decide +kernel
theorem e_W_isSound_131 : decode (mB I_W_isSound) 131 = .ok (.invokestatic 142, 3) := by decide +kernel
theorem e_W_isSound_134 : decode (mB I_W_isSound) 134 = .ok (.iload 8, 2) := by decide +kernel
theorem e_W_isSound_136 : decode (mB I_W_isSound) 136 = .ok (.if_icmp .ne 12, 3) := by decide +kernel
theorem e_W_isSound_139 : decode (mB I_W_isSound) 139 = .ok (.aload_n 0, 1) := by decide +kernel
theorem e_W_isSound_140 : decode (mB I_W_isSound) 140 = .ok (.iload 7, 2) := by decide +kernel
theorem e_W_isSound_142 : decode (mB I_W_isSound) 142 = .ok (.invokestatic 148, 3) := by decide +kernel
theorem e_W_isSound_145 : decode (mB I_W_isSound) 145 = .ok (.ifCond .eq 5, 3) := by decide +kernel
theorem e_W_isSound_148 : decode (mB I_W_isSound) 148 = .ok (.iconst 0, 1) := by decide +kernel
theorem e_W_isSound_149 : decode (mB I_W_isSound) 149 = .ok (.ireturn, 1) := by decide +kernel
theorem e_W_isSound_150 : decode (mB I_W_isSound) 150 = .ok (.iload 9, 2) := by decide +kernel
theorem e_W_isSound_152 : decode (mB I_W_isSound) 152 = .ok (.sipush 180, 3) := by decide +kernel
theorem e_W_isSound_155 : decode (mB I_W_isSound) 155 = .ok (.irem, 1) := by decide +kernel
theorem e_W_isSound_156 : decode (mB I_W_isSound) 156 = .ok (.ifCond .ne 34, 3) := by decide +kernel
theorem e_W_isSound_159 : decode (mB I_W_isSound) 159 = .ok (.aload_n 0, 1) := by decide +kernel
theorem e_W_isSound_160 : decode (mB I_W_isSound) 160 = .ok (.iload 7, 2) := by decide +kernel
theorem e_W_isSound_162 : decode (mB I_W_isSound) 162 = .ok (.invokestatic 150, 3) := by decide +kernel
theorem e_W_isSound_165 : decode (mB I_W_isSound) 165 = .ok (.ifCond .ne 69, 3) := by decide +kernel
theorem e_W_isSound_168 : decode (mB I_W_isSound) 168 = .ok (.aload_n 0, 1) := by decide +kernel
theorem e_W_isSound_169 : decode (mB I_W_isSound) 169 = .ok (.iload 7, 2) := by decide +kernel
theorem e_W_isSound_171 : decode (mB I_W_isSound) 171 = .ok (.invokestatic 152, 3) := by decide +kernel
theorem e_W_isSound_174 : decode (mB I_W_isSound) 174 = .ok (.iload 9, 2) := by decide +kernel
theorem e_W_isSound_176 : decode (mB I_W_isSound) 176 = .ok (.ifCond .ne 8, 3) := by decide +kernel
theorem e_W_isSound_179 : decode (mB I_W_isSound) 179 = .ok (.iload 8, 2) := by decide +kernel
theorem e_W_isSound_181 : decode (mB I_W_isSound) 181 = .ok (.goto 6, 3) := by decide +kernel
theorem e_W_isSound_184 : decode (mB I_W_isSound) 184 = .ok (.iload 8, 2) := by decide +kernel
theorem e_W_isSound_186 : decode (mB I_W_isSound) 186 = .ok (.ineg, 1) := by decide +kernel
theorem e_W_isSound_187 : decode (mB I_W_isSound) 187 = .ok (.if_icmp .ne 47, 3) := by decide +kernel
theorem e_W_isSound_190 : decode (mB I_W_isSound) 190 = .ok (.iload 9, 2) := by decide +kernel
theorem e_W_isSound_192 : decode (mB I_W_isSound) 192 = .ok (.sipush 180, 3) := by decide +kernel
theorem e_W_isSound_195 : decode (mB I_W_isSound) 195 = .ok (.irem, 1) := by decide +kernel
theorem e_W_isSound_196 : decode (mB I_W_isSound) 196 = .ok (.bipush 90, 2) := by decide +kernel
theorem e_W_isSound_198 : decode (mB I_W_isSound) 198 = .ok (.if_icmp .ne 38, 3) := by decide +kernel
theorem e_W_isSound_201 : decode (mB I_W_isSound) 201 = .ok (.aload_n 0, 1) := by decide +kernel
theorem e_W_isSound_202 : decode (mB I_W_isSound) 202 = .ok (.iload 7, 2) := by decide +kernel
theorem e_W_isSound_204 : decode (mB I_W_isSound) 204 = .ok (.invokestatic 152, 3) := by decide +kernel
theorem e_W_isSound_207 : decode (mB I_W_isSound) 207 = .ok (.ifCond .ne 27, 3) := by decide +kernel
theorem e_W_isSound_210 : decode (mB I_W_isSound) 210 = .ok (.aload_n 0, 1) := by decide +kernel
theorem e_W_isSound_211 : decode (mB I_W_isSound) 211 = .ok (.iload 7, 2) := by decide +kernel
theorem e_W_isSound_213 : decode (mB I_W_isSound) 213 = .ok (.invokestatic 150, 3) := by decide +kernel
theorem e_W_isSound_216 : decode (mB I_W_isSound) 216 = .ok (.iload 9, 2) := by decide +kernel
theorem e_W_isSound_218 : decode (mB I_W_isSound) 218 = .ok (.bipush 90, 2) := by decide +kernel
theorem e_W_isSound_220 : decode (mB I_W_isSound) 220 = .ok (.if_icmp .ne 8, 3) := by decide +kernel
theorem e_W_isSound_223 : decode (mB I_W_isSound) 223 = .ok (.iload 8, 2) := by decide +kernel
theorem e_W_isSound_225 : decode (mB I_W_isSound) 225 = .ok (.goto 6, 3) := by decide +kernel
theorem e_W_isSound_228 : decode (mB I_W_isSound) 228 = .ok (.iload 8, 2) := by decide +kernel
theorem e_W_isSound_230 : decode (mB I_W_isSound) 230 = .ok (.ineg, 1) := by decide +kernel
theorem e_W_isSound_231 : decode (mB I_W_isSound) 231 = .ok (.if_icmp .eq 5, 3) := by decide +kernel
theorem e_W_isSound_234 : decode (mB I_W_isSound) 234 = .ok (.iconst 0, 1) := by decide +kernel
theorem e_W_isSound_235 : decode (mB I_W_isSound) 235 = .ok (.ireturn, 1) := by decide +kernel
theorem e_W_isSound_236 : decode (mB I_W_isSound) 236 = .ok (.aload_n 0, 1) := by decide +kernel
theorem e_W_isSound_237 : decode (mB I_W_isSound) 237 = .ok (.iload 7, 2) := by decide +kernel
theorem e_W_isSound_239 : decode (mB I_W_isSound) 239 = .ok (.invokestatic 154, 3) := by decide +kernel
theorem e_W_isSound_242 : decode (mB I_W_isSound) 242 = .ok (.aload_n 0, 1) := by decide +kernel
theorem e_W_isSound_243 : decode (mB I_W_isSound) 243 = .ok (.iload 7, 2) := by decide +kernel
theorem e_W_isSound_245 : decode (mB I_W_isSound) 245 = .ok (.invokestatic 148, 3) := by decide +kernel
theorem e_W_isSound_248 : decode (mB I_W_isSound) 248 = .ok (.aload_n 0, 1) := by decide +kernel
theorem e_W_isSound_249 : decode (mB I_W_isSound) 249 = .ok (.iload 7, 2) := by decide +kernel
theorem e_W_isSound_251 : decode (mB I_W_isSound) 251 = .ok (.invokestatic 156, 3) := by decide +kernel
theorem e_W_isSound_254 : decode (mB I_W_isSound) 254 = .ok (.iadd, 1) := by decide +kernel
theorem e_W_isSound_255 : decode (mB I_W_isSound) 255 = .ok (.bipush 10, 2) := by decide +kernel
theorem e_W_isSound_257 : decode (mB I_W_isSound) 257 = .ok (.idiv, 1) := by decide +kernel
theorem e_W_isSound_258 : decode (mB I_W_isSound) 258 = .ok (.if_icmp .eq 5, 3) := by decide +kernel
theorem e_W_isSound_261 : decode (mB I_W_isSound) 261 = .ok (.iconst 0, 1) := by decide +kernel
theorem e_W_isSound_262 : decode (mB I_W_isSound) 262 = .ok (.ireturn, 1) := by decide +kernel
theorem e_W_isSound_263 : decode (mB I_W_isSound) 263 = .ok (.iload_n 2, 1) := by decide +kernel
theorem e_W_isSound_264 : decode (mB I_W_isSound) 264 = .ok (.aload_n 0, 1) := by decide +kernel
theorem e_W_isSound_265 : decode (mB I_W_isSound) 265 = .ok (.iload 7, 2) := by decide +kernel
theorem e_W_isSound_267 : decode (mB I_W_isSound) 267 = .ok (.invokestatic 150, 3) := by decide +kernel
theorem e_W_isSound_270 : decode (mB I_W_isSound) 270 = .ok (.iadd, 1) := by decide +kernel
theorem e_W_isSound_271 : decode (mB I_W_isSound) 271 = .ok (.istore_n 2, 1) := by decide +kernel
theorem e_W_isSound_272 : decode (mB I_W_isSound) 272 = .ok (.iload_n 3, 1) := by decide +kernel
theorem e_W_isSound_273 : decode (mB I_W_isSound) 273 = .ok (.aload_n 0, 1) := by decide +kernel
theorem e_W_isSound_274 : decode (mB I_W_isSound) 274 = .ok (.iload 7, 2) := by decide +kernel
theorem e_W_isSound_276 : decode (mB I_W_isSound) 276 = .ok (.invokestatic 152, 3) := by decide +kernel
theorem e_W_isSound_279 : decode (mB I_W_isSound) 279 = .ok (.iadd, 1) := by decide +kernel
theorem e_W_isSound_280 : decode (mB I_W_isSound) 280 = .ok (.istore_n 3, 1) := by decide +kernel
theorem e_W_isSound_281 : decode (mB I_W_isSound) 281 = .ok (.iload 4, 2) := by decide +kernel
theorem e_W_isSound_283 : decode (mB I_W_isSound) 283 = .ok (.iload 8, 2) := by decide +kernel
theorem e_W_isSound_285 : decode (mB I_W_isSound) 285 = .ok (.iadd, 1) := by decide +kernel
theorem e_W_isSound_286 : decode (mB I_W_isSound) 286 = .ok (.istore 4, 2) := by decide +kernel
theorem e_W_isSound_288 : decode (mB I_W_isSound) 288 = .ok (.aload_n 0, 1) := by decide +kernel
theorem e_W_isSound_289 : decode (mB I_W_isSound) 289 = .ok (.iload 7, 2) := by decide +kernel
theorem e_W_isSound_291 : decode (mB I_W_isSound) 291 = .ok (.invokestatic 144, 3) := by decide +kernel
theorem e_W_isSound_294 : decode (mB I_W_isSound) 294 = .ok (.iconst 1, 1) := by decide +kernel
theorem e_W_isSound_295 : decode (mB I_W_isSound) 295 = .ok (.if_icmp .ne 10, 3) := by decide +kernel
theorem e_W_isSound_298 : decode (mB I_W_isSound) 298 = .ok (.iload 5, 2) := by decide +kernel
theorem e_W_isSound_300 : decode (mB I_W_isSound) 300 = .ok (.iload 8, 2) := by decide +kernel
theorem e_W_isSound_302 : decode (mB I_W_isSound) 302 = .ok (.iadd, 1) := by decide +kernel
theorem e_W_isSound_303 : decode (mB I_W_isSound) 303 = .ok (.istore 5, 2) := by decide +kernel
theorem e_W_isSound_305 : decode (mB I_W_isSound) 305 = .ok (.iload 6, 2) := by decide +kernel
theorem e_W_isSound_307 : decode (mB I_W_isSound) 307 = .ok (.iconst (-1), 1) := by decide +kernel
theorem e_W_isSound_308 : decode (mB I_W_isSound) 308 = .ok (.if_icmp .eq 14, 3) := by decide +kernel
theorem e_W_isSound_311 : decode (mB I_W_isSound) 311 = .ok (.iload 8, 2) := by decide +kernel
theorem e_W_isSound_313 : decode (mB I_W_isSound) 313 = .ok (.aload_n 0, 1) := by decide +kernel
theorem e_W_isSound_314 : decode (mB I_W_isSound) 314 = .ok (.iload 6, 2) := by decide +kernel
theorem e_W_isSound_316 : decode (mB I_W_isSound) 316 = .ok (.invokestatic 138, 3) := by decide +kernel
theorem e_W_isSound_319 : decode (mB I_W_isSound) 319 = .ok (.if_icmp .le 7, 3) := by decide +kernel
theorem e_W_isSound_322 : decode (mB I_W_isSound) 322 = .ok (.iload 7, 2) := by decide +kernel
theorem e_W_isSound_324 : decode (mB I_W_isSound) 324 = .ok (.istore 6, 2) := by decide +kernel
theorem e_W_isSound_326 : decode (mB I_W_isSound) 326 = .ok (.aload_n 0, 1) := by decide +kernel
theorem e_W_isSound_327 : decode (mB I_W_isSound) 327 = .ok (.iload 7, 2) := by decide +kernel
theorem e_W_isSound_329 : decode (mB I_W_isSound) 329 = .ok (.iconst 1, 1) := by decide +kernel
theorem e_W_isSound_330 : decode (mB I_W_isSound) 330 = .ok (.iadd, 1) := by decide +kernel
theorem e_W_isSound_331 : decode (mB I_W_isSound) 331 = .ok (.invokestatic 132, 3) := by decide +kernel
theorem e_W_isSound_334 : decode (mB I_W_isSound) 334 = .ok (.iload_n 2, 1) := by decide +kernel
theorem e_W_isSound_335 : decode (mB I_W_isSound) 335 = .ok (.if_icmp .ne 28, 3) := by decide +kernel
theorem e_W_isSound_338 : decode (mB I_W_isSound) 338 = .ok (.aload_n 0, 1) := by decide +kernel
theorem e_W_isSound_339 : decode (mB I_W_isSound) 339 = .ok (.iload 7, 2) := by decide +kernel
theorem e_W_isSound_341 : decode (mB I_W_isSound) 341 = .ok (.iconst 1, 1) := by decide +kernel
theorem e_W_isSound_342 : decode (mB I_W_isSound) 342 = .ok (.iadd, 1) := by decide +kernel
theorem e_W_isSound_343 : decode (mB I_W_isSound) 343 = .ok (.invokestatic 158, 3) := by decide +kernel
theorem e_W_isSound_346 : decode (mB I_W_isSound) 346 = .ok (.iload_n 3, 1) := by decide +kernel
theorem e_W_isSound_347 : decode (mB I_W_isSound) 347 = .ok (.if_icmp .ne 16, 3) := by decide +kernel
theorem e_W_isSound_350 : decode (mB I_W_isSound) 350 = .ok (.aload_n 0, 1) := by decide +kernel
theorem e_W_isSound_351 : decode (mB I_W_isSound) 351 = .ok (.iload 7, 2) := by decide +kernel
theorem e_W_isSound_353 : decode (mB I_W_isSound) 353 = .ok (.iconst 1, 1) := by decide +kernel
theorem e_W_isSound_354 : decode (mB I_W_isSound) 354 = .ok (.iadd, 1) := by decide +kernel
theorem e_W_isSound_355 : decode (mB I_W_isSound) 355 = .ok (.invokestatic 136, 3) := by decide +kernel
theorem e_W_isSound_358 : decode (mB I_W_isSound) 358 = .ok (.iload 4, 2) := by decide +kernel
theorem e_W_isSound_360 : decode (mB I_W_isSound) 360 = .ok (.if_icmp .eq 5, 3) := by decide +kernel
theorem e_W_isSound_363 : decode (mB I_W_isSound) 363 = .ok (.iconst 0, 1) := by decide +kernel
theorem e_W_isSound_364 : decode (mB I_W_isSound) 364 = .ok (.ireturn, 1) := by decide +kernel
theorem e_W_isSound_365 : decode (mB I_W_isSound) 365 = .ok (.aload_n 0, 1) := by decide +kernel
theorem e_W_isSound_366 : decode (mB I_W_isSound) 366 = .ok (.invokevirtual 160, 3) := by decide +kernel
theorem e_W_isSound_369 : decode (mB I_W_isSound) 369 = .ok (.ifCond .ne 29, 3) := by decide +kernel
theorem e_W_isSound_372 : decode (mB I_W_isSound) 372 = .ok (.aload_n 0, 1) := by decide +kernel
theorem e_W_isSound_373 : decode (mB I_W_isSound) 373 = .ok (.iload 7, 2) := by decide +kernel
theorem e_W_isSound_375 : decode (mB I_W_isSound) 375 = .ok (.iconst 1, 1) := by decide +kernel
theorem e_W_isSound_376 : decode (mB I_W_isSound) 376 = .ok (.iadd, 1) := by decide +kernel
theorem e_W_isSound_377 : decode (mB I_W_isSound) 377 = .ok (.invokestatic 134, 3) := by decide +kernel
theorem e_W_isSound_380 : decode (mB I_W_isSound) 380 = .ok (.iload_n 2, 1) := by decide +kernel
theorem e_W_isSound_381 : decode (mB I_W_isSound) 381 = .ok (.if_icmp .ne 15, 3) := by decide +kernel
theorem e_W_isSound_384 : decode (mB I_W_isSound) 384 = .ok (.aload_n 0, 1) := by decide +kernel
theorem e_W_isSound_385 : decode (mB I_W_isSound) 385 = .ok (.iload 7, 2) := by decide +kernel
theorem e_W_isSound_387 : decode (mB I_W_isSound) 387 = .ok (.iconst 1, 1) := by decide +kernel
theorem e_W_isSound_388 : decode (mB I_W_isSound) 388 = .ok (.iadd, 1) := by decide +kernel
theorem e_W_isSound_389 : decode (mB I_W_isSound) 389 = .ok (.invokestatic 164, 3) := by decide +kernel
theorem e_W_isSound_392 : decode (mB I_W_isSound) 392 = .ok (.iload_n 3, 1) := by decide +kernel
theorem e_W_isSound_393 : decode (mB I_W_isSound) 393 = .ok (.if_icmp .eq 5, 3) := by decide +kernel
theorem e_W_isSound_396 : decode (mB I_W_isSound) 396 = .ok (.iconst 0, 1) := by decide +kernel
theorem e_W_isSound_397 : decode (mB I_W_isSound) 397 = .ok (.ireturn, 1) := by decide +kernel
theorem e_W_isSound_398 : decode (mB I_W_isSound) 398 = .ok (.aload_n 0, 1) := by decide +kernel
theorem e_W_isSound_399 : decode (mB I_W_isSound) 399 = .ok (.iload 7, 2) := by decide +kernel
theorem e_W_isSound_401 : decode (mB I_W_isSound) 401 = .ok (.iconst 1, 1) := by decide +kernel
theorem e_W_isSound_402 : decode (mB I_W_isSound) 402 = .ok (.iadd, 1) := by decide +kernel
theorem e_W_isSound_403 : decode (mB I_W_isSound) 403 = .ok (.invokestatic 166, 3) := by decide +kernel
theorem e_W_isSound_406 : decode (mB I_W_isSound) 406 = .ok (.i2l, 1) := by decide +kernel
theorem e_W_isSound_407 : decode (mB I_W_isSound) 407 = .ok (.aload_n 0, 1) := by decide +kernel
theorem e_W_isSound_408 : decode (mB I_W_isSound) 408 = .ok (.iload 7, 2) := by decide +kernel
theorem e_W_isSound_410 : decode (mB I_W_isSound) 410 = .ok (.iconst 1, 1) := by decide +kernel
theorem e_W_isSound_411 : decode (mB I_W_isSound) 411 = .ok (.iadd, 1) := by decide +kernel
theorem e_W_isSound_412 : decode (mB I_W_isSound) 412 = .ok (.invokestatic 134, 3) := by decide +kernel
theorem e_W_isSound_415 : decode (mB I_W_isSound) 415 = .ok (.i2l, 1) := by decide +kernel
theorem e_W_isSound_416 : decode (mB I_W_isSound) 416 = .ok (.aload_n 0, 1) := by decide +kernel
theorem e_W_isSound_417 : decode (mB I_W_isSound) 417 = .ok (.iload 7, 2) := by decide +kernel
theorem e_W_isSound_419 : decode (mB I_W_isSound) 419 = .ok (.iconst 1, 1) := by decide +kernel
theorem e_W_isSound_420 : decode (mB I_W_isSound) 420 = .ok (.iadd, 1) := by decide +kernel
theorem e_W_isSound_421 : decode (mB I_W_isSound) 421 = .ok (.invokestatic 134, 3) := by decide +kernel
theorem e_W_isSound_424 : decode (mB I_W_isSound) 424 = .ok (.i2l, 1) := by decide +kernel
theorem e_W_isSound_425 : decode (mB I_W_isSound) 425 = .ok (.lmul, 1) := by decide +kernel
theorem e_W_isSound_426 : decode (mB I_W_isSound) 426 = .ok (.aload_n 0, 1) := by decide +kernel
theorem e_W_isSound_427 : decode (mB I_W_isSound) 427 = .ok (.iload 7, 2) := by decide +kernel
theorem e_W_isSound_429 : decode (mB I_W_isSound) 429 = .ok (.iconst 1, 1) := by decide +kernel
theorem e_W_isSound_430 : decode (mB I_W_isSound) 430 = .ok (.iadd, 1) := by decide +kernel
theorem e_W_isSound_431 : decode (mB I_W_isSound) 431 = .ok (.invokestatic 164, 3) := by decide +kernel
theorem e_W_isSound_434 : decode (mB I_W_isSound) 434 = .ok (.i2l, 1) := by decide +kernel
theorem e_W_isSound_435 : decode (mB I_W_isSound) 435 = .ok (.aload_n 0, 1) := by decide +kernel
theorem e_W_isSound_436 : decode (mB I_W_isSound) 436 = .ok (.iload 7, 2) := by decide +kernel
theorem e_W_isSound_438 : decode (mB I_W_isSound) 438 = .ok (.iconst 1, 1) := by decide +kernel
theorem e_W_isSound_439 : decode (mB I_W_isSound) 439 = .ok (.iadd, 1) := by decide +kernel
theorem e_W_isSound_440 : decode (mB I_W_isSound) 440 = .ok (.invokestatic 164, 3) := by decide +kernel
theorem e_W_isSound_443 : decode (mB I_W_isSound) 443 = .ok (.i2l, 1) := by decide +kernel
theorem e_W_isSound_444 : decode (mB I_W_isSound) 444 = .ok (.lmul, 1) := by decide +kernel
theorem e_W_isSound_445 : decode (mB I_W_isSound) 445 = .ok (.ladd, 1) := by decide +kernel
theorem e_W_isSound_446 : decode (mB I_W_isSound) 446 = .ok (.invokestatic 168, 3) := by decide +kernel
theorem e_W_isSound_449 : decode (mB I_W_isSound) 449 = .ok (.ifCond .ne 5, 3) := by decide +kernel
theorem e_W_isSound_452 : decode (mB I_W_isSound) 452 = .ok (.iconst 0, 1) := by decide +kernel
theorem e_W_isSound_453 : decode (mB I_W_isSound) 453 = .ok (.ireturn, 1) := by decide +kernel
theorem e_W_isSound_454 : decode (mB I_W_isSound) 454 = .ok (.aload_n 0, 1) := by decide +kernel
theorem e_W_isSound_455 : decode (mB I_W_isSound) 455 = .ok (.iload 7, 2) := by decide +kernel
theorem e_W_isSound_457 : decode (mB I_W_isSound) 457 = .ok (.iconst 1, 1) := by decide +kernel
theorem e_W_isSound_458 : decode (mB I_W_isSound) 458 = .ok (.iadd, 1) := by decide +kernel
theorem e_W_isSound_459 : decode (mB I_W_isSound) 459 = .ok (.invokestatic 166, 3) := by decide +kernel
theorem e_W_isSound_462 : decode (mB I_W_isSound) 462 = .ok (.aload_n 0, 1) := by decide +kernel
theorem e_W_isSound_463 : decode (mB I_W_isSound) 463 = .ok (.aload_n 0, 1) := by decide +kernel
theorem e_W_isSound_464 : decode (mB I_W_isSound) 464 = .ok (.invokevirtual 172, 3) := by decide +kernel
theorem e_W_isSound_467 : decode (mB I_W_isSound) 467 = .ok (.invokestatic 166, 3) := by decide +kernel
theorem e_W_isSound_470 : decode (mB I_W_isSound) 470 = .ok (.if_icmp .le 5, 3) := by decide +kernel
theorem e_W_isSound_473 : decode (mB I_W_isSound) 473 = .ok (.iconst 0, 1) := by decide +kernel
theorem e_W_isSound_474 : decode (mB I_W_isSound) 474 = .ok (.ireturn, 1) := by decide +kernel
theorem e_W_isSound_475 : decode (mB I_W_isSound) 475 = .ok (.iinc 7 1, 3) := by decide +kernel
theorem e_W_isSound_478 : decode (mB I_W_isSound) 478 = .ok (.goto (-409), 3) := by decide +kernel
theorem e_W_isSound_481 : decode (mB I_W_isSound) 481 = .ok (.lconst 0, 1) := by decide +kernel
theorem e_W_isSound_482 : decode (mB I_W_isSound) 482 = .ok (.lstore 7, 2) := by decide +kernel
theorem e_W_isSound_484 : decode (mB I_W_isSound) 484 = .ok (.iconst 0, 1) := by decide +kernel
theorem e_W_isSound_485 : decode (mB I_W_isSound) 485 = .ok (.istore 9, 2) := by decide +kernel
theorem e_W_isSound_487 : decode (mB I_W_isSound) 487 = .ok (.iload 9, 2) := by decide +kernel
theorem e_W_isSound_489 : decode (mB I_W_isSound) 489 = .ok (.iload_n 1, 1) := by decide +kernel
theorem e_W_isSound_490 : decode (mB I_W_isSound) 490 = .ok (.if_icmp .gt 61, 3) := by decide +kernel
theorem e_W_isSound_493 : decode (mB I_W_isSound) 493 = .ok (.iload 9, 2) := by decide +kernel
theorem e_W_isSound_495 : decode (mB I_W_isSound) 495 = .ok (.iload_n 1, 1) := by decide +kernel
theorem e_W_isSound_496 : decode (mB I_W_isSound) 496 = .ok (.if_icmp .ne 7, 3) := by decide +kernel
theorem e_W_isSound_499 : decode (mB I_W_isSound) 499 = .ok (.iconst 0, 1) := by decide +kernel
theorem e_W_isSound_500 : decode (mB I_W_isSound) 500 = .ok (.goto 7, 3) := by decide +kernel
theorem e_W_isSound_503 : decode (mB I_W_isSound) 503 = .ok (.iload 9, 2) := by decide +kernel
theorem e_W_isSound_505 : decode (mB I_W_isSound) 505 = .ok (.iconst 1, 1) := by decide +kernel
theorem e_W_isSound_506 : decode (mB I_W_isSound) 506 = .ok (.iadd, 1) := by decide +kernel
theorem e_W_isSound_507 : decode (mB I_W_isSound) 507 = .ok (.istore 10, 2) := by decide +kernel
theorem e_W_isSound_509 : decode (mB I_W_isSound) 509 = .ok (.lload 7, 2) := by decide +kernel
theorem e_W_isSound_511 : decode (mB I_W_isSound) 511 = .ok (.aload_n 0, 1) := by decide +kernel
theorem e_W_isSound_512 : decode (mB I_W_isSound) 512 = .ok (.iload 9, 2) := by decide +kernel
theorem e_W_isSound_514 : decode (mB I_W_isSound) 514 = .ok (.invokestatic 134, 3) := by decide +kernel
theorem e_W_isSound_517 : decode (mB I_W_isSound) 517 = .ok (.i2l, 1) := by decide +kernel
theorem e_W_isSound_518 : decode (mB I_W_isSound) 518 = .ok (.aload_n 0, 1) := by decide +kernel
theorem e_W_isSound_519 : decode (mB I_W_isSound) 519 = .ok (.iload 10, 2) := by decide +kernel
theorem e_W_isSound_521 : decode (mB I_W_isSound) 521 = .ok (.invokestatic 164, 3) := by decide +kernel
theorem e_W_isSound_524 : decode (mB I_W_isSound) 524 = .ok (.i2l, 1) := by decide +kernel
theorem e_W_isSound_525 : decode (mB I_W_isSound) 525 = .ok (.lmul, 1) := by decide +kernel
theorem e_W_isSound_526 : decode (mB I_W_isSound) 526 = .ok (.aload_n 0, 1) := by decide +kernel
theorem e_W_isSound_527 : decode (mB I_W_isSound) 527 = .ok (.iload 10, 2) := by decide +kernel
theorem e_W_isSound_529 : decode (mB I_W_isSound) 529 = .ok (.invokestatic 134, 3) := by decide +kernel
theorem e_W_isSound_532 : decode (mB I_W_isSound) 532 = .ok (.i2l, 1) := by decide +kernel
theorem e_W_isSound_533 : decode (mB I_W_isSound) 533 = .ok (.aload_n 0, 1) := by decide +kernel
theorem e_W_isSound_534 : decode (mB I_W_isSound) 534 = .ok (.iload 9, 2) := by decide +kernel
theorem e_W_isSound_536 : decode (mB I_W_isSound) 536 = .ok (.invokestatic 164, 3) := by decide +kernel
theorem e_W_isSound_539 : decode (mB I_W_isSound) 539 = .ok (.i2l, 1) := by decide +kernel
theorem e_W_isSound_540 : decode (mB I_W_isSound) 540 = .ok (.lmul, 1) := by decide +kernel
theorem e_W_isSound_541 : decode (mB I_W_isSound) 541 = .ok (.lsub, 1) := by decide +kernel
theorem e_W_isSound_542 : decode (mB I_W_isSound) 542 = .ok (.ladd, 1) := by decide +kernel
theorem e_W_isSound_543 : decode (mB I_W_isSound) 543 = .ok (.lstore 7, 2) := by decide +kernel
theorem e_W_isSound_545 : decode (mB I_W_isSound) 545 = .ok (.iinc 9 1, 3) := by decide +kernel
theorem e_W_isSound_548 : decode (mB I_W_isSound) 548 = .ok (.goto (-61), 3) := by decide +kernel
theorem e_W_isSound_551 : decode (mB I_W_isSound) 551 = .ok (.aload_n 0, 1) := by decide +kernel
theorem e_W_isSound_552 : decode (mB I_W_isSound) 552 = .ok (.invokevirtual 160, 3) := by decide +kernel
theorem e_W_isSound_555 : decode (mB I_W_isSound) 555 = .ok (.ifCond .eq 26, 3) := by decide +kernel
theorem e_W_isSound_558 : decode (mB I_W_isSound) 558 = .ok (.iload 4, 2) := by decide +kernel
theorem e_W_isSound_560 : decode (mB I_W_isSound) 560 = .ok (.ifCond .le 21, 3) := by decide +kernel
theorem e_W_isSound_563 : decode (mB I_W_isSound) 563 = .ok (.aload_n 0, 1) := by decide +kernel
theorem e_W_isSound_564 : decode (mB I_W_isSound) 564 = .ok (.iload_n 1, 1) := by decide +kernel
theorem e_W_isSound_565 : decode (mB I_W_isSound) 565 = .ok (.invokestatic 134, 3) := by decide +kernel
theorem e_W_isSound_568 : decode (mB I_W_isSound) 568 = .ok (.ifCond .ne 11, 3) := by decide +kernel
theorem e_W_isSound_571 : decode (mB I_W_isSound) 571 = .ok (.aload_n 0, 1) := by decide +kernel
theorem e_W_isSound_572 : decode (mB I_W_isSound) 572 = .ok (.iload_n 1, 1) := by decide +kernel
theorem e_W_isSound_573 : decode (mB I_W_isSound) 573 = .ok (.invokestatic 164, 3) := by decide +kernel
theorem e_W_isSound_576 : decode (mB I_W_isSound) 576 = .ok (.ifCond .eq 5, 3) := by decide +kernel
theorem e_W_isSound_579 : decode (mB I_W_isSound) 579 = .ok (.iconst 0, 1) := by decide +kernel
theorem e_W_isSound_580 : decode (mB I_W_isSound) 580 = .ok (.ireturn, 1) := by decide +kernel
theorem e_W_isSound_581 : decode (mB I_W_isSound) 581 = .ok (.aload_n 0, 1) := by decide +kernel
theorem e_W_isSound_582 : decode (mB I_W_isSound) 582 = .ok (.invokevirtual 175, 3) := by decide +kernel
theorem e_W_isSound_585 : decode (mB I_W_isSound) 585 = .ok (.istore 9, 2) := by decide +kernel
theorem e_W_isSound_587 : decode (mB I_W_isSound) 587 = .ok (.aload_n 0, 1) := by decide +kernel
theorem e_W_isSound_588 : decode (mB I_W_isSound) 588 = .ok (.invokevirtual 178, 3) := by decide +kernel
theorem e_W_isSound_591 : decode (mB I_W_isSound) 591 = .ok (.iload 4, 2) := by decide +kernel
theorem e_W_isSound_593 : decode (mB I_W_isSound) 593 = .ok (.if_icmp .ne 120, 3) := by decide +kernel
theorem e_W_isSound_596 : decode (mB I_W_isSound) 596 = .ok (.aload_n 0, 1) := by decide +kernel
theorem e_W_isSound_597 : decode (mB I_W_isSound) 597 = .ok (.invokevirtual 181, 3) := by decide +kernel
theorem e_W_isSound_600 : decode (mB I_W_isSound) 600 = .ok (.iload_n 2, 1) := by decide +kernel
theorem e_W_isSound_601 : decode (mB I_W_isSound) 601 = .ok (.if_icmp .ne 112, 3) := by decide +kernel
theorem e_W_isSound_604 : decode (mB I_W_isSound) 604 = .ok (.aload_n 0, 1) := by decide +kernel
theorem e_W_isSound_605 : decode (mB I_W_isSound) 605 = .ok (.invokevirtual 184, 3) := by decide +kernel
theorem e_W_isSound_608 : decode (mB I_W_isSound) 608 = .ok (.iload_n 3, 1) := by decide +kernel
theorem e_W_isSound_609 : decode (mB I_W_isSound) 609 = .ok (.if_icmp .ne 104, 3) := by decide +kernel
theorem e_W_isSound_612 : decode (mB I_W_isSound) 612 = .ok (.iload 9, 2) := by decide +kernel
theorem e_W_isSound_614 : decode (mB I_W_isSound) 614 = .ok (.i2l, 1) := by decide +kernel
theorem e_W_isSound_615 : decode (mB I_W_isSound) 615 = .ok (.iload_n 2, 1) := by decide +kernel
theorem e_W_isSound_616 : decode (mB I_W_isSound) 616 = .ok (.i2l, 1) := by decide +kernel
theorem e_W_isSound_617 : decode (mB I_W_isSound) 617 = .ok (.iload_n 2, 1) := by decide +kernel
theorem e_W_isSound_618 : decode (mB I_W_isSound) 618 = .ok (.i2l, 1) := by decide +kernel
theorem e_W_isSound_619 : decode (mB I_W_isSound) 619 = .ok (.lmul, 1) := by decide +kernel
theorem e_W_isSound_620 : decode (mB I_W_isSound) 620 = .ok (.iload_n 3, 1) := by decide +kernel
theorem e_W_isSound_621 : decode (mB I_W_isSound) 621 = .ok (.i2l, 1) := by decide +kernel
theorem e_W_isSound_622 : decode (mB I_W_isSound) 622 = .ok (.iload_n 3, 1) := by decide +kernel
theorem e_W_isSound_623 : decode (mB I_W_isSound) 623 = .ok (.i2l, 1) := by decide +kernel
theorem e_W_isSound_624 : decode (mB I_W_isSound) 624 = .ok (.lmul, 1) := by decide +kernel
theorem e_W_isSound_625 : decode (mB I_W_isSound) 625 = .ok (.ladd, 1) := by decide +kernel
theorem e_W_isSound_626 : decode (mB I_W_isSound) 626 = .ok (.invokestatic 168, 3) := by decide +kernel
theorem e_W_isSound_629 : decode (mB I_W_isSound) 629 = .ok (.ifCond .eq 84, 3) := by decide +kernel
theorem e_W_isSound_632 : decode (mB I_W_isSound) 632 = .ok (.aload_n 0, 1) := by decide +kernel
theorem e_W_isSound_633 : decode (mB I_W_isSound) 633 = .ok (.invokevirtual 187, 3) := by decide +kernel
theorem e_W_isSound_636 : decode (mB I_W_isSound) 636 = .ok (.iload 9, 2) := by decide +kernel
theorem e_W_isSound_638 : decode (mB I_W_isSound) 638 = .ok (.ifCond .ne 7, 3) := by decide +kernel
theorem e_W_isSound_641 : decode (mB I_W_isSound) 641 = .ok (.iconst (-1), 1) := by decide +kernel
theorem e_W_isSound_642 : decode (mB I_W_isSound) 642 = .ok (.goto 8, 3) := by decide +kernel
theorem e_W_isSound_645 : decode (mB I_W_isSound) 645 = .ok (.iload 4, 2) := by decide +kernel
theorem e_W_isSound_647 : decode (mB I_W_isSound) 647 = .ok (.iload 9, 2) := by decide +kernel
theorem e_W_isSound_649 : decode (mB I_W_isSound) 649 = .ok (.idiv, 1) := by decide +kernel
theorem e_W_isSound_650 : decode (mB I_W_isSound) 650 = .ok (.if_icmp .ne 63, 3) := by decide +kernel
theorem e_W_isSound_653 : decode (mB I_W_isSound) 653 = .ok (.aload_n 0, 1) := by decide +kernel
theorem e_W_isSound_654 : decode (mB I_W_isSound) 654 = .ok (.invokevirtual 190, 3) := by decide +kernel
theorem e_W_isSound_657 : decode (mB I_W_isSound) 657 = .ok (.iload 5, 2) := by decide +kernel
theorem e_W_isSound_659 : decode (mB I_W_isSound) 659 = .ok (.if_icmp .ne 54, 3) := by decide +kernel
theorem e_W_isSound_662 : decode (mB I_W_isSound) 662 = .ok (.aload_n 0, 1) := by decide +kernel
theorem e_W_isSound_663 : decode (mB I_W_isSound) 663 = .ok (.invokevirtual 193, 3) := by decide +kernel
theorem e_W_isSound_666 : decode (mB I_W_isSound) 666 = .ok (.iload 6, 2) := by decide +kernel
theorem e_W_isSound_668 : decode (mB I_W_isSound) 668 = .ok (.if_icmp .ne 45, 3) := by decide +kernel
theorem e_W_isSound_671 : decode (mB I_W_isSound) 671 = .ok (.aload_n 0, 1) := by decide +kernel
theorem e_W_isSound_672 : decode (mB I_W_isSound) 672 = .ok (.invokevirtual 196, 3) := by decide +kernel
theorem e_W_isSound_675 : decode (mB I_W_isSound) 675 = .ok (.lload 7, 2) := by decide +kernel
theorem e_W_isSound_677 : decode (mB I_W_isSound) 677 = .ok (.invokestatic 200, 3) := by decide +kernel
theorem e_W_isSound_680 : decode (mB I_W_isSound) 680 = .ok (.ldc2_w 206, 3) := by decide +kernel
theorem e_W_isSound_683 : decode (mB I_W_isSound) 683 = .ok (.ldiv, 1) := by decide +kernel
theorem e_W_isSound_684 : decode (mB I_W_isSound) 684 = .ok (.lcmp, 1) := by decide +kernel
theorem e_W_isSound_685 : decode (mB I_W_isSound) 685 = .ok (.ifCond .ne 28, 3) := by decide +kernel
theorem e_W_isSound_688 : decode (mB I_W_isSound) 688 = .ok (.aload_n 0, 1) := by decide +kernel
theorem e_W_isSound_689 : decode (mB I_W_isSound) 689 = .ok (.invokevirtual 208, 3) := by decide +kernel
theorem e_W_isSound_692 : decode (mB I_W_isSound) 692 = .ok (.ifCond .lt 21, 3) := by decide +kernel
theorem e_W_isSound_695 : decode (mB I_W_isSound) 695 = .ok (.aload_n 0, 1) := by decide +kernel
theorem e_W_isSound_696 : decode (mB I_W_isSound) 696 = .ok (.invokevirtual 211, 3) := by decide +kernel
theorem e_W_isSound_699 : decode (mB I_W_isSound) 699 = .ok (.ifCond .lt 14, 3) := by decide +kernel
theorem e_W_isSound_702 : decode (mB I_W_isSound) 702 = .ok (.aload_n 0, 1) := by decide +kernel
theorem e_W_isSound_703 : decode (mB I_W_isSound) 703 = .ok (.invokevirtual 214, 3) := by decide +kernel
theorem e_W_isSound_706 : decode (mB I_W_isSound) 706 = .ok (.ifCond .ne 7, 3) := by decide +kernel
theorem e_W_isSound_709 : decode (mB I_W_isSound) 709 = .ok (.iconst 1, 1) := by decide +kernel
theorem e_W_isSound_710 : decode (mB I_W_isSound) 710 = .ok (.goto 4, 3) := by decide +kernel
theorem e_W_isSound_713 : decode (mB I_W_isSound) 713 = .ok (.iconst 0, 1) := by decide +kernel
theorem e_W_isSound_714 : decode (mB I_W_isSound) 714 = .ok (.ireturn, 1) := by decide +kernel
theorem e_W_acts_0 : decode (mB I_W_acts) 0 = .ok (.aload_n 0, 1) := by decide +kernel
theorem e_W_acts_1 : decode (mB I_W_acts) 1 = .ok (.invokevirtual 126, 3) := by decide +kernel
theorem e_W_acts_4 : decode (mB I_W_acts) 4 = .ok (.istore_n 2, 1) := by decide +kernel
theorem e_W_acts_5 : decode (mB I_W_acts) 5 = .ok (.aload_n 1, 1) := by decide +kernel
theorem e_W_acts_6 : decode (mB I_W_acts) 6 = .ok (.bipush 9, 2) := by decide +kernel
theorem e_W_acts_8 : decode (mB I_W_acts) 8 = .ok (.invokestatic 217, 3) := by decide +kernel
theorem e_W_acts_11 : decode (mB I_W_acts) 11 = .ok (.tableswitch 667 0 7 #[45, 45, 189, 262, 262, 413, 495, 609], 45) := by decide +kernel
theorem e_W_acts_56 : decode (mB I_W_acts) 56 = .ok (.aload_n 1, 1) := by decide +kernel
theorem e_W_acts_57 : decode (mB I_W_acts) 57 = .ok (.bipush 12, 2) := by decide +kernel
theorem e_W_acts_59 : decode (mB I_W_acts) 59 = .ok (.invokestatic 217, 3) := by decide +kernel
theorem e_W_acts_62 : decode (mB I_W_acts) 62 = .ok (.istore_n 3, 1) := by decide +kernel
theorem e_W_acts_63 : decode (mB I_W_acts) 63 = .ok (.aload_n 1, 1) := by decide +kernel
theorem e_W_acts_64 : decode (mB I_W_acts) 64 = .ok (.bipush 100, 2) := by decide +kernel
theorem e_W_acts_66 : decode (mB I_W_acts) 66 = .ok (.invokestatic 217, 3) := by decide +kernel
theorem e_W_acts_69 : decode (mB I_W_acts) 69 = .ok (.istore 4, 2) := by decide +kernel
theorem e_W_acts_71 : decode (mB I_W_acts) 71 = .ok (.aload_n 0, 1) := by decide +kernel
theorem e_W_acts_72 : decode (mB I_W_acts) 72 = .ok (.bipush 15, 2) := by decide +kernel
theorem e_W_acts_74 : decode (mB I_W_acts) 74 = .ok (.aload_n 1, 1) := by decide +kernel
theorem e_W_acts_75 : decode (mB I_W_acts) 75 = .ok (.bipush 24, 2) := by decide +kernel
theorem e_W_acts_77 : decode (mB I_W_acts) 77 = .ok (.invokestatic 217, 3) := by decide +kernel
theorem e_W_acts_80 : decode (mB I_W_acts) 80 = .ok (.imul, 1) := by decide +kernel
theorem e_W_acts_81 : decode (mB I_W_acts) 81 = .ok (.iload_n 3, 1) := by decide +kernel
theorem e_W_acts_82 : decode (mB I_W_acts) 82 = .ok (.iload 4, 2) := by decide +kernel
theorem e_W_acts_84 : decode (mB I_W_acts) 84 = .ok (.aload_n 1, 1) := by decide +kernel
theorem e_W_acts_85 : decode (mB I_W_acts) 85 = .ok (.iconst 3, 1) := by decide +kernel
theorem e_W_acts_86 : decode (mB I_W_acts) 86 = .ok (.invokestatic 217, 3) := by decide +kernel
theorem e_W_acts_89 : decode (mB I_W_acts) 89 = .ok (.ifCond .ne 13, 3) := by decide +kernel
theorem e_W_acts_92 : decode (mB I_W_acts) 92 = .ok (.aload_n 1, 1) := by decide +kernel
theorem e_W_acts_93 : decode (mB I_W_acts) 93 = .ok (.sipush 900, 3) := by decide +kernel
theorem e_W_acts_96 : decode (mB I_W_acts) 96 = .ok (.invokestatic 217, 3) := by decide +kernel
theorem e_W_acts_99 : decode (mB I_W_acts) 99 = .ok (.goto 4, 3) := by decide +kernel
theorem e_W_acts_102 : decode (mB I_W_acts) 102 = .ok (.iconst 0, 1) := by decide +kernel
theorem e_W_acts_103 : decode (mB I_W_acts) 103 = .ok (.aload_n 1, 1) := by decide +kernel
theorem e_W_acts_104 : decode (mB I_W_acts) 104 = .ok (.bipush 51, 2) := by decide +kernel
theorem e_W_acts_106 : decode (mB I_W_acts) 106 = .ok (.invokestatic 217, 3) := by decide +kernel
theorem e_W_acts_109 : decode (mB I_W_acts) 109 = .ok (.invokestatic 221, 3) := by decide +kernel
theorem e_W_acts_112 : decode (mB I_W_acts) 112 = .ok (.istore 5, 2) := by decide +kernel
theorem e_W_acts_114 : decode (mB I_W_acts) 114 = .ok (.iload_n 2, 1) := by decide +kernel
theorem e_W_acts_115 : decode (mB I_W_acts) 115 = .ok (.bipush 20, 2) := by decide +kernel
theorem e_W_acts_117 : decode (mB I_W_acts) 117 = .ok (.if_icmp .ne 18, 3) := by decide +kernel
theorem e_W_acts_120 : decode (mB I_W_acts) 120 = .ok (.iload 5, 2) := by decide +kernel
theorem e_W_acts_122 : decode (mB I_W_acts) 122 = .ok (.ldc 22, 2) := by decide +kernel
theorem e_W_acts_124 : decode (mB I_W_acts) 124 = .ok (.if_icmp .ne 7, 3) := by decide +kernel
theorem e_W_acts_127 : decode (mB I_W_acts) 127 = .ok (.iconst 1, 1) := by decide +kernel
theorem e_W_acts_128 : decode (mB I_W_acts) 128 = .ok (.goto 71, 3) := by decide +kernel
theorem e_W_acts_131 : decode (mB I_W_acts) 131 = .ok (.iconst 0, 1) := by decide +kernel
theorem e_W_acts_132 : decode (mB I_W_acts) 132 = .ok (.goto 67, 3) := by decide +kernel
theorem e_W_acts_135 : decode (mB I_W_acts) 135 = .ok (.iload 5, 2) := by decide +kernel
theorem e_W_acts_137 : decode (mB I_W_acts) 137 = .ok (.iload_n 2, 1) := by decide +kernel
theorem e_W_acts_138 : decode (mB I_W_acts) 138 = .ok (.if_icmp .ne 60, 3) := by decide +kernel
theorem e_W_acts_141 : decode (mB I_W_acts) 141 = .ok (.aload_n 0, 1) := by decide +kernel
theorem e_W_acts_142 : decode (mB I_W_acts) 142 = .ok (.iload_n 2, 1) := by decide +kernel
theorem e_W_acts_143 : decode (mB I_W_acts) 143 = .ok (.invokestatic 146, 3) := by decide +kernel
theorem e_W_acts_146 : decode (mB I_W_acts) 146 = .ok (.sipush 10000, 3) := by decide +kernel
theorem e_W_acts_149 : decode (mB I_W_acts) 149 = .ok (.iload_n 3, 1) := by decide +kernel
theorem e_W_acts_150 : decode (mB I_W_acts) 150 = .ok (.imul, 1) := by decide +kernel
theorem e_W_acts_151 : decode (mB I_W_acts) 151 = .ok (.bipush 100, 2) := by decide +kernel
theorem e_W_acts_153 : decode (mB I_W_acts) 153 = .ok (.iload 4, 2) := by decide +kernel
theorem e_W_acts_155 : decode (mB I_W_acts) 155 = .ok (.imul, 1) := by decide +kernel
theorem e_W_acts_156 : decode (mB I_W_acts) 156 = .ok (.iadd, 1) := by decide +kernel
theorem e_W_acts_157 : decode (mB I_W_acts) 157 = .ok (.if_icmp .ne 41, 3) := by decide +kernel
theorem e_W_acts_160 : decode (mB I_W_acts) 160 = .ok (.aload_n 0, 1) := by decide +kernel
theorem e_W_acts_161 : decode (mB I_W_acts) 161 = .ok (.iload_n 2, 1) := by decide +kernel
theorem e_W_acts_162 : decode (mB I_W_acts) 162 = .ok (.iconst 0, 1) := by decide +kernel
theorem e_W_acts_163 : decode (mB I_W_acts) 163 = .ok (.invokestatic 224, 3) := by decide +kernel
theorem e_W_acts_166 : decode (mB I_W_acts) 166 = .ok (.bipush 113, 2) := by decide +kernel
theorem e_W_acts_168 : decode (mB I_W_acts) 168 = .ok (.if_icmp .ne 30, 3) := by decide +kernel
theorem e_W_acts_171 : decode (mB I_W_acts) 171 = .ok (.aload_n 0, 1) := by decide +kernel
theorem e_W_acts_172 : decode (mB I_W_acts) 172 = .ok (.iload_n 2, 1) := by decide +kernel
theorem e_W_acts_173 : decode (mB I_W_acts) 173 = .ok (.iconst 1, 1) := by decide +kernel
theorem e_W_acts_174 : decode (mB I_W_acts) 174 = .ok (.invokestatic 224, 3) := by decide +kernel
theorem e_W_acts_177 : decode (mB I_W_acts) 177 = .ok (.bipush 97, 2) := by decide +kernel
theorem e_W_acts_179 : decode (mB I_W_acts) 179 = .ok (.iload_n 2, 1) := by decide +kernel
theorem e_W_acts_180 : decode (mB I_W_acts) 180 = .ok (.iadd, 1) := by decide +kernel
theorem e_W_acts_181 : decode (mB I_W_acts) 181 = .ok (.if_icmp .ne 17, 3) := by decide +kernel
theorem e_W_acts_184 : decode (mB I_W_acts) 184 = .ok (.aload_n 0, 1) := by decide +kernel
theorem e_W_acts_185 : decode (mB I_W_acts) 185 = .ok (.iload_n 2, 1) := by decide +kernel
theorem e_W_acts_186 : decode (mB I_W_acts) 186 = .ok (.iconst 2, 1) := by decide +kernel
theorem e_W_acts_187 : decode (mB I_W_acts) 187 = .ok (.invokestatic 224, 3) := by decide +kernel
theorem e_W_acts_190 : decode (mB I_W_acts) 190 = .ok (.iconst (-1), 1) := by decide +kernel
theorem e_W_acts_191 : decode (mB I_W_acts) 191 = .ok (.if_icmp .ne 7, 3) := by decide +kernel
theorem e_W_acts_194 : decode (mB I_W_acts) 194 = .ok (.iconst 1, 1) := by decide +kernel
theorem e_W_acts_195 : decode (mB I_W_acts) 195 = .ok (.goto 4, 3) := by decide +kernel
theorem e_W_acts_198 : decode (mB I_W_acts) 198 = .ok (.iconst 0, 1) := by decide +kernel
theorem e_W_acts_199 : decode (mB I_W_acts) 199 = .ok (.ireturn, 1) := by decide +kernel
theorem e_W_acts_200 : decode (mB I_W_acts) 200 = .ok (.iconst 1, 1) := by decide +kernel
theorem e_W_acts_201 : decode (mB I_W_acts) 201 = .ok (.aload_n 1, 1) := by decide +kernel
theorem e_W_acts_202 : decode (mB I_W_acts) 202 = .ok (.sipush 300, 3) := by decide +kernel
theorem e_W_acts_205 : decode (mB I_W_acts) 205 = .ok (.invokestatic 217, 3) := by decide +kernel
theorem e_W_acts_208 : decode (mB I_W_acts) 208 = .ok (.iadd, 1) := by decide +kernel
theorem e_W_acts_209 : decode (mB I_W_acts) 209 = .ok (.istore_n 3, 1) := by decide +kernel
theorem e_W_acts_210 : decode (mB I_W_acts) 210 = .ok (.aload_n 0, 1) := by decide +kernel
theorem e_W_acts_211 : decode (mB I_W_acts) 211 = .ok (.bipush 15, 2) := by decide +kernel
theorem e_W_acts_213 : decode (mB I_W_acts) 213 = .ok (.aload_n 1, 1) := by decide +kernel
theorem e_W_acts_214 : decode (mB I_W_acts) 214 = .ok (.bipush 24, 2) := by decide +kernel
theorem e_W_acts_216 : decode (mB I_W_acts) 216 = .ok (.invokestatic 217, 3) := by decide +kernel
theorem e_W_acts_219 : decode (mB I_W_acts) 219 = .ok (.imul, 1) := by decide +kernel
theorem e_W_acts_220 : decode (mB I_W_acts) 220 = .ok (.iload_n 3, 1) := by decide +kernel
theorem e_W_acts_221 : decode (mB I_W_acts) 221 = .ok (.invokestatic 227, 3) := by decide +kernel
theorem e_W_acts_224 : decode (mB I_W_acts) 224 = .ok (.istore 4, 2) := by decide +kernel
theorem e_W_acts_226 : decode (mB I_W_acts) 226 = .ok (.iload_n 2, 1) := by decide +kernel
theorem e_W_acts_227 : decode (mB I_W_acts) 227 = .ok (.bipush 20, 2) := by decide +kernel
theorem e_W_acts_229 : decode (mB I_W_acts) 229 = .ok (.if_icmp .ne 18, 3) := by decide +kernel
theorem e_W_acts_232 : decode (mB I_W_acts) 232 = .ok (.iload 4, 2) := by decide +kernel
theorem e_W_acts_234 : decode (mB I_W_acts) 234 = .ok (.ldc 22, 2) := by decide +kernel
theorem e_W_acts_236 : decode (mB I_W_acts) 236 = .ok (.if_icmp .ne 7, 3) := by decide +kernel
theorem e_W_acts_239 : decode (mB I_W_acts) 239 = .ok (.iconst 1, 1) := by decide +kernel
theorem e_W_acts_240 : decode (mB I_W_acts) 240 = .ok (.goto 32, 3) := by decide +kernel
theorem e_W_acts_243 : decode (mB I_W_acts) 243 = .ok (.iconst 0, 1) := by decide +kernel
theorem e_W_acts_244 : decode (mB I_W_acts) 244 = .ok (.goto 28, 3) := by decide +kernel
theorem e_W_acts_247 : decode (mB I_W_acts) 247 = .ok (.iload 4, 2) := by decide +kernel
theorem e_W_acts_249 : decode (mB I_W_acts) 249 = .ok (.iload_n 2, 1) := by decide +kernel
theorem e_W_acts_250 : decode (mB I_W_acts) 250 = .ok (.if_icmp .ne 21, 3) := by decide +kernel
theorem e_W_acts_253 : decode (mB I_W_acts) 253 = .ok (.aload_n 0, 1) := by decide +kernel
theorem e_W_acts_254 : decode (mB I_W_acts) 254 = .ok (.iload_n 2, 1) := by decide +kernel
theorem e_W_acts_255 : decode (mB I_W_acts) 255 = .ok (.invokestatic 146, 3) := by decide +kernel
theorem e_W_acts_258 : decode (mB I_W_acts) 258 = .ok (.iload_n 3, 1) := by decide +kernel
theorem e_W_acts_259 : decode (mB I_W_acts) 259 = .ok (.aload_n 0, 1) := by decide +kernel
theorem e_W_acts_260 : decode (mB I_W_acts) 260 = .ok (.invokevirtual 229, 3) := by decide +kernel
theorem e_W_acts_263 : decode (mB I_W_acts) 263 = .ok (.imul, 1) := by decide +kernel
theorem e_W_acts_264 : decode (mB I_W_acts) 264 = .ok (.if_icmp .ne 7, 3) := by decide +kernel
theorem e_W_acts_267 : decode (mB I_W_acts) 267 = .ok (.iconst 1, 1) := by decide +kernel
theorem e_W_acts_268 : decode (mB I_W_acts) 268 = .ok (.goto 4, 3) := by decide +kernel
theorem e_W_acts_271 : decode (mB I_W_acts) 271 = .ok (.iconst 0, 1) := by decide +kernel
theorem e_W_acts_272 : decode (mB I_W_acts) 272 = .ok (.ireturn, 1) := by decide +kernel
theorem e_W_acts_273 : decode (mB I_W_acts) 273 = .ok (.iload_n 2, 1) := by decide +kernel
theorem e_W_acts_274 : decode (mB I_W_acts) 274 = .ok (.ifCond .ne 19, 3) := by decide +kernel
theorem e_W_acts_277 : decode (mB I_W_acts) 277 = .ok (.aload_n 0, 1) := by decide +kernel
theorem e_W_acts_278 : decode (mB I_W_acts) 278 = .ok (.iconst 0, 1) := by decide +kernel
theorem e_W_acts_279 : decode (mB I_W_acts) 279 = .ok (.invokestatic 232, 3) := by decide +kernel
theorem e_W_acts_282 : decode (mB I_W_acts) 282 = .ok (.ldc 32, 2) := by decide +kernel
theorem e_W_acts_284 : decode (mB I_W_acts) 284 = .ok (.if_icmp .ne 7, 3) := by decide +kernel
theorem e_W_acts_287 : decode (mB I_W_acts) 287 = .ok (.iconst 1, 1) := by decide +kernel
theorem e_W_acts_288 : decode (mB I_W_acts) 288 = .ok (.goto 4, 3) := by decide +kernel
theorem e_W_acts_291 : decode (mB I_W_acts) 291 = .ok (.iconst 0, 1) := by decide +kernel
theorem e_W_acts_292 : decode (mB I_W_acts) 292 = .ok (.ireturn, 1) := by decide +kernel
theorem e_W_acts_293 : decode (mB I_W_acts) 293 = .ok (.aload_n 1, 1) := by decide +kernel
theorem e_W_acts_294 : decode (mB I_W_acts) 294 = .ok (.iload_n 2, 1) := by decide +kernel
theorem e_W_acts_295 : decode (mB I_W_acts) 295 = .ok (.invokestatic 217, 3) := by decide +kernel
theorem e_W_acts_298 : decode (mB I_W_acts) 298 = .ok (.istore_n 3, 1) := by decide +kernel
theorem e_W_acts_299 : decode (mB I_W_acts) 299 = .ok (.aload_n 0, 1) := by decide +kernel
theorem e_W_acts_300 : decode (mB I_W_acts) 300 = .ok (.iload_n 3, 1) := by decide +kernel
theorem e_W_acts_301 : decode (mB I_W_acts) 301 = .ok (.invokestatic 234, 3) := by decide +kernel
theorem e_W_acts_304 : decode (mB I_W_acts) 304 = .ok (.istore 4, 2) := by decide +kernel
theorem e_W_acts_306 : decode (mB I_W_acts) 306 = .ok (.aload_n 0, 1) := by decide +kernel
theorem e_W_acts_307 : decode (mB I_W_acts) 307 = .ok (.iload_n 3, 1) := by decide +kernel
theorem e_W_acts_308 : decode (mB I_W_acts) 308 = .ok (.invokestatic 156, 3) := by decide +kernel
theorem e_W_acts_311 : decode (mB I_W_acts) 311 = .ok (.istore 5, 2) := by decide +kernel
theorem e_W_acts_313 : decode (mB I_W_acts) 313 = .ok (.aload_n 0, 1) := by decide +kernel
theorem e_W_acts_314 : decode (mB I_W_acts) 314 = .ok (.invokevirtual 175, 3) := by decide +kernel
theorem e_W_acts_317 : decode (mB I_W_acts) 317 = .ok (.istore 6, 2) := by decide +kernel
theorem e_W_acts_319 : decode (mB I_W_acts) 319 = .ok (.aload_n 0, 1) := by decide +kernel
theorem e_W_acts_320 : decode (mB I_W_acts) 320 = .ok (.iload_n 3, 1) := by decide +kernel
theorem e_W_acts_321 : decode (mB I_W_acts) 321 = .ok (.invokestatic 144, 3) := by decide +kernel
theorem e_W_acts_324 : decode (mB I_W_acts) 324 = .ok (.ifCond .ne 14, 3) := by decide +kernel
theorem e_W_acts_327 : decode (mB I_W_acts) 327 = .ok (.iload 5, 2) := by decide +kernel
theorem e_W_acts_329 : decode (mB I_W_acts) 329 = .ok (.bipush 9, 2) := by decide +kernel
theorem e_W_acts_331 : decode (mB I_W_acts) 331 = .ok (.if_icmp .ge 7, 3) := by decide +kernel
theorem e_W_acts_334 : decode (mB I_W_acts) 334 = .ok (.iconst 1, 1) := by decide +kernel
theorem e_W_acts_335 : decode (mB I_W_acts) 335 = .ok (.goto 4, 3) := by decide +kernel
theorem e_W_acts_338 : decode (mB I_W_acts) 338 = .ok (.iconst 0, 1) := by decide +kernel
theorem e_W_acts_339 : decode (mB I_W_acts) 339 = .ok (.istore 7, 2) := by decide +kernel
theorem e_W_acts_341 : decode (mB I_W_acts) 341 = .ok (.iload 7, 2) := by decide +kernel
theorem e_W_acts_343 : decode (mB I_W_acts) 343 = .ok (.ifCond .ne 25, 3) := by decide +kernel
theorem e_W_acts_346 : decode (mB I_W_acts) 346 = .ok (.iload 4, 2) := by decide +kernel
theorem e_W_acts_348 : decode (mB I_W_acts) 348 = .ok (.iconst (-1), 1) := by decide +kernel
theorem e_W_acts_349 : decode (mB I_W_acts) 349 = .ok (.if_icmp .ne 17, 3) := by decide +kernel
theorem e_W_acts_352 : decode (mB I_W_acts) 352 = .ok (.aload_n 0, 1) := by decide +kernel
theorem e_W_acts_353 : decode (mB I_W_acts) 353 = .ok (.iload_n 3, 1) := by decide +kernel
theorem e_W_acts_354 : decode (mB I_W_acts) 354 = .ok (.invokestatic 232, 3) := by decide +kernel
theorem e_W_acts_357 : decode (mB I_W_acts) 357 = .ok (.ldc 22, 2) := by decide +kernel
theorem e_W_acts_359 : decode (mB I_W_acts) 359 = .ok (.if_icmp .ne 7, 3) := by decide +kernel
theorem e_W_acts_362 : decode (mB I_W_acts) 362 = .ok (.iconst 1, 1) := by decide +kernel
theorem e_W_acts_363 : decode (mB I_W_acts) 363 = .ok (.goto 4, 3) := by decide +kernel
theorem e_W_acts_366 : decode (mB I_W_acts) 366 = .ok (.iconst 0, 1) := by decide +kernel
theorem e_W_acts_367 : decode (mB I_W_acts) 367 = .ok (.ireturn, 1) := by decide +kernel
theorem e_W_acts_368 : decode (mB I_W_acts) 368 = .ok (.aload_n 0, 1) := by decide +kernel
theorem e_W_acts_369 : decode (mB I_W_acts) 369 = .ok (.iload_n 3, 1) := by decide +kernel
theorem e_W_acts_370 : decode (mB I_W_acts) 370 = .ok (.invokestatic 232, 3) := by decide +kernel
theorem e_W_acts_373 : decode (mB I_W_acts) 373 = .ok (.iload 5, 2) := by decide +kernel
theorem e_W_acts_375 : decode (mB I_W_acts) 375 = .ok (.iconst 1, 1) := by decide +kernel
theorem e_W_acts_376 : decode (mB I_W_acts) 376 = .ok (.iadd, 1) := by decide +kernel
theorem e_W_acts_377 : decode (mB I_W_acts) 377 = .ok (.if_icmp .ne 12, 3) := by decide +kernel
theorem e_W_acts_380 : decode (mB I_W_acts) 380 = .ok (.aload_n 0, 1) := by decide +kernel
theorem e_W_acts_381 : decode (mB I_W_acts) 381 = .ok (.invokevirtual 175, 3) := by decide +kernel
theorem e_W_acts_384 : decode (mB I_W_acts) 384 = .ok (.iload 4, 2) := by decide +kernel
theorem e_W_acts_386 : decode (mB I_W_acts) 386 = .ok (.if_icmp .eq 5, 3) := by decide +kernel
theorem e_W_acts_389 : decode (mB I_W_acts) 389 = .ok (.iconst 0, 1) := by decide +kernel
theorem e_W_acts_390 : decode (mB I_W_acts) 390 = .ok (.ireturn, 1) := by decide +kernel
theorem e_W_acts_391 : decode (mB I_W_acts) 391 = .ok (.aload_n 1, 1) := by decide +kernel
theorem e_W_acts_392 : decode (mB I_W_acts) 392 = .ok (.iconst 2, 1) := by decide +kernel
theorem e_W_acts_393 : decode (mB I_W_acts) 393 = .ok (.invokestatic 217, 3) := by decide +kernel
theorem e_W_acts_396 : decode (mB I_W_acts) 396 = .ok (.ifCond .eq 22, 3) := by decide +kernel
theorem e_W_acts_399 : decode (mB I_W_acts) 399 = .ok (.aload_n 0, 1) := by decide +kernel
theorem e_W_acts_400 : decode (mB I_W_acts) 400 = .ok (.iload_n 3, 1) := by decide +kernel
theorem e_W_acts_401 : decode (mB I_W_acts) 401 = .ok (.invokestatic 236, 3) := by decide +kernel
theorem e_W_acts_404 : decode (mB I_W_acts) 404 = .ok (.iload 5, 2) := by decide +kernel
theorem e_W_acts_406 : decode (mB I_W_acts) 406 = .ok (.if_icmp .ne 16, 3) := by decide +kernel
theorem e_W_acts_409 : decode (mB I_W_acts) 409 = .ok (.aload_n 0, 1) := by decide +kernel
theorem e_W_acts_410 : decode (mB I_W_acts) 410 = .ok (.invokevirtual 175, 3) := by decide +kernel
theorem e_W_acts_413 : decode (mB I_W_acts) 413 = .ok (.iload 6, 2) := by decide +kernel
theorem e_W_acts_415 : decode (mB I_W_acts) 415 = .ok (.if_icmp .ne 7, 3) := by decide +kernel
theorem e_W_acts_418 : decode (mB I_W_acts) 418 = .ok (.iconst 1, 1) := by decide +kernel
theorem e_W_acts_419 : decode (mB I_W_acts) 419 = .ok (.goto 4, 3) := by decide +kernel
theorem e_W_acts_422 : decode (mB I_W_acts) 422 = .ok (.iconst 0, 1) := by decide +kernel
theorem e_W_acts_423 : decode (mB I_W_acts) 423 = .ok (.ireturn, 1) := by decide +kernel
theorem e_W_acts_424 : decode (mB I_W_acts) 424 = .ok (.aload_n 0, 1) := by decide +kernel
theorem e_W_acts_425 : decode (mB I_W_acts) 425 = .ok (.invokevirtual 238, 3) := by decide +kernel
theorem e_W_acts_428 : decode (mB I_W_acts) 428 = .ok (.istore_n 3, 1) := by decide +kernel
theorem e_W_acts_429 : decode (mB I_W_acts) 429 = .ok (.aload_n 0, 1) := by decide +kernel
theorem e_W_acts_430 : decode (mB I_W_acts) 430 = .ok (.invokevirtual 175, 3) := by decide +kernel
theorem e_W_acts_433 : decode (mB I_W_acts) 433 = .ok (.istore 4, 2) := by decide +kernel
theorem e_W_acts_435 : decode (mB I_W_acts) 435 = .ok (.iconst 0, 1) := by decide +kernel
theorem e_W_acts_436 : decode (mB I_W_acts) 436 = .ok (.istore 5, 2) := by decide +kernel
theorem e_W_acts_438 : decode (mB I_W_acts) 438 = .ok (.iload 5, 2) := by decide +kernel
theorem e_W_acts_440 : decode (mB I_W_acts) 440 = .ok (.iload_n 2, 1) := by decide +kernel
theorem e_W_acts_441 : decode (mB I_W_acts) 441 = .ok (.if_icmp .ge 44, 3) := by decide +kernel
theorem e_W_acts_444 : decode (mB I_W_acts) 444 = .ok (.aload_n 0, 1) := by decide +kernel
theorem e_W_acts_445 : decode (mB I_W_acts) 445 = .ok (.iload 5, 2) := by decide +kernel
theorem e_W_acts_447 : decode (mB I_W_acts) 447 = .ok (.invokestatic 234, 3) := by decide +kernel
theorem e_W_acts_450 : decode (mB I_W_acts) 450 = .ok (.istore 6, 2) := by decide +kernel
theorem e_W_acts_452 : decode (mB I_W_acts) 452 = .ok (.iload 6, 2) := by decide +kernel
theorem e_W_acts_454 : decode (mB I_W_acts) 454 = .ok (.ifCond .lt 25, 3) := by decide +kernel
theorem e_W_acts_457 : decode (mB I_W_acts) 457 = .ok (.iload 6, 2) := by decide +kernel
theorem e_W_acts_459 : decode (mB I_W_acts) 459 = .ok (.iload_n 3, 1) := by decide +kernel
theorem e_W_acts_460 : decode (mB I_W_acts) 460 = .ok (.iconst (-1), 1) := by decide +kernel
theorem e_W_acts_461 : decode (mB I_W_acts) 461 = .ok (.if_icmp .ne 8, 3) := by decide +kernel
theorem e_W_acts_464 : decode (mB I_W_acts) 464 = .ok (.iload 4, 2) := by decide +kernel
theorem e_W_acts_466 : decode (mB I_W_acts) 466 = .ok (.goto 8, 3) := by decide +kernel
theorem e_W_acts_469 : decode (mB I_W_acts) 469 = .ok (.aload_n 0, 1) := by decide +kernel
theorem e_W_acts_470 : decode (mB I_W_acts) 470 = .ok (.iload_n 3, 1) := by decide +kernel
theorem e_W_acts_471 : decode (mB I_W_acts) 471 = .ok (.invokestatic 234, 3) := by decide +kernel
theorem e_W_acts_474 : decode (mB I_W_acts) 474 = .ok (.if_icmp .ge 5, 3) := by decide +kernel
theorem e_W_acts_477 : decode (mB I_W_acts) 477 = .ok (.iconst 0, 1) := by decide +kernel
theorem e_W_acts_478 : decode (mB I_W_acts) 478 = .ok (.ireturn, 1) := by decide +kernel
theorem e_W_acts_479 : decode (mB I_W_acts) 479 = .ok (.iinc 5 1, 3) := by decide +kernel
theorem e_W_acts_482 : decode (mB I_W_acts) 482 = .ok (.goto (-44), 3) := by decide +kernel
theorem e_W_acts_485 : decode (mB I_W_acts) 485 = .ok (.iload_n 3, 1) := by decide +kernel
theorem e_W_acts_486 : decode (mB I_W_acts) 486 = .ok (.iconst (-1), 1) := by decide +kernel
theorem e_W_acts_487 : decode (mB I_W_acts) 487 = .ok (.if_icmp .eq 13, 3) := by decide +kernel
theorem e_W_acts_490 : decode (mB I_W_acts) 490 = .ok (.aload_n 0, 1) := by decide +kernel
theorem e_W_acts_491 : decode (mB I_W_acts) 491 = .ok (.iload_n 3, 1) := by decide +kernel
theorem e_W_acts_492 : decode (mB I_W_acts) 492 = .ok (.invokestatic 234, 3) := by decide +kernel
theorem e_W_acts_495 : decode (mB I_W_acts) 495 = .ok (.iload 4, 2) := by decide +kernel
theorem e_W_acts_497 : decode (mB I_W_acts) 497 = .ok (.if_icmp .ge 7, 3) := by decide +kernel
theorem e_W_acts_500 : decode (mB I_W_acts) 500 = .ok (.iconst 1, 1) := by decide +kernel
theorem e_W_acts_501 : decode (mB I_W_acts) 501 = .ok (.goto 4, 3) := by decide +kernel
theorem e_W_acts_504 : decode (mB I_W_acts) 504 = .ok (.iconst 0, 1) := by decide +kernel
theorem e_W_acts_505 : decode (mB I_W_acts) 505 = .ok (.ireturn, 1) := by decide +kernel
theorem e_W_acts_506 : decode (mB I_W_acts) 506 = .ok (.aload_n 0, 1) := by decide +kernel
theorem e_W_acts_507 : decode (mB I_W_acts) 507 = .ok (.invokevirtual 241, 3) := by decide +kernel
theorem e_W_acts_510 : decode (mB I_W_acts) 510 = .ok (.istore_n 3, 1) := by decide +kernel
theorem e_W_acts_511 : decode (mB I_W_acts) 511 = .ok (.aload_n 0, 1) := by decide +kernel
theorem e_W_acts_512 : decode (mB I_W_acts) 512 = .ok (.invokevirtual 229, 3) := by decide +kernel
theorem e_W_acts_515 : decode (mB I_W_acts) 515 = .ok (.istore 4, 2) := by decide +kernel
theorem e_W_acts_517 : decode (mB I_W_acts) 517 = .ok (.aload_n 0, 1) := by decide +kernel
theorem e_W_acts_518 : decode (mB I_W_acts) 518 = .ok (.invokevirtual 175, 3) := by decide +kernel
theorem e_W_acts_521 : decode (mB I_W_acts) 521 = .ok (.istore 5, 2) := by decide +kernel
theorem e_W_acts_523 : decode (mB I_W_acts) 523 = .ok (.iload_n 3, 1) := by decide +kernel
theorem e_W_acts_524 : decode (mB I_W_acts) 524 = .ok (.iconst (-1), 1) := by decide +kernel
theorem e_W_acts_525 : decode (mB I_W_acts) 525 = .ok (.if_icmp .ne 16, 3) := by decide +kernel
theorem e_W_acts_528 : decode (mB I_W_acts) 528 = .ok (.aload_n 0, 1) := by decide +kernel
theorem e_W_acts_529 : decode (mB I_W_acts) 529 = .ok (.invokevirtual 190, 3) := by decide +kernel
theorem e_W_acts_532 : decode (mB I_W_acts) 532 = .ok (.ifCond .ne 7, 3) := by decide +kernel
theorem e_W_acts_535 : decode (mB I_W_acts) 535 = .ok (.iconst 1, 1) := by decide +kernel
theorem e_W_acts_536 : decode (mB I_W_acts) 536 = .ok (.goto 4, 3) := by decide +kernel
theorem e_W_acts_539 : decode (mB I_W_acts) 539 = .ok (.iconst 0, 1) := by decide +kernel
theorem e_W_acts_540 : decode (mB I_W_acts) 540 = .ok (.ireturn, 1) := by decide +kernel
theorem e_W_acts_541 : decode (mB I_W_acts) 541 = .ok (.aload_n 0, 1) := by decide +kernel
theorem e_W_acts_542 : decode (mB I_W_acts) 542 = .ok (.iload_n 3, 1) := by decide +kernel
theorem e_W_acts_543 : decode (mB I_W_acts) 543 = .ok (.invokestatic 244, 3) := by decide +kernel
theorem e_W_acts_546 : decode (mB I_W_acts) 546 = .ok (.iload 4, 2) := by decide +kernel
theorem e_W_acts_548 : decode (mB I_W_acts) 548 = .ok (.if_icmp .ne 12, 3) := by decide +kernel
theorem e_W_acts_551 : decode (mB I_W_acts) 551 = .ok (.aload_n 0, 1) := by decide +kernel
theorem e_W_acts_552 : decode (mB I_W_acts) 552 = .ok (.invokevirtual 175, 3) := by decide +kernel
theorem e_W_acts_555 : decode (mB I_W_acts) 555 = .ok (.iload 5, 2) := by decide +kernel
theorem e_W_acts_557 : decode (mB I_W_acts) 557 = .ok (.if_icmp .le 5, 3) := by decide +kernel
theorem e_W_acts_560 : decode (mB I_W_acts) 560 = .ok (.iconst 0, 1) := by decide +kernel
theorem e_W_acts_561 : decode (mB I_W_acts) 561 = .ok (.ireturn, 1) := by decide +kernel
theorem e_W_acts_562 : decode (mB I_W_acts) 562 = .ok (.aload_n 0, 1) := by decide +kernel
theorem e_W_acts_563 : decode (mB I_W_acts) 563 = .ok (.invokevirtual 175, 3) := by decide +kernel
theorem e_W_acts_566 : decode (mB I_W_acts) 566 = .ok (.istore 6, 2) := by decide +kernel
theorem e_W_acts_568 : decode (mB I_W_acts) 568 = .ok (.bipush 100, 2) := by decide +kernel
theorem e_W_acts_570 : decode (mB I_W_acts) 570 = .ok (.aload_n 1, 1) := by decide +kernel
theorem e_W_acts_571 : decode (mB I_W_acts) 571 = .ok (.sipush 900, 3) := by decide +kernel
theorem e_W_acts_574 : decode (mB I_W_acts) 574 = .ok (.invokestatic 217, 3) := by decide +kernel
theorem e_W_acts_577 : decode (mB I_W_acts) 577 = .ok (.iadd, 1) := by decide +kernel
theorem e_W_acts_578 : decode (mB I_W_acts) 578 = .ok (.istore 7, 2) := by decide +kernel
theorem e_W_acts_580 : decode (mB I_W_acts) 580 = .ok (.aload_n 0, 1) := by decide +kernel
theorem e_W_acts_581 : decode (mB I_W_acts) 581 = .ok (.iload 7, 2) := by decide +kernel
theorem e_W_acts_583 : decode (mB I_W_acts) 583 = .ok (.invokestatic 244, 3) := by decide +kernel
theorem e_W_acts_586 : decode (mB I_W_acts) 586 = .ok (.iload_n 3, 1) := by decide +kernel
theorem e_W_acts_587 : decode (mB I_W_acts) 587 = .ok (.if_icmp .ne 31, 3) := by decide +kernel
theorem e_W_acts_590 : decode (mB I_W_acts) 590 = .ok (.aload_n 0, 1) := by decide +kernel
theorem e_W_acts_591 : decode (mB I_W_acts) 591 = .ok (.invokevirtual 175, 3) := by decide +kernel
theorem e_W_acts_594 : decode (mB I_W_acts) 594 = .ok (.iload 6, 2) := by decide +kernel
theorem e_W_acts_596 : decode (mB I_W_acts) 596 = .ok (.if_icmp .gt 18, 3) := by decide +kernel
theorem e_W_acts_599 : decode (mB I_W_acts) 599 = .ok (.aload_n 0, 1) := by decide +kernel
theorem e_W_acts_600 : decode (mB I_W_acts) 600 = .ok (.invokevirtual 175, 3) := by decide +kernel
theorem e_W_acts_603 : decode (mB I_W_acts) 603 = .ok (.iload 6, 2) := by decide +kernel
theorem e_W_acts_605 : decode (mB I_W_acts) 605 = .ok (.if_icmp .ne 13, 3) := by decide +kernel
theorem e_W_acts_608 : decode (mB I_W_acts) 608 = .ok (.iload 7, 2) := by decide +kernel
theorem e_W_acts_610 : decode (mB I_W_acts) 610 = .ok (.iload_n 3, 1) := by decide +kernel
theorem e_W_acts_611 : decode (mB I_W_acts) 611 = .ok (.if_icmp .lt 7, 3) := by decide +kernel
theorem e_W_acts_614 : decode (mB I_W_acts) 614 = .ok (.iconst 1, 1) := by decide +kernel
theorem e_W_acts_615 : decode (mB I_W_acts) 615 = .ok (.goto 4, 3) := by decide +kernel
theorem e_W_acts_618 : decode (mB I_W_acts) 618 = .ok (.iconst 0, 1) := by decide +kernel
theorem e_W_acts_619 : decode (mB I_W_acts) 619 = .ok (.ireturn, 1) := by decide +kernel
theorem e_W_acts_620 : decode (mB I_W_acts) 620 = .ok (.aload_n 0, 1) := by decide +kernel
theorem e_W_acts_621 : decode (mB I_W_acts) 621 = .ok (.invokevirtual 246, 3) := by decide +kernel
theorem e_W_acts_624 : decode (mB I_W_acts) 624 = .ok (.istore_n 3, 1) := by decide +kernel
theorem e_W_acts_625 : decode (mB I_W_acts) 625 = .ok (.aload_n 1, 1) := by decide +kernel
theorem e_W_acts_626 : decode (mB I_W_acts) 626 = .ok (.sipush 200, 3) := by decide +kernel
theorem e_W_acts_629 : decode (mB I_W_acts) 629 = .ok (.invokestatic 217, 3) := by decide +kernel
theorem e_W_acts_632 : decode (mB I_W_acts) 632 = .ok (.istore 4, 2) := by decide +kernel
theorem e_W_acts_634 : decode (mB I_W_acts) 634 = .ok (.aload_n 0, 1) := by decide +kernel
theorem e_W_acts_635 : decode (mB I_W_acts) 635 = .ok (.invokevirtual 160, 3) := by decide +kernel
theorem e_W_acts_638 : decode (mB I_W_acts) 638 = .ok (.istore 5, 2) := by decide +kernel
theorem e_W_acts_640 : decode (mB I_W_acts) 640 = .ok (.aload_n 0, 1) := by decide +kernel
theorem e_W_acts_641 : decode (mB I_W_acts) 641 = .ok (.iload 4, 2) := by decide +kernel
theorem e_W_acts_643 : decode (mB I_W_acts) 643 = .ok (.invokestatic 249, 3) := by decide +kernel
theorem e_W_acts_646 : decode (mB I_W_acts) 646 = .ok (.iload_n 3, 1) := by decide +kernel
theorem e_W_acts_647 : decode (mB I_W_acts) 647 = .ok (.if_icmp .ne 29, 3) := by decide +kernel
theorem e_W_acts_650 : decode (mB I_W_acts) 650 = .ok (.aload_n 0, 1) := by decide +kernel
theorem e_W_acts_651 : decode (mB I_W_acts) 651 = .ok (.aload_n 1, 1) := by decide +kernel
theorem e_W_acts_652 : decode (mB I_W_acts) 652 = .ok (.iconst 2, 1) := by decide +kernel
theorem e_W_acts_653 : decode (mB I_W_acts) 653 = .ok (.invokestatic 217, 3) := by decide +kernel
theorem e_W_acts_656 : decode (mB I_W_acts) 656 = .ok (.ifCond .ne 7, 3) := by decide +kernel
theorem e_W_acts_659 : decode (mB I_W_acts) 659 = .ok (.iconst 1, 1) := by decide +kernel
theorem e_W_acts_660 : decode (mB I_W_acts) 660 = .ok (.goto 4, 3) := by decide +kernel
theorem e_W_acts_663 : decode (mB I_W_acts) 663 = .ok (.iconst 0, 1) := by decide +kernel
theorem e_W_acts_664 : decode (mB I_W_acts) 664 = .ok (.invokevirtual 251, 3) := by decide +kernel
theorem e_W_acts_667 : decode (mB I_W_acts) 667 = .ok (.iload 5, 2) := by decide +kernel
theorem e_W_acts_669 : decode (mB I_W_acts) 669 = .ok (.if_icmp .ne 7, 3) := by decide +kernel
theorem e_W_acts_672 : decode (mB I_W_acts) 672 = .ok (.iconst 1, 1) := by decide +kernel
theorem e_W_acts_673 : decode (mB I_W_acts) 673 = .ok (.goto 4, 3) := by decide +kernel
theorem e_W_acts_676 : decode (mB I_W_acts) 676 = .ok (.iconst 0, 1) := by decide +kernel
theorem e_W_acts_677 : decode (mB I_W_acts) 677 = .ok (.ireturn, 1) := by decide +kernel
theorem e_W_acts_678 : decode (mB I_W_acts) 678 = .ok (.iload_n 2, 1) := by decide +kernel
theorem e_W_acts_679 : decode (mB I_W_acts) 679 = .ok (.ifCond .ne 20, 3) := by decide +kernel
theorem e_W_acts_682 : decode (mB I_W_acts) 682 = .ok (.aload_n 0, 1) := by decide +kernel
theorem e_W_acts_683 : decode (mB I_W_acts) 683 = .ok (.invokestatic 255, 3) := by decide +kernel
theorem e_W_acts_686 : decode (mB I_W_acts) 686 = .ok (.ldc 22, 2) := by decide +kernel
theorem e_W_acts_688 : decode (mB I_W_acts) 688 = .ok (.if_icmp .ne 7, 3) := by decide +kernel
theorem e_W_acts_691 : decode (mB I_W_acts) 691 = .ok (.iconst 1, 1) := by decide +kernel
theorem e_W_acts_692 : decode (mB I_W_acts) 692 = .ok (.goto 27, 3) := by decide +kernel
theorem e_W_acts_695 : decode (mB I_W_acts) 695 = .ok (.iconst 0, 1) := by decide +kernel
theorem e_W_acts_696 : decode (mB I_W_acts) 696 = .ok (.goto 23, 3) := by decide +kernel
theorem e_W_acts_699 : decode (mB I_W_acts) 699 = .ok (.iload_n 2, 1) := by decide +kernel
theorem e_W_acts_700 : decode (mB I_W_acts) 700 = .ok (.iconst 4, 1) := by decide +kernel
theorem e_W_acts_701 : decode (mB I_W_acts) 701 = .ok (.if_icmp .lt 13, 3) := by decide +kernel
theorem e_W_acts_704 : decode (mB I_W_acts) 704 = .ok (.aload_n 0, 1) := by decide +kernel
theorem e_W_acts_705 : decode (mB I_W_acts) 705 = .ok (.invokestatic 255, 3) := by decide +kernel
theorem e_W_acts_708 : decode (mB I_W_acts) 708 = .ok (.iload_n 2, 1) := by decide +kernel
theorem e_W_acts_709 : decode (mB I_W_acts) 709 = .ok (.iconst 1, 1) := by decide +kernel
theorem e_W_acts_710 : decode (mB I_W_acts) 710 = .ok (.isub, 1) := by decide +kernel
theorem e_W_acts_711 : decode (mB I_W_acts) 711 = .ok (.if_icmp .ne 7, 3) := by decide +kernel
theorem e_W_acts_714 : decode (mB I_W_acts) 714 = .ok (.iconst 1, 1) := by decide +kernel
theorem e_W_acts_715 : decode (mB I_W_acts) 715 = .ok (.goto 4, 3) := by decide +kernel
theorem e_W_acts_718 : decode (mB I_W_acts) 718 = .ok (.iconst 0, 1) := by decide +kernel
theorem e_W_acts_719 : decode (mB I_W_acts) 719 = .ok (.ireturn, 1) := by decide +kernel
