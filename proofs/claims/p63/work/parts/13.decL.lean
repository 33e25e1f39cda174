/-! decoded instructions -/
theorem e_L_advance_0 : decode (mB I_L_advance) 0 = .ok (.aload_n 0, 1) := by decide +kernel
theorem e_L_advance_1 : decode (mB I_L_advance) 1 = .ok (.aload_n 0, 1) := by decide +kernel
theorem e_L_advance_2 : decode (mB I_L_advance) 2 = .ok (.getfield 25, 3) := by decide +kernel
theorem e_L_advance_5 : decode (mB I_L_advance) 5 = .ok (.putfield 31, 3) := by decide +kernel
theorem e_L_advance_8 : decode (mB I_L_advance) 8 = .ok (.aload_n 0, 1) := by decide +kernel
theorem e_L_advance_9 : decode (mB I_L_advance) 9 = .ok (.getfield 31, 3) := by decide +kernel
theorem e_L_advance_12 : decode (mB I_L_advance) 12 = .ok (.aload_n 0, 1) := by decide +kernel
theorem e_L_advance_13 : decode (mB I_L_advance) 13 = .ok (.getfield 21, 3) := by decide +kernel
theorem e_L_advance_16 : decode (mB I_L_advance) 16 = .ok (.if_icmp .ge 30, 3) := by decide +kernel
theorem e_L_advance_19 : decode (mB I_L_advance) 19 = .ok (.aload_n 0, 1) := by decide +kernel
theorem e_L_advance_20 : decode (mB I_L_advance) 20 = .ok (.getfield 9, 3) := by decide +kernel
theorem e_L_advance_23 : decode (mB I_L_advance) 23 = .ok (.aload_n 0, 1) := by decide +kernel
theorem e_L_advance_24 : decode (mB I_L_advance) 24 = .ok (.getfield 31, 3) := by decide +kernel
theorem e_L_advance_27 : decode (mB I_L_advance) 27 = .ok (.baload, 1) := by decide +kernel
theorem e_L_advance_28 : decode (mB I_L_advance) 28 = .ok (.bipush 32, 2) := by decide +kernel
theorem e_L_advance_30 : decode (mB I_L_advance) 30 = .ok (.if_icmp .ne 16, 3) := by decide +kernel
theorem e_L_advance_33 : decode (mB I_L_advance) 33 = .ok (.aload_n 0, 1) := by decide +kernel
theorem e_L_advance_34 : decode (mB I_L_advance) 34 = .ok (.dup, 1) := by decide +kernel
theorem e_L_advance_35 : decode (mB I_L_advance) 35 = .ok (.getfield 31, 3) := by decide +kernel
theorem e_L_advance_38 : decode (mB I_L_advance) 38 = .ok (.iconst 1, 1) := by decide +kernel
theorem e_L_advance_39 : decode (mB I_L_advance) 39 = .ok (.iadd, 1) := by decide +kernel
theorem e_L_advance_40 : decode (mB I_L_advance) 40 = .ok (.putfield 31, 3) := by decide +kernel
theorem e_L_advance_43 : decode (mB I_L_advance) 43 = .ok (.goto (-35), 3) := by decide +kernel
theorem e_L_advance_46 : decode (mB I_L_advance) 46 = .ok (.aload_n 0, 1) := by decide +kernel
theorem e_L_advance_47 : decode (mB I_L_advance) 47 = .ok (.aload_n 0, 1) := by decide +kernel
theorem e_L_advance_48 : decode (mB I_L_advance) 48 = .ok (.getfield 31, 3) := by decide +kernel
theorem e_L_advance_51 : decode (mB I_L_advance) 51 = .ok (.putfield 25, 3) := by decide +kernel
theorem e_L_advance_54 : decode (mB I_L_advance) 54 = .ok (.aload_n 0, 1) := by decide +kernel
theorem e_L_advance_55 : decode (mB I_L_advance) 55 = .ok (.getfield 31, 3) := by decide +kernel
theorem e_L_advance_58 : decode (mB I_L_advance) 58 = .ok (.aload_n 0, 1) := by decide +kernel
theorem e_L_advance_59 : decode (mB I_L_advance) 59 = .ok (.getfield 21, 3) := by decide +kernel
theorem e_L_advance_62 : decode (mB I_L_advance) 62 = .ok (.if_icmp .lt 11, 3) := by decide +kernel
theorem e_L_advance_65 : decode (mB I_L_advance) 65 = .ok (.aload_n 0, 1) := by decide +kernel
theorem e_L_advance_66 : decode (mB I_L_advance) 66 = .ok (.iconst 0, 1) := by decide +kernel
theorem e_L_advance_67 : decode (mB I_L_advance) 67 = .ok (.putfield 34, 3) := by decide +kernel
theorem e_L_advance_70 : decode (mB I_L_advance) 70 = .ok (.goto 188, 3) := by decide +kernel
theorem e_L_advance_73 : decode (mB I_L_advance) 73 = .ok (.aload_n 0, 1) := by decide +kernel
theorem e_L_advance_74 : decode (mB I_L_advance) 74 = .ok (.getfield 9, 3) := by decide +kernel
theorem e_L_advance_77 : decode (mB I_L_advance) 77 = .ok (.aload_n 0, 1) := by decide +kernel
theorem e_L_advance_78 : decode (mB I_L_advance) 78 = .ok (.getfield 31, 3) := by decide +kernel
theorem e_L_advance_81 : decode (mB I_L_advance) 81 = .ok (.baload, 1) := by decide +kernel
theorem e_L_advance_82 : decode (mB I_L_advance) 82 = .ok (.invokestatic 37, 3) := by decide +kernel
theorem e_L_advance_85 : decode (mB I_L_advance) 85 = .ok (.ifCond .eq 47, 3) := by decide +kernel
theorem e_L_advance_88 : decode (mB I_L_advance) 88 = .ok (.aload_n 0, 1) := by decide +kernel
theorem e_L_advance_89 : decode (mB I_L_advance) 89 = .ok (.iconst 1, 1) := by decide +kernel
theorem e_L_advance_90 : decode (mB I_L_advance) 90 = .ok (.putfield 34, 3) := by decide +kernel
theorem e_L_advance_93 : decode (mB I_L_advance) 93 = .ok (.aload_n 0, 1) := by decide +kernel
theorem e_L_advance_94 : decode (mB I_L_advance) 94 = .ok (.getfield 25, 3) := by decide +kernel
theorem e_L_advance_97 : decode (mB I_L_advance) 97 = .ok (.aload_n 0, 1) := by decide +kernel
theorem e_L_advance_98 : decode (mB I_L_advance) 98 = .ok (.getfield 21, 3) := by decide +kernel
theorem e_L_advance_101 : decode (mB I_L_advance) 101 = .ok (.if_icmp .ge 157, 3) := by decide +kernel
theorem e_L_advance_104 : decode (mB I_L_advance) 104 = .ok (.aload_n 0, 1) := by decide +kernel
theorem e_L_advance_105 : decode (mB I_L_advance) 105 = .ok (.getfield 9, 3) := by decide +kernel
theorem e_L_advance_108 : decode (mB I_L_advance) 108 = .ok (.aload_n 0, 1) := by decide +kernel
theorem e_L_advance_109 : decode (mB I_L_advance) 109 = .ok (.getfield 25, 3) := by decide +kernel
theorem e_L_advance_112 : decode (mB I_L_advance) 112 = .ok (.baload, 1) := by decide +kernel
theorem e_L_advance_113 : decode (mB I_L_advance) 113 = .ok (.invokestatic 37, 3) := by decide +kernel
theorem e_L_advance_116 : decode (mB I_L_advance) 116 = .ok (.ifCond .eq 142, 3) := by decide +kernel
theorem e_L_advance_119 : decode (mB I_L_advance) 119 = .ok (.aload_n 0, 1) := by decide +kernel
theorem e_L_advance_120 : decode (mB I_L_advance) 120 = .ok (.dup, 1) := by decide +kernel
theorem e_L_advance_121 : decode (mB I_L_advance) 121 = .ok (.getfield 25, 3) := by decide +kernel
theorem e_L_advance_124 : decode (mB I_L_advance) 124 = .ok (.iconst 1, 1) := by decide +kernel
theorem e_L_advance_125 : decode (mB I_L_advance) 125 = .ok (.iadd, 1) := by decide +kernel
theorem e_L_advance_126 : decode (mB I_L_advance) 126 = .ok (.putfield 25, 3) := by decide +kernel
theorem e_L_advance_129 : decode (mB I_L_advance) 129 = .ok (.goto (-36), 3) := by decide +kernel
theorem e_L_advance_132 : decode (mB I_L_advance) 132 = .ok (.aload_n 0, 1) := by decide +kernel
theorem e_L_advance_133 : decode (mB I_L_advance) 133 = .ok (.getfield 9, 3) := by decide +kernel
theorem e_L_advance_136 : decode (mB I_L_advance) 136 = .ok (.aload_n 0, 1) := by decide +kernel
theorem e_L_advance_137 : decode (mB I_L_advance) 137 = .ok (.getfield 31, 3) := by decide +kernel
theorem e_L_advance_140 : decode (mB I_L_advance) 140 = .ok (.baload, 1) := by decide +kernel
theorem e_L_advance_141 : decode (mB I_L_advance) 141 = .ok (.invokestatic 41, 3) := by decide +kernel
theorem e_L_advance_144 : decode (mB I_L_advance) 144 = .ok (.ifCond .eq 81, 3) := by decide +kernel
theorem e_L_advance_147 : decode (mB I_L_advance) 147 = .ok (.aload_n 0, 1) := by decide +kernel
theorem e_L_advance_148 : decode (mB I_L_advance) 148 = .ok (.iconst 2, 1) := by decide +kernel
theorem e_L_advance_149 : decode (mB I_L_advance) 149 = .ok (.putfield 34, 3) := by decide +kernel
theorem e_L_advance_152 : decode (mB I_L_advance) 152 = .ok (.aload_n 0, 1) := by decide +kernel
theorem e_L_advance_153 : decode (mB I_L_advance) 153 = .ok (.iconst 0, 1) := by decide +kernel
theorem e_L_advance_154 : decode (mB I_L_advance) 154 = .ok (.putfield 44, 3) := by decide +kernel
theorem e_L_advance_157 : decode (mB I_L_advance) 157 = .ok (.aload_n 0, 1) := by decide +kernel
theorem e_L_advance_158 : decode (mB I_L_advance) 158 = .ok (.getfield 25, 3) := by decide +kernel
theorem e_L_advance_161 : decode (mB I_L_advance) 161 = .ok (.aload_n 0, 1) := by decide +kernel
theorem e_L_advance_162 : decode (mB I_L_advance) 162 = .ok (.getfield 21, 3) := by decide +kernel
theorem e_L_advance_165 : decode (mB I_L_advance) 165 = .ok (.if_icmp .ge 93, 3) := by decide +kernel
theorem e_L_advance_168 : decode (mB I_L_advance) 168 = .ok (.aload_n 0, 1) := by decide +kernel
theorem e_L_advance_169 : decode (mB I_L_advance) 169 = .ok (.getfield 9, 3) := by decide +kernel
theorem e_L_advance_172 : decode (mB I_L_advance) 172 = .ok (.aload_n 0, 1) := by decide +kernel
theorem e_L_advance_173 : decode (mB I_L_advance) 173 = .ok (.getfield 25, 3) := by decide +kernel
theorem e_L_advance_176 : decode (mB I_L_advance) 176 = .ok (.baload, 1) := by decide +kernel
theorem e_L_advance_177 : decode (mB I_L_advance) 177 = .ok (.invokestatic 41, 3) := by decide +kernel
theorem e_L_advance_180 : decode (mB I_L_advance) 180 = .ok (.ifCond .eq 78, 3) := by decide +kernel
theorem e_L_advance_183 : decode (mB I_L_advance) 183 = .ok (.aload_n 0, 1) := by decide +kernel
theorem e_L_advance_184 : decode (mB I_L_advance) 184 = .ok (.aload_n 0, 1) := by decide +kernel
theorem e_L_advance_185 : decode (mB I_L_advance) 185 = .ok (.getfield 44, 3) := by decide +kernel
theorem e_L_advance_188 : decode (mB I_L_advance) 188 = .ok (.bipush 10, 2) := by decide +kernel
theorem e_L_advance_190 : decode (mB I_L_advance) 190 = .ok (.imul, 1) := by decide +kernel
theorem e_L_advance_191 : decode (mB I_L_advance) 191 = .ok (.aload_n 0, 1) := by decide +kernel
theorem e_L_advance_192 : decode (mB I_L_advance) 192 = .ok (.getfield 9, 3) := by decide +kernel
theorem e_L_advance_195 : decode (mB I_L_advance) 195 = .ok (.aload_n 0, 1) := by decide +kernel
theorem e_L_advance_196 : decode (mB I_L_advance) 196 = .ok (.getfield 25, 3) := by decide +kernel
theorem e_L_advance_199 : decode (mB I_L_advance) 199 = .ok (.baload, 1) := by decide +kernel
theorem e_L_advance_200 : decode (mB I_L_advance) 200 = .ok (.iadd, 1) := by decide +kernel
theorem e_L_advance_201 : decode (mB I_L_advance) 201 = .ok (.bipush 48, 2) := by decide +kernel
theorem e_L_advance_203 : decode (mB I_L_advance) 203 = .ok (.isub, 1) := by decide +kernel
theorem e_L_advance_204 : decode (mB I_L_advance) 204 = .ok (.ldc 47, 2) := by decide +kernel
theorem e_L_advance_206 : decode (mB I_L_advance) 206 = .ok (.invokestatic 15, 3) := by decide +kernel
theorem e_L_advance_209 : decode (mB I_L_advance) 209 = .ok (.putfield 44, 3) := by decide +kernel
theorem e_L_advance_212 : decode (mB I_L_advance) 212 = .ok (.aload_n 0, 1) := by decide +kernel
theorem e_L_advance_213 : decode (mB I_L_advance) 213 = .ok (.dup, 1) := by decide +kernel
theorem e_L_advance_214 : decode (mB I_L_advance) 214 = .ok (.getfield 25, 3) := by decide +kernel
theorem e_L_advance_217 : decode (mB I_L_advance) 217 = .ok (.iconst 1, 1) := by decide +kernel
theorem e_L_advance_218 : decode (mB I_L_advance) 218 = .ok (.iadd, 1) := by decide +kernel
theorem e_L_advance_219 : decode (mB I_L_advance) 219 = .ok (.putfield 25, 3) := by decide +kernel
theorem e_L_advance_222 : decode (mB I_L_advance) 222 = .ok (.goto (-65), 3) := by decide +kernel
theorem e_L_advance_225 : decode (mB I_L_advance) 225 = .ok (.aload_n 0, 1) := by decide +kernel
theorem e_L_advance_226 : decode (mB I_L_advance) 226 = .ok (.aload_n 0, 1) := by decide +kernel
theorem e_L_advance_227 : decode (mB I_L_advance) 227 = .ok (.getfield 9, 3) := by decide +kernel
theorem e_L_advance_230 : decode (mB I_L_advance) 230 = .ok (.aload_n 0, 1) := by decide +kernel
theorem e_L_advance_231 : decode (mB I_L_advance) 231 = .ok (.getfield 31, 3) := by decide +kernel
theorem e_L_advance_234 : decode (mB I_L_advance) 234 = .ok (.baload, 1) := by decide +kernel
theorem e_L_advance_235 : decode (mB I_L_advance) 235 = .ok (.bipush 59, 2) := by decide +kernel
theorem e_L_advance_237 : decode (mB I_L_advance) 237 = .ok (.if_icmp .ne 7, 3) := by decide +kernel
theorem e_L_advance_240 : decode (mB I_L_advance) 240 = .ok (.iconst 3, 1) := by decide +kernel
theorem e_L_advance_241 : decode (mB I_L_advance) 241 = .ok (.goto 4, 3) := by decide +kernel
theorem e_L_advance_244 : decode (mB I_L_advance) 244 = .ok (.iconst 4, 1) := by decide +kernel
theorem e_L_advance_245 : decode (mB I_L_advance) 245 = .ok (.putfield 34, 3) := by decide +kernel
theorem e_L_advance_248 : decode (mB I_L_advance) 248 = .ok (.aload_n 0, 1) := by decide +kernel
theorem e_L_advance_249 : decode (mB I_L_advance) 249 = .ok (.dup, 1) := by decide +kernel
theorem e_L_advance_250 : decode (mB I_L_advance) 250 = .ok (.getfield 25, 3) := by decide +kernel
theorem e_L_advance_253 : decode (mB I_L_advance) 253 = .ok (.iconst 1, 1) := by decide +kernel
theorem e_L_advance_254 : decode (mB I_L_advance) 254 = .ok (.iadd, 1) := by decide +kernel
theorem e_L_advance_255 : decode (mB I_L_advance) 255 = .ok (.putfield 25, 3) := by decide +kernel
theorem e_L_advance_258 : decode (mB I_L_advance) 258 = .ok (.return_, 1) := by decide +kernel
theorem e_L_begin_0 : decode (mB I_L_begin) 0 = .ok (.aload_n 0, 1) := by decide +kernel
theorem e_L_begin_1 : decode (mB I_L_begin) 1 = .ok (.iload_n 1, 1) := by decide +kernel
theorem e_L_begin_2 : decode (mB I_L_begin) 2 = .ok (.aload_n 0, 1) := by decide +kernel
theorem e_L_begin_3 : decode (mB I_L_begin) 3 = .ok (.getfield 9, 3) := by decide +kernel
theorem e_L_begin_6 : decode (mB I_L_begin) 6 = .ok (.arraylength, 1) := by decide +kernel
theorem e_L_begin_7 : decode (mB I_L_begin) 7 = .ok (.invokestatic 15, 3) := by decide +kernel
theorem e_L_begin_10 : decode (mB I_L_begin) 10 = .ok (.putfield 21, 3) := by decide +kernel
theorem e_L_begin_13 : decode (mB I_L_begin) 13 = .ok (.aload_n 0, 1) := by decide +kernel
theorem e_L_begin_14 : decode (mB I_L_begin) 14 = .ok (.iconst 0, 1) := by decide +kernel
theorem e_L_begin_15 : decode (mB I_L_begin) 15 = .ok (.putfield 25, 3) := by decide +kernel
theorem e_L_begin_18 : decode (mB I_L_begin) 18 = .ok (.aload_n 0, 1) := by decide +kernel
theorem e_L_begin_19 : decode (mB I_L_begin) 19 = .ok (.invokevirtual 28, 3) := by decide +kernel
theorem e_L_begin_22 : decode (mB I_L_begin) 22 = .ok (.return_, 1) := by decide +kernel
theorem e_L_isAt_0 : decode (mB I_L_isAt) 0 = .ok (.aload_n 0, 1) := by decide +kernel
theorem e_L_isAt_1 : decode (mB I_L_isAt) 1 = .ok (.getfield 34, 3) := by decide +kernel
theorem e_L_isAt_4 : decode (mB I_L_isAt) 4 = .ok (.iconst 1, 1) := by decide +kernel
theorem e_L_isAt_5 : decode (mB I_L_isAt) 5 = .ok (.if_icmp .ne 19, 3) := by decide +kernel
theorem e_L_isAt_8 : decode (mB I_L_isAt) 8 = .ok (.aload_n 0, 1) := by decide +kernel
theorem e_L_isAt_9 : decode (mB I_L_isAt) 9 = .ok (.getfield 25, 3) := by decide +kernel
theorem e_L_isAt_12 : decode (mB I_L_isAt) 12 = .ok (.aload_n 0, 1) := by decide +kernel
theorem e_L_isAt_13 : decode (mB I_L_isAt) 13 = .ok (.getfield 31, 3) := by decide +kernel
theorem e_L_isAt_16 : decode (mB I_L_isAt) 16 = .ok (.isub, 1) := by decide +kernel
theorem e_L_isAt_17 : decode (mB I_L_isAt) 17 = .ok (.aload_n 1, 1) := by decide +kernel
theorem e_L_isAt_18 : decode (mB I_L_isAt) 18 = .ok (.invokevirtual 48, 3) := by decide +kernel
theorem e_L_isAt_21 : decode (mB I_L_isAt) 21 = .ok (.if_icmp .eq 5, 3) := by decide +kernel
theorem e_L_isAt_24 : decode (mB I_L_isAt) 24 = .ok (.iconst 0, 1) := by decide +kernel
theorem e_L_isAt_25 : decode (mB I_L_isAt) 25 = .ok (.ireturn, 1) := by decide +kernel
theorem e_L_isAt_26 : decode (mB I_L_isAt) 26 = .ok (.iconst 0, 1) := by decide +kernel
theorem e_L_isAt_27 : decode (mB I_L_isAt) 27 = .ok (.istore_n 2, 1) := by decide +kernel
theorem e_L_isAt_28 : decode (mB I_L_isAt) 28 = .ok (.iload_n 2, 1) := by decide +kernel
theorem e_L_isAt_29 : decode (mB I_L_isAt) 29 = .ok (.aload_n 1, 1) := by decide +kernel
theorem e_L_isAt_30 : decode (mB I_L_isAt) 30 = .ok (.invokevirtual 48, 3) := by decide +kernel
theorem e_L_isAt_33 : decode (mB I_L_isAt) 33 = .ok (.if_icmp .ge 30, 3) := by decide +kernel
theorem e_L_isAt_36 : decode (mB I_L_isAt) 36 = .ok (.aload_n 0, 1) := by decide +kernel
theorem e_L_isAt_37 : decode (mB I_L_isAt) 37 = .ok (.getfield 9, 3) := by decide +kernel
theorem e_L_isAt_40 : decode (mB I_L_isAt) 40 = .ok (.aload_n 0, 1) := by decide +kernel
theorem e_L_isAt_41 : decode (mB I_L_isAt) 41 = .ok (.getfield 31, 3) := by decide +kernel
theorem e_L_isAt_44 : decode (mB I_L_isAt) 44 = .ok (.iload_n 2, 1) := by decide +kernel
theorem e_L_isAt_45 : decode (mB I_L_isAt) 45 = .ok (.iadd, 1) := by decide +kernel
theorem e_L_isAt_46 : decode (mB I_L_isAt) 46 = .ok (.baload, 1) := by decide +kernel
theorem e_L_isAt_47 : decode (mB I_L_isAt) 47 = .ok (.aload_n 1, 1) := by decide +kernel
theorem e_L_isAt_48 : decode (mB I_L_isAt) 48 = .ok (.iload_n 2, 1) := by decide +kernel
theorem e_L_isAt_49 : decode (mB I_L_isAt) 49 = .ok (.invokevirtual 53, 3) := by decide +kernel
theorem e_L_isAt_52 : decode (mB I_L_isAt) 52 = .ok (.if_icmp .eq 5, 3) := by decide +kernel
theorem e_L_isAt_55 : decode (mB I_L_isAt) 55 = .ok (.iconst 0, 1) := by decide +kernel
theorem e_L_isAt_56 : decode (mB I_L_isAt) 56 = .ok (.ireturn, 1) := by decide +kernel
theorem e_L_isAt_57 : decode (mB I_L_isAt) 57 = .ok (.iinc 2 1, 3) := by decide +kernel
theorem e_L_isAt_60 : decode (mB I_L_isAt) 60 = .ok (.goto (-32), 3) := by decide +kernel
theorem e_L_isAt_63 : decode (mB I_L_isAt) 63 = .ok (.iconst 1, 1) := by decide +kernel
theorem e_L_isAt_64 : decode (mB I_L_isAt) 64 = .ok (.ireturn, 1) := by decide +kernel
