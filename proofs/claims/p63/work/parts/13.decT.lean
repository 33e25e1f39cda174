/-! decoded instructions -/
theorem e_T_endEast_0 : decode (mB I_T_endEast) 0 = .ok (.aload_n 0, 1) := by decide +kernel
theorem e_T_endEast_1 : decode (mB I_T_endEast) 1 = .ok (.getfield 15, 3) := by decide +kernel
theorem e_T_endEast_4 : decode (mB I_T_endEast) 4 = .ok (.aload_n 0, 1) := by decide +kernel
theorem e_T_endEast_5 : decode (mB I_T_endEast) 5 = .ok (.getfield 33, 3) := by decide +kernel
theorem e_T_endEast_8 : decode (mB I_T_endEast) 8 = .ok (.iaload, 1) := by decide +kernel
theorem e_T_endEast_9 : decode (mB I_T_endEast) 9 = .ok (.ireturn, 1) := by decide +kernel
theorem e_T_totalRun_0 : decode (mB I_T_totalRun) 0 = .ok (.aload_n 0, 1) := by decide +kernel
theorem e_T_totalRun_1 : decode (mB I_T_totalRun) 1 = .ok (.getfield 9, 3) := by decide +kernel
theorem e_T_totalRun_4 : decode (mB I_T_totalRun) 4 = .ok (.aload_n 0, 1) := by decide +kernel
theorem e_T_totalRun_5 : decode (mB I_T_totalRun) 5 = .ok (.getfield 33, 3) := by decide +kernel
theorem e_T_totalRun_8 : decode (mB I_T_totalRun) 8 = .ok (.iaload, 1) := by decide +kernel
theorem e_T_totalRun_9 : decode (mB I_T_totalRun) 9 = .ok (.ireturn, 1) := by decide +kernel
theorem e_T_shareAt_0 : decode (mB I_T_shareAt) 0 = .ok (.aload_n 0, 1) := by decide +kernel
theorem e_T_shareAt_1 : decode (mB I_T_shareAt) 1 = .ok (.invokevirtual 65, 3) := by decide +kernel
theorem e_T_shareAt_4 : decode (mB I_T_shareAt) 4 = .ok (.istore_n 3, 1) := by decide +kernel
theorem e_T_shareAt_5 : decode (mB I_T_shareAt) 5 = .ok (.iload_n 3, 1) := by decide +kernel
theorem e_T_shareAt_6 : decode (mB I_T_shareAt) 6 = .ok (.ifCond .ne 7, 3) := by decide +kernel
theorem e_T_shareAt_9 : decode (mB I_T_shareAt) 9 = .ok (.iconst 0, 1) := by decide +kernel
theorem e_T_shareAt_10 : decode (mB I_T_shareAt) 10 = .ok (.goto 17, 3) := by decide +kernel
theorem e_T_shareAt_13 : decode (mB I_T_shareAt) 13 = .ok (.iload_n 2, 1) := by decide +kernel
theorem e_T_shareAt_14 : decode (mB I_T_shareAt) 14 = .ok (.i2l, 1) := by decide +kernel
theorem e_T_shareAt_15 : decode (mB I_T_shareAt) 15 = .ok (.aload_n 0, 1) := by decide +kernel
theorem e_T_shareAt_16 : decode (mB I_T_shareAt) 16 = .ok (.getfield 9, 3) := by decide +kernel
theorem e_T_shareAt_19 : decode (mB I_T_shareAt) 19 = .ok (.iload_n 1, 1) := by decide +kernel
theorem e_T_shareAt_20 : decode (mB I_T_shareAt) 20 = .ok (.iaload, 1) := by decide +kernel
theorem e_T_shareAt_21 : decode (mB I_T_shareAt) 21 = .ok (.i2l, 1) := by decide +kernel
theorem e_T_shareAt_22 : decode (mB I_T_shareAt) 22 = .ok (.lmul, 1) := by decide +kernel
theorem e_T_shareAt_23 : decode (mB I_T_shareAt) 23 = .ok (.iload_n 3, 1) := by decide +kernel
theorem e_T_shareAt_24 : decode (mB I_T_shareAt) 24 = .ok (.i2l, 1) := by decide +kernel
theorem e_T_shareAt_25 : decode (mB I_T_shareAt) 25 = .ok (.ldiv, 1) := by decide +kernel
theorem e_T_shareAt_26 : decode (mB I_T_shareAt) 26 = .ok (.l2i, 1) := by decide +kernel
theorem e_T_shareAt_27 : decode (mB I_T_shareAt) 27 = .ok (.ireturn, 1) := by decide +kernel
theorem e_T_endNorth_0 : decode (mB I_T_endNorth) 0 = .ok (.aload_n 0, 1) := by decide +kernel
theorem e_T_endNorth_1 : decode (mB I_T_endNorth) 1 = .ok (.getfield 18, 3) := by decide +kernel
theorem e_T_endNorth_4 : decode (mB I_T_endNorth) 4 = .ok (.aload_n 0, 1) := by decide +kernel
theorem e_T_endNorth_5 : decode (mB I_T_endNorth) 5 = .ok (.getfield 33, 3) := by decide +kernel
theorem e_T_endNorth_8 : decode (mB I_T_endNorth) 8 = .ok (.iaload, 1) := by decide +kernel
theorem e_T_endNorth_9 : decode (mB I_T_endNorth) 9 = .ok (.ireturn, 1) := by decide +kernel
theorem e_T_follow_0 : decode (mB I_T_follow) 0 = .ok (.aload_n 0, 1) := by decide +kernel
theorem e_T_follow_1 : decode (mB I_T_follow) 1 = .ok (.aload_n 1, 1) := by decide +kernel
theorem e_T_follow_2 : decode (mB I_T_follow) 2 = .ok (.getfield 27, 3) := by decide +kernel
theorem e_T_follow_5 : decode (mB I_T_follow) 5 = .ok (.putfield 33, 3) := by decide +kernel
theorem e_T_follow_8 : decode (mB I_T_follow) 8 = .ok (.iconst 0, 1) := by decide +kernel
theorem e_T_follow_9 : decode (mB I_T_follow) 9 = .ok (.istore_n 2, 1) := by decide +kernel
theorem e_T_follow_10 : decode (mB I_T_follow) 10 = .ok (.iload_n 2, 1) := by decide +kernel
theorem e_T_follow_11 : decode (mB I_T_follow) 11 = .ok (.aload_n 0, 1) := by decide +kernel
theorem e_T_follow_12 : decode (mB I_T_follow) 12 = .ok (.getfield 33, 3) := by decide +kernel
theorem e_T_follow_15 : decode (mB I_T_follow) 15 = .ok (.if_icmp .ge 87, 3) := by decide +kernel
theorem e_T_follow_18 : decode (mB I_T_follow) 18 = .ok (.aload_n 1, 1) := by decide +kernel
theorem e_T_follow_19 : decode (mB I_T_follow) 19 = .ok (.iload_n 2, 1) := by decide +kernel
theorem e_T_follow_20 : decode (mB I_T_follow) 20 = .ok (.invokevirtual 34, 3) := by decide +kernel
theorem e_T_follow_23 : decode (mB I_T_follow) 23 = .ok (.istore_n 3, 1) := by decide +kernel
theorem e_T_follow_24 : decode (mB I_T_follow) 24 = .ok (.aload_n 1, 1) := by decide +kernel
theorem e_T_follow_25 : decode (mB I_T_follow) 25 = .ok (.getfield 38, 3) := by decide +kernel
theorem e_T_follow_28 : decode (mB I_T_follow) 28 = .ok (.iload_n 2, 1) := by decide +kernel
theorem e_T_follow_29 : decode (mB I_T_follow) 29 = .ok (.iaload, 1) := by decide +kernel
theorem e_T_follow_30 : decode (mB I_T_follow) 30 = .ok (.istore 4, 2) := by decide +kernel
theorem e_T_follow_32 : decode (mB I_T_follow) 32 = .ok (.aload_n 0, 1) := by decide +kernel
theorem e_T_follow_33 : decode (mB I_T_follow) 33 = .ok (.getfield 9, 3) := by decide +kernel
theorem e_T_follow_36 : decode (mB I_T_follow) 36 = .ok (.iload_n 2, 1) := by decide +kernel
theorem e_T_follow_37 : decode (mB I_T_follow) 37 = .ok (.iconst 1, 1) := by decide +kernel
theorem e_T_follow_38 : decode (mB I_T_follow) 38 = .ok (.iadd, 1) := by decide +kernel
theorem e_T_follow_39 : decode (mB I_T_follow) 39 = .ok (.aload_n 0, 1) := by decide +kernel
theorem e_T_follow_40 : decode (mB I_T_follow) 40 = .ok (.getfield 9, 3) := by decide +kernel
theorem e_T_follow_43 : decode (mB I_T_follow) 43 = .ok (.iload_n 2, 1) := by decide +kernel
theorem e_T_follow_44 : decode (mB I_T_follow) 44 = .ok (.iaload, 1) := by decide +kernel
theorem e_T_follow_45 : decode (mB I_T_follow) 45 = .ok (.iload_n 3, 1) := by decide +kernel
theorem e_T_follow_46 : decode (mB I_T_follow) 46 = .ok (.iadd, 1) := by decide +kernel
theorem e_T_follow_47 : decode (mB I_T_follow) 47 = .ok (.iastore, 1) := by decide +kernel
theorem e_T_follow_48 : decode (mB I_T_follow) 48 = .ok (.aload_n 0, 1) := by decide +kernel
theorem e_T_follow_49 : decode (mB I_T_follow) 49 = .ok (.getfield 15, 3) := by decide +kernel
theorem e_T_follow_52 : decode (mB I_T_follow) 52 = .ok (.iload_n 2, 1) := by decide +kernel
theorem e_T_follow_53 : decode (mB I_T_follow) 53 = .ok (.iconst 1, 1) := by decide +kernel
theorem e_T_follow_54 : decode (mB I_T_follow) 54 = .ok (.iadd, 1) := by decide +kernel
theorem e_T_follow_55 : decode (mB I_T_follow) 55 = .ok (.aload_n 0, 1) := by decide +kernel
theorem e_T_follow_56 : decode (mB I_T_follow) 56 = .ok (.getfield 15, 3) := by decide +kernel
theorem e_T_follow_59 : decode (mB I_T_follow) 59 = .ok (.iload_n 2, 1) := by decide +kernel
theorem e_T_follow_60 : decode (mB I_T_follow) 60 = .ok (.iaload, 1) := by decide +kernel
theorem e_T_follow_61 : decode (mB I_T_follow) 61 = .ok (.iload_n 3, 1) := by decide +kernel
theorem e_T_follow_62 : decode (mB I_T_follow) 62 = .ok (.iload 4, 2) := by decide +kernel
theorem e_T_follow_64 : decode (mB I_T_follow) 64 = .ok (.invokestatic 41, 3) := by decide +kernel
theorem e_T_follow_67 : decode (mB I_T_follow) 67 = .ok (.invokestatic 44, 3) := by decide +kernel
theorem e_T_follow_70 : decode (mB I_T_follow) 70 = .ok (.iadd, 1) := by decide +kernel
theorem e_T_follow_71 : decode (mB I_T_follow) 71 = .ok (.iastore, 1) := by decide +kernel
theorem e_T_follow_72 : decode (mB I_T_follow) 72 = .ok (.aload_n 0, 1) := by decide +kernel
theorem e_T_follow_73 : decode (mB I_T_follow) 73 = .ok (.getfield 18, 3) := by decide +kernel
theorem e_T_follow_76 : decode (mB I_T_follow) 76 = .ok (.iload_n 2, 1) := by decide +kernel
theorem e_T_follow_77 : decode (mB I_T_follow) 77 = .ok (.iconst 1, 1) := by decide +kernel
theorem e_T_follow_78 : decode (mB I_T_follow) 78 = .ok (.iadd, 1) := by decide +kernel
theorem e_T_follow_79 : decode (mB I_T_follow) 79 = .ok (.aload_n 0, 1) := by decide +kernel
theorem e_T_follow_80 : decode (mB I_T_follow) 80 = .ok (.getfield 18, 3) := by decide +kernel
theorem e_T_follow_83 : decode (mB I_T_follow) 83 = .ok (.iload_n 2, 1) := by decide +kernel
theorem e_T_follow_84 : decode (mB I_T_follow) 84 = .ok (.iaload, 1) := by decide +kernel
theorem e_T_follow_85 : decode (mB I_T_follow) 85 = .ok (.iload_n 3, 1) := by decide +kernel
theorem e_T_follow_86 : decode (mB I_T_follow) 86 = .ok (.iload 4, 2) := by decide +kernel
theorem e_T_follow_88 : decode (mB I_T_follow) 88 = .ok (.invokestatic 48, 3) := by decide +kernel
theorem e_T_follow_91 : decode (mB I_T_follow) 91 = .ok (.invokestatic 44, 3) := by decide +kernel
theorem e_T_follow_94 : decode (mB I_T_follow) 94 = .ok (.iadd, 1) := by decide +kernel
theorem e_T_follow_95 : decode (mB I_T_follow) 95 = .ok (.iastore, 1) := by decide +kernel
theorem e_T_follow_96 : decode (mB I_T_follow) 96 = .ok (.iinc 2 1, 3) := by decide +kernel
theorem e_T_follow_99 : decode (mB I_T_follow) 99 = .ok (.goto (-89), 3) := by decide +kernel
theorem e_T_follow_102 : decode (mB I_T_follow) 102 = .ok (.iconst 0, 1) := by decide +kernel
theorem e_T_follow_103 : decode (mB I_T_follow) 103 = .ok (.istore_n 2, 1) := by decide +kernel
theorem e_T_follow_104 : decode (mB I_T_follow) 104 = .ok (.iload_n 2, 1) := by decide +kernel
theorem e_T_follow_105 : decode (mB I_T_follow) 105 = .ok (.aload_n 0, 1) := by decide +kernel
theorem e_T_follow_106 : decode (mB I_T_follow) 106 = .ok (.getfield 33, 3) := by decide +kernel
theorem e_T_follow_109 : decode (mB I_T_follow) 109 = .ok (.if_icmp .gt 76, 3) := by decide +kernel
theorem e_T_follow_112 : decode (mB I_T_follow) 112 = .ok (.aload_n 0, 1) := by decide +kernel
theorem e_T_follow_113 : decode (mB I_T_follow) 113 = .ok (.getfield 21, 3) := by decide +kernel
theorem e_T_follow_116 : decode (mB I_T_follow) 116 = .ok (.iload_n 2, 1) := by decide +kernel
theorem e_T_follow_117 : decode (mB I_T_follow) 117 = .ok (.aload_n 0, 1) := by decide +kernel
theorem e_T_follow_118 : decode (mB I_T_follow) 118 = .ok (.getfield 15, 3) := by decide +kernel
theorem e_T_follow_121 : decode (mB I_T_follow) 121 = .ok (.iload_n 2, 1) := by decide +kernel
theorem e_T_follow_122 : decode (mB I_T_follow) 122 = .ok (.iaload, 1) := by decide +kernel
theorem e_T_follow_123 : decode (mB I_T_follow) 123 = .ok (.iastore, 1) := by decide +kernel
theorem e_T_follow_124 : decode (mB I_T_follow) 124 = .ok (.aload_n 0, 1) := by decide +kernel
theorem e_T_follow_125 : decode (mB I_T_follow) 125 = .ok (.getfield 24, 3) := by decide +kernel
theorem e_T_follow_128 : decode (mB I_T_follow) 128 = .ok (.iload_n 2, 1) := by decide +kernel
theorem e_T_follow_129 : decode (mB I_T_follow) 129 = .ok (.aload_n 0, 1) := by decide +kernel
theorem e_T_follow_130 : decode (mB I_T_follow) 130 = .ok (.getfield 18, 3) := by decide +kernel
theorem e_T_follow_133 : decode (mB I_T_follow) 133 = .ok (.iload_n 2, 1) := by decide +kernel
theorem e_T_follow_134 : decode (mB I_T_follow) 134 = .ok (.iaload, 1) := by decide +kernel
theorem e_T_follow_135 : decode (mB I_T_follow) 135 = .ok (.iastore, 1) := by decide +kernel
theorem e_T_follow_136 : decode (mB I_T_follow) 136 = .ok (.aload_n 1, 1) := by decide +kernel
theorem e_T_follow_137 : decode (mB I_T_follow) 137 = .ok (.getfield 51, 3) := by decide +kernel
theorem e_T_follow_140 : decode (mB I_T_follow) 140 = .ok (.ifCond .eq 39, 3) := by decide +kernel
theorem e_T_follow_143 : decode (mB I_T_follow) 143 = .ok (.aload_n 0, 1) := by decide +kernel
theorem e_T_follow_144 : decode (mB I_T_follow) 144 = .ok (.getfield 21, 3) := by decide +kernel
theorem e_T_follow_147 : decode (mB I_T_follow) 147 = .ok (.iload_n 2, 1) := by decide +kernel
theorem e_T_follow_148 : decode (mB I_T_follow) 148 = .ok (.dup2, 1) := by decide +kernel
theorem e_T_follow_149 : decode (mB I_T_follow) 149 = .ok (.iaload, 1) := by decide +kernel
theorem e_T_follow_150 : decode (mB I_T_follow) 150 = .ok (.aload_n 0, 1) := by decide +kernel
theorem e_T_follow_151 : decode (mB I_T_follow) 151 = .ok (.iload_n 2, 1) := by decide +kernel
theorem e_T_follow_152 : decode (mB I_T_follow) 152 = .ok (.aload_n 0, 1) := by decide +kernel
theorem e_T_follow_153 : decode (mB I_T_follow) 153 = .ok (.invokevirtual 55, 3) := by decide +kernel
theorem e_T_follow_156 : decode (mB I_T_follow) 156 = .ok (.invokevirtual 59, 3) := by decide +kernel
theorem e_T_follow_159 : decode (mB I_T_follow) 159 = .ok (.isub, 1) := by decide +kernel
theorem e_T_follow_160 : decode (mB I_T_follow) 160 = .ok (.iastore, 1) := by decide +kernel
theorem e_T_follow_161 : decode (mB I_T_follow) 161 = .ok (.aload_n 0, 1) := by decide +kernel
theorem e_T_follow_162 : decode (mB I_T_follow) 162 = .ok (.getfield 24, 3) := by decide +kernel
theorem e_T_follow_165 : decode (mB I_T_follow) 165 = .ok (.iload_n 2, 1) := by decide +kernel
theorem e_T_follow_166 : decode (mB I_T_follow) 166 = .ok (.dup2, 1) := by decide +kernel
theorem e_T_follow_167 : decode (mB I_T_follow) 167 = .ok (.iaload, 1) := by decide +kernel
theorem e_T_follow_168 : decode (mB I_T_follow) 168 = .ok (.aload_n 0, 1) := by decide +kernel
theorem e_T_follow_169 : decode (mB I_T_follow) 169 = .ok (.iload_n 2, 1) := by decide +kernel
theorem e_T_follow_170 : decode (mB I_T_follow) 170 = .ok (.aload_n 0, 1) := by decide +kernel
theorem e_T_follow_171 : decode (mB I_T_follow) 171 = .ok (.invokevirtual 62, 3) := by decide +kernel
theorem e_T_follow_174 : decode (mB I_T_follow) 174 = .ok (.invokevirtual 59, 3) := by decide +kernel
theorem e_T_follow_177 : decode (mB I_T_follow) 177 = .ok (.isub, 1) := by decide +kernel
theorem e_T_follow_178 : decode (mB I_T_follow) 178 = .ok (.iastore, 1) := by decide +kernel
theorem e_T_follow_179 : decode (mB I_T_follow) 179 = .ok (.iinc 2 1, 3) := by decide +kernel
theorem e_T_follow_182 : decode (mB I_T_follow) 182 = .ok (.goto (-78), 3) := by decide +kernel
theorem e_T_follow_185 : decode (mB I_T_follow) 185 = .ok (.return_, 1) := by decide +kernel
theorem e_T_closingDistance_0 : decode (mB I_T_closingDistance) 0 = .ok (.aload_n 0, 1) := by decide +kernel
theorem e_T_closingDistance_1 : decode (mB I_T_closingDistance) 1 = .ok (.invokevirtual 55, 3) := by decide +kernel
theorem e_T_closingDistance_4 : decode (mB I_T_closingDistance) 4 = .ok (.aload_n 0, 1) := by decide +kernel
theorem e_T_closingDistance_5 : decode (mB I_T_closingDistance) 5 = .ok (.invokevirtual 62, 3) := by decide +kernel
theorem e_T_closingDistance_8 : decode (mB I_T_closingDistance) 8 = .ok (.invokestatic 68, 3) := by decide +kernel
theorem e_T_closingDistance_11 : decode (mB I_T_closingDistance) 11 = .ok (.ireturn, 1) := by decide +kernel
theorem e_T_distanceOf_0 : decode (mB I_T_distanceOf) 0 = .ok (.aload_n 0, 1) := by decide +kernel
theorem e_T_distanceOf_1 : decode (mB I_T_distanceOf) 1 = .ok (.getfield 21, 3) := by decide +kernel
theorem e_T_distanceOf_4 : decode (mB I_T_distanceOf) 4 = .ok (.iload_n 1, 1) := by decide +kernel
theorem e_T_distanceOf_5 : decode (mB I_T_distanceOf) 5 = .ok (.iaload, 1) := by decide +kernel
theorem e_T_distanceOf_6 : decode (mB I_T_distanceOf) 6 = .ok (.aload_n 0, 1) := by decide +kernel
theorem e_T_distanceOf_7 : decode (mB I_T_distanceOf) 7 = .ok (.getfield 24, 3) := by decide +kernel
theorem e_T_distanceOf_10 : decode (mB I_T_distanceOf) 10 = .ok (.iload_n 1, 1) := by decide +kernel
theorem e_T_distanceOf_11 : decode (mB I_T_distanceOf) 11 = .ok (.iaload, 1) := by decide +kernel
theorem e_T_distanceOf_12 : decode (mB I_T_distanceOf) 12 = .ok (.invokestatic 68, 3) := by decide +kernel
theorem e_T_distanceOf_15 : decode (mB I_T_distanceOf) 15 = .ok (.ireturn, 1) := by decide +kernel
theorem e_T_enclosedArea_0 : decode (mB I_T_enclosedArea) 0 = .ok (.lconst 0, 1) := by decide +kernel
theorem e_T_enclosedArea_1 : decode (mB I_T_enclosedArea) 1 = .ok (.lstore_n 1, 1) := by decide +kernel
theorem e_T_enclosedArea_2 : decode (mB I_T_enclosedArea) 2 = .ok (.iconst 0, 1) := by decide +kernel
theorem e_T_enclosedArea_3 : decode (mB I_T_enclosedArea) 3 = .ok (.istore_n 3, 1) := by decide +kernel
theorem e_T_enclosedArea_4 : decode (mB I_T_enclosedArea) 4 = .ok (.iload_n 3, 1) := by decide +kernel
theorem e_T_enclosedArea_5 : decode (mB I_T_enclosedArea) 5 = .ok (.aload_n 0, 1) := by decide +kernel
theorem e_T_enclosedArea_6 : decode (mB I_T_enclosedArea) 6 = .ok (.getfield 33, 3) := by decide +kernel
theorem e_T_enclosedArea_9 : decode (mB I_T_enclosedArea) 9 = .ok (.if_icmp .ge 47, 3) := by decide +kernel
theorem e_T_enclosedArea_12 : decode (mB I_T_enclosedArea) 12 = .ok (.lload_n 1, 1) := by decide +kernel
theorem e_T_enclosedArea_13 : decode (mB I_T_enclosedArea) 13 = .ok (.aload_n 0, 1) := by decide +kernel
theorem e_T_enclosedArea_14 : decode (mB I_T_enclosedArea) 14 = .ok (.getfield 21, 3) := by decide +kernel
theorem e_T_enclosedArea_17 : decode (mB I_T_enclosedArea) 17 = .ok (.iload_n 3, 1) := by decide +kernel
theorem e_T_enclosedArea_18 : decode (mB I_T_enclosedArea) 18 = .ok (.iaload, 1) := by decide +kernel
theorem e_T_enclosedArea_19 : decode (mB I_T_enclosedArea) 19 = .ok (.i2l, 1) := by decide +kernel
theorem e_T_enclosedArea_20 : decode (mB I_T_enclosedArea) 20 = .ok (.aload_n 0, 1) := by decide +kernel
theorem e_T_enclosedArea_21 : decode (mB I_T_enclosedArea) 21 = .ok (.getfield 24, 3) := by decide +kernel
theorem e_T_enclosedArea_24 : decode (mB I_T_enclosedArea) 24 = .ok (.iload_n 3, 1) := by decide +kernel
theorem e_T_enclosedArea_25 : decode (mB I_T_enclosedArea) 25 = .ok (.iconst 1, 1) := by decide +kernel
theorem e_T_enclosedArea_26 : decode (mB I_T_enclosedArea) 26 = .ok (.iadd, 1) := by decide +kernel
theorem e_T_enclosedArea_27 : decode (mB I_T_enclosedArea) 27 = .ok (.iaload, 1) := by decide +kernel
theorem e_T_enclosedArea_28 : decode (mB I_T_enclosedArea) 28 = .ok (.i2l, 1) := by decide +kernel
theorem e_T_enclosedArea_29 : decode (mB I_T_enclosedArea) 29 = .ok (.lmul, 1) := by decide +kernel
theorem e_T_enclosedArea_30 : decode (mB I_T_enclosedArea) 30 = .ok (.aload_n 0, 1) := by decide +kernel
theorem e_T_enclosedArea_31 : decode (mB I_T_enclosedArea) 31 = .ok (.getfield 21, 3) := by decide +kernel
theorem e_T_enclosedArea_34 : decode (mB I_T_enclosedArea) 34 = .ok (.iload_n 3, 1) := by decide +kernel
theorem e_T_enclosedArea_35 : decode (mB I_T_enclosedArea) 35 = .ok (.iconst 1, 1) := by decide +kernel
theorem e_T_enclosedArea_36 : decode (mB I_T_enclosedArea) 36 = .ok (.iadd, 1) := by decide +kernel
theorem e_T_enclosedArea_37 : decode (mB I_T_enclosedArea) 37 = .ok (.iaload, 1) := by decide +kernel
theorem e_T_enclosedArea_38 : decode (mB I_T_enclosedArea) 38 = .ok (.i2l, 1) := by decide +kernel
theorem e_T_enclosedArea_39 : decode (mB I_T_enclosedArea) 39 = .ok (.aload_n 0, 1) := by decide +kernel
theorem e_T_enclosedArea_40 : decode (mB I_T_enclosedArea) 40 = .ok (.getfield 24, 3) := by decide +kernel
theorem e_T_enclosedArea_43 : decode (mB I_T_enclosedArea) 43 = .ok (.iload_n 3, 1) := by decide +kernel
theorem e_T_enclosedArea_44 : decode (mB I_T_enclosedArea) 44 = .ok (.iaload, 1) := by decide +kernel
theorem e_T_enclosedArea_45 : decode (mB I_T_enclosedArea) 45 = .ok (.i2l, 1) := by decide +kernel
theorem e_T_enclosedArea_46 : decode (mB I_T_enclosedArea) 46 = .ok (.lmul, 1) := by decide +kernel
theorem e_T_enclosedArea_47 : decode (mB I_T_enclosedArea) 47 = .ok (.lsub, 1) := by decide +kernel
theorem e_T_enclosedArea_48 : decode (mB I_T_enclosedArea) 48 = .ok (.ladd, 1) := by decide +kernel
theorem e_T_enclosedArea_49 : decode (mB I_T_enclosedArea) 49 = .ok (.lstore_n 1, 1) := by decide +kernel
theorem e_T_enclosedArea_50 : decode (mB I_T_enclosedArea) 50 = .ok (.iinc 3 1, 3) := by decide +kernel
theorem e_T_enclosedArea_53 : decode (mB I_T_enclosedArea) 53 = .ok (.goto (-49), 3) := by decide +kernel
theorem e_T_enclosedArea_56 : decode (mB I_T_enclosedArea) 56 = .ok (.lload_n 1, 1) := by decide +kernel
theorem e_T_enclosedArea_57 : decode (mB I_T_enclosedArea) 57 = .ok (.invokestatic 71, 3) := by decide +kernel
theorem e_T_enclosedArea_60 : decode (mB I_T_enclosedArea) 60 = .ok (.ldc2_w 77, 3) := by decide +kernel
theorem e_T_enclosedArea_63 : decode (mB I_T_enclosedArea) 63 = .ok (.ldiv, 1) := by decide +kernel
theorem e_T_enclosedArea_64 : decode (mB I_T_enclosedArea) 64 = .ok (.lreturn, 1) := by decide +kernel
