/-! decoded instructions -/
theorem e_M_lays_0 : decode (mB I_M_lays) 0 = .ok (.aload_n 0, 1) := by decide +kernel
theorem e_M_lays_1 : decode (mB I_M_lays) 1 = .ok (.aload_n 1, 1) := by decide +kernel
theorem e_M_lays_2 : decode (mB I_M_lays) 2 = .ok (.invokevirtual 60, 3) := by decide +kernel
theorem e_M_lays_5 : decode (mB I_M_lays) 5 = .ok (.putfield 66, 3) := by decide +kernel
theorem e_M_lays_8 : decode (mB I_M_lays) 8 = .ok (.iconst 0, 1) := by decide +kernel
theorem e_M_lays_9 : decode (mB I_M_lays) 9 = .ok (.istore_n 2, 1) := by decide +kernel
theorem e_M_lays_10 : decode (mB I_M_lays) 10 = .ok (.iload_n 2, 1) := by decide +kernel
theorem e_M_lays_11 : decode (mB I_M_lays) 11 = .ok (.aload_n 0, 1) := by decide +kernel
theorem e_M_lays_12 : decode (mB I_M_lays) 12 = .ok (.getfield 66, 3) := by decide +kernel
theorem e_M_lays_15 : decode (mB I_M_lays) 15 = .ok (.if_icmp .ge 20, 3) := by decide +kernel
theorem e_M_lays_18 : decode (mB I_M_lays) 18 = .ok (.aload_n 0, 1) := by decide +kernel
theorem e_M_lays_19 : decode (mB I_M_lays) 19 = .ok (.getfield 29, 3) := by decide +kernel
theorem e_M_lays_22 : decode (mB I_M_lays) 22 = .ok (.iload_n 2, 1) := by decide +kernel
theorem e_M_lays_23 : decode (mB I_M_lays) 23 = .ok (.aload_n 1, 1) := by decide +kernel
theorem e_M_lays_24 : decode (mB I_M_lays) 24 = .ok (.iload_n 2, 1) := by decide +kernel
theorem e_M_lays_25 : decode (mB I_M_lays) 25 = .ok (.invokevirtual 69, 3) := by decide +kernel
theorem e_M_lays_28 : decode (mB I_M_lays) 28 = .ok (.iastore, 1) := by decide +kernel
theorem e_M_lays_29 : decode (mB I_M_lays) 29 = .ok (.iinc 2 1, 3) := by decide +kernel
theorem e_M_lays_32 : decode (mB I_M_lays) 32 = .ok (.goto (-22), 3) := by decide +kernel
theorem e_M_lays_35 : decode (mB I_M_lays) 35 = .ok (.aload_n 0, 1) := by decide +kernel
theorem e_M_lays_36 : decode (mB I_M_lays) 36 = .ok (.invokevirtual 73, 3) := by decide +kernel
theorem e_M_lays_39 : decode (mB I_M_lays) 39 = .ok (.istore_n 2, 1) := by decide +kernel
theorem e_M_lays_40 : decode (mB I_M_lays) 40 = .ok (.aload_n 0, 1) := by decide +kernel
theorem e_M_lays_41 : decode (mB I_M_lays) 41 = .ok (.iconst 0, 1) := by decide +kernel
theorem e_M_lays_42 : decode (mB I_M_lays) 42 = .ok (.putfield 76, 3) := by decide +kernel
theorem e_M_lays_45 : decode (mB I_M_lays) 45 = .ok (.return_, 1) := by decide +kernel
theorem e_S_init_0 : decode (mB I_S_init) 0 = .ok (.aload_n 0, 1) := by decide +kernel
theorem e_S_init_1 : decode (mB I_S_init) 1 = .ok (.invokespecial 3, 3) := by decide +kernel
theorem e_S_init_4 : decode (mB I_S_init) 4 = .ok (.aload_n 0, 1) := by decide +kernel
theorem e_S_init_5 : decode (mB I_S_init) 5 = .ok (.bipush 20, 2) := by decide +kernel
theorem e_S_init_7 : decode (mB I_S_init) 7 = .ok (.newarray .int, 2) := by decide +kernel
theorem e_S_init_9 : decode (mB I_S_init) 9 = .ok (.putfield 9, 3) := by decide +kernel
theorem e_S_init_12 : decode (mB I_S_init) 12 = .ok (.aload_n 0, 1) := by decide +kernel
theorem e_S_init_13 : decode (mB I_S_init) 13 = .ok (.bipush 20, 2) := by decide +kernel
theorem e_S_init_15 : decode (mB I_S_init) 15 = .ok (.newarray .int, 2) := by decide +kernel
theorem e_S_init_17 : decode (mB I_S_init) 17 = .ok (.putfield 15, 3) := by decide +kernel
theorem e_S_init_20 : decode (mB I_S_init) 20 = .ok (.aload_n 0, 1) := by decide +kernel
theorem e_S_init_21 : decode (mB I_S_init) 21 = .ok (.bipush 20, 2) := by decide +kernel
theorem e_S_init_23 : decode (mB I_S_init) 23 = .ok (.newarray .boolean, 2) := by decide +kernel
theorem e_S_init_25 : decode (mB I_S_init) 25 = .ok (.putfield 18, 3) := by decide +kernel
theorem e_S_init_28 : decode (mB I_S_init) 28 = .ok (.aload_n 0, 1) := by decide +kernel
theorem e_S_init_29 : decode (mB I_S_init) 29 = .ok (.bipush 20, 2) := by decide +kernel
theorem e_S_init_31 : decode (mB I_S_init) 31 = .ok (.newarray .int, 2) := by decide +kernel
theorem e_S_init_33 : decode (mB I_S_init) 33 = .ok (.putfield 22, 3) := by decide +kernel
theorem e_S_init_36 : decode (mB I_S_init) 36 = .ok (.aload_n 0, 1) := by decide +kernel
theorem e_S_init_37 : decode (mB I_S_init) 37 = .ok (.bipush 20, 2) := by decide +kernel
theorem e_S_init_39 : decode (mB I_S_init) 39 = .ok (.newarray .int, 2) := by decide +kernel
theorem e_S_init_41 : decode (mB I_S_init) 41 = .ok (.putfield 25, 3) := by decide +kernel
theorem e_S_init_44 : decode (mB I_S_init) 44 = .ok (.aload_n 0, 1) := by decide +kernel
theorem e_S_init_45 : decode (mB I_S_init) 45 = .ok (.bipush 20, 2) := by decide +kernel
theorem e_S_init_47 : decode (mB I_S_init) 47 = .ok (.newarray .int, 2) := by decide +kernel
theorem e_S_init_49 : decode (mB I_S_init) 49 = .ok (.putfield 28, 3) := by decide +kernel
theorem e_S_init_52 : decode (mB I_S_init) 52 = .ok (.aload_n 0, 1) := by decide +kernel
theorem e_S_init_53 : decode (mB I_S_init) 53 = .ok (.bipush 20, 2) := by decide +kernel
theorem e_S_init_55 : decode (mB I_S_init) 55 = .ok (.newarray .int, 2) := by decide +kernel
theorem e_S_init_57 : decode (mB I_S_init) 57 = .ok (.putfield 31, 3) := by decide +kernel
theorem e_S_init_60 : decode (mB I_S_init) 60 = .ok (.aload_n 0, 1) := by decide +kernel
theorem e_S_init_61 : decode (mB I_S_init) 61 = .ok (.bipush 20, 2) := by decide +kernel
theorem e_S_init_63 : decode (mB I_S_init) 63 = .ok (.newarray .int, 2) := by decide +kernel
theorem e_S_init_65 : decode (mB I_S_init) 65 = .ok (.putfield 34, 3) := by decide +kernel
theorem e_S_init_68 : decode (mB I_S_init) 68 = .ok (.aload_n 0, 1) := by decide +kernel
theorem e_S_init_69 : decode (mB I_S_init) 69 = .ok (.bipush 20, 2) := by decide +kernel
theorem e_S_init_71 : decode (mB I_S_init) 71 = .ok (.newarray .int, 2) := by decide +kernel
theorem e_S_init_73 : decode (mB I_S_init) 73 = .ok (.putfield 37, 3) := by decide +kernel
theorem e_S_init_76 : decode (mB I_S_init) 76 = .ok (.aload_n 0, 1) := by decide +kernel
theorem e_S_init_77 : decode (mB I_S_init) 77 = .ok (.bipush 100, 2) := by decide +kernel
theorem e_S_init_79 : decode (mB I_S_init) 79 = .ok (.putfield 40, 3) := by decide +kernel
theorem e_S_init_82 : decode (mB I_S_init) 82 = .ok (.return_, 1) := by decide +kernel
theorem e_L_init_0 : decode (mB I_L_init) 0 = .ok (.aload_n 0, 1) := by decide +kernel
theorem e_L_init_1 : decode (mB I_L_init) 1 = .ok (.invokespecial 3, 3) := by decide +kernel
theorem e_L_init_4 : decode (mB I_L_init) 4 = .ok (.aload_n 0, 1) := by decide +kernel
theorem e_L_init_5 : decode (mB I_L_init) 5 = .ok (.sipush 900, 3) := by decide +kernel
theorem e_L_init_8 : decode (mB I_L_init) 8 = .ok (.newarray .byte, 2) := by decide +kernel
theorem e_L_init_10 : decode (mB I_L_init) 10 = .ok (.putfield 9, 3) := by decide +kernel
theorem e_L_init_13 : decode (mB I_L_init) 13 = .ok (.return_, 1) := by decide +kernel
theorem e_T_init_0 : decode (mB I_T_init) 0 = .ok (.aload_n 0, 1) := by decide +kernel
theorem e_T_init_1 : decode (mB I_T_init) 1 = .ok (.invokespecial 3, 3) := by decide +kernel
theorem e_T_init_4 : decode (mB I_T_init) 4 = .ok (.aload_n 0, 1) := by decide +kernel
theorem e_T_init_5 : decode (mB I_T_init) 5 = .ok (.bipush 21, 2) := by decide +kernel
theorem e_T_init_7 : decode (mB I_T_init) 7 = .ok (.newarray .int, 2) := by decide +kernel
theorem e_T_init_9 : decode (mB I_T_init) 9 = .ok (.putfield 9, 3) := by decide +kernel
theorem e_T_init_12 : decode (mB I_T_init) 12 = .ok (.aload_n 0, 1) := by decide +kernel
theorem e_T_init_13 : decode (mB I_T_init) 13 = .ok (.bipush 21, 2) := by decide +kernel
theorem e_T_init_15 : decode (mB I_T_init) 15 = .ok (.newarray .int, 2) := by decide +kernel
theorem e_T_init_17 : decode (mB I_T_init) 17 = .ok (.putfield 15, 3) := by decide +kernel
theorem e_T_init_20 : decode (mB I_T_init) 20 = .ok (.aload_n 0, 1) := by decide +kernel
theorem e_T_init_21 : decode (mB I_T_init) 21 = .ok (.bipush 21, 2) := by decide +kernel
theorem e_T_init_23 : decode (mB I_T_init) 23 = .ok (.newarray .int, 2) := by decide +kernel
theorem e_T_init_25 : decode (mB I_T_init) 25 = .ok (.putfield 18, 3) := by decide +kernel
theorem e_T_init_28 : decode (mB I_T_init) 28 = .ok (.aload_n 0, 1) := by decide +kernel
theorem e_T_init_29 : decode (mB I_T_init) 29 = .ok (.bipush 21, 2) := by decide +kernel
theorem e_T_init_31 : decode (mB I_T_init) 31 = .ok (.newarray .int, 2) := by decide +kernel
theorem e_T_init_33 : decode (mB I_T_init) 33 = .ok (.putfield 21, 3) := by decide +kernel
theorem e_T_init_36 : decode (mB I_T_init) 36 = .ok (.aload_n 0, 1) := by decide +kernel
theorem e_T_init_37 : decode (mB I_T_init) 37 = .ok (.bipush 21, 2) := by decide +kernel
theorem e_T_init_39 : decode (mB I_T_init) 39 = .ok (.newarray .int, 2) := by decide +kernel
theorem e_T_init_41 : decode (mB I_T_init) 41 = .ok (.putfield 24, 3) := by decide +kernel
theorem e_T_init_44 : decode (mB I_T_init) 44 = .ok (.return_, 1) := by decide +kernel
theorem e_I_init_0 : decode (mB I_I_init) 0 = .ok (.aload_n 0, 1) := by decide +kernel
theorem e_I_init_1 : decode (mB I_I_init) 1 = .ok (.invokespecial 3, 3) := by decide +kernel
theorem e_I_init_4 : decode (mB I_I_init) 4 = .ok (.aload_n 0, 1) := by decide +kernel
theorem e_I_init_5 : decode (mB I_I_init) 5 = .ok (.new 9, 3) := by decide +kernel
theorem e_I_init_8 : decode (mB I_I_init) 8 = .ok (.dup, 1) := by decide +kernel
theorem e_I_init_9 : decode (mB I_I_init) 9 = .ok (.invokespecial 11, 3) := by decide +kernel
theorem e_I_init_12 : decode (mB I_I_init) 12 = .ok (.putfield 12, 3) := by decide +kernel
theorem e_I_init_15 : decode (mB I_I_init) 15 = .ok (.aload_n 0, 1) := by decide +kernel
theorem e_I_init_16 : decode (mB I_I_init) 16 = .ok (.new 18, 3) := by decide +kernel
theorem e_I_init_19 : decode (mB I_I_init) 19 = .ok (.dup, 1) := by decide +kernel
theorem e_I_init_20 : decode (mB I_I_init) 20 = .ok (.invokespecial 20, 3) := by decide +kernel
theorem e_I_init_23 : decode (mB I_I_init) 23 = .ok (.putfield 21, 3) := by decide +kernel
theorem e_I_init_26 : decode (mB I_I_init) 26 = .ok (.aload_n 0, 1) := by decide +kernel
theorem e_I_init_27 : decode (mB I_I_init) 27 = .ok (.iconst (-1), 1) := by decide +kernel
theorem e_I_init_28 : decode (mB I_I_init) 28 = .ok (.putfield 25, 3) := by decide +kernel
theorem e_I_init_31 : decode (mB I_I_init) 31 = .ok (.return_, 1) := by decide +kernel
theorem e_C_init_0 : decode (mB I_C_init) 0 = .ok (.aload_n 0, 1) := by decide +kernel
theorem e_C_init_1 : decode (mB I_C_init) 1 = .ok (.invokespecial 1, 3) := by decide +kernel
theorem e_C_init_4 : decode (mB I_C_init) 4 = .ok (.aload_n 0, 1) := by decide +kernel
theorem e_C_init_5 : decode (mB I_C_init) 5 = .ok (.new 7, 3) := by decide +kernel
theorem e_C_init_8 : decode (mB I_C_init) 8 = .ok (.dup, 1) := by decide +kernel
theorem e_C_init_9 : decode (mB I_C_init) 9 = .ok (.invokespecial 9, 3) := by decide +kernel
theorem e_C_init_12 : decode (mB I_C_init) 12 = .ok (.putfield 10, 3) := by decide +kernel
theorem e_C_init_15 : decode (mB I_C_init) 15 = .ok (.aload_n 0, 1) := by decide +kernel
theorem e_C_init_16 : decode (mB I_C_init) 16 = .ok (.aload_n 0, 1) := by decide +kernel
theorem e_C_init_17 : decode (mB I_C_init) 17 = .ok (.getfield 10, 3) := by decide +kernel
theorem e_C_init_20 : decode (mB I_C_init) 20 = .ok (.getfield 16, 3) := by decide +kernel
theorem e_C_init_23 : decode (mB I_C_init) 23 = .ok (.getfield 20, 3) := by decide +kernel
theorem e_C_init_26 : decode (mB I_C_init) 26 = .ok (.putfield 26, 3) := by decide +kernel
theorem e_C_init_29 : decode (mB I_C_init) 29 = .ok (.aload_n 0, 1) := by decide +kernel
theorem e_C_init_30 : decode (mB I_C_init) 30 = .ok (.iconst (-1), 1) := by decide +kernel
theorem e_C_init_31 : decode (mB I_C_init) 31 = .ok (.putfield 29, 3) := by decide +kernel
theorem e_C_init_34 : decode (mB I_C_init) 34 = .ok (.aload_n 0, 1) := by decide +kernel
theorem e_C_init_35 : decode (mB I_C_init) 35 = .ok (.sipush 512, 3) := by decide +kernel
theorem e_C_init_38 : decode (mB I_C_init) 38 = .ok (.newarray .byte, 2) := by decide +kernel
theorem e_C_init_40 : decode (mB I_C_init) 40 = .ok (.putfield 33, 3) := by decide +kernel
theorem e_C_init_43 : decode (mB I_C_init) 43 = .ok (.aload_n 0, 1) := by decide +kernel
theorem e_C_init_44 : decode (mB I_C_init) 44 = .ok (.new 36, 3) := by decide +kernel
theorem e_C_init_47 : decode (mB I_C_init) 47 = .ok (.dup, 1) := by decide +kernel
theorem e_C_init_48 : decode (mB I_C_init) 48 = .ok (.invokespecial 38, 3) := by decide +kernel
theorem e_C_init_51 : decode (mB I_C_init) 51 = .ok (.putfield 39, 3) := by decide +kernel
theorem e_C_init_54 : decode (mB I_C_init) 54 = .ok (.aload_n 0, 1) := by decide +kernel
theorem e_C_init_55 : decode (mB I_C_init) 55 = .ok (.aload_n 0, 1) := by decide +kernel
theorem e_C_init_56 : decode (mB I_C_init) 56 = .ok (.getfield 10, 3) := by decide +kernel
theorem e_C_init_59 : decode (mB I_C_init) 59 = .ok (.getfield 43, 3) := by decide +kernel
theorem e_C_init_62 : decode (mB I_C_init) 62 = .ok (.putfield 46, 3) := by decide +kernel
theorem e_C_init_65 : decode (mB I_C_init) 65 = .ok (.aload_n 0, 1) := by decide +kernel
theorem e_C_init_66 : decode (mB I_C_init) 66 = .ok (.new 49, 3) := by decide +kernel
theorem e_C_init_69 : decode (mB I_C_init) 69 = .ok (.dup, 1) := by decide +kernel
theorem e_C_init_70 : decode (mB I_C_init) 70 = .ok (.invokespecial 51, 3) := by decide +kernel
theorem e_C_init_73 : decode (mB I_C_init) 73 = .ok (.putfield 52, 3) := by decide +kernel
theorem e_C_init_76 : decode (mB I_C_init) 76 = .ok (.aload_n 0, 1) := by decide +kernel
theorem e_C_init_77 : decode (mB I_C_init) 77 = .ok (.bipush 8, 2) := by decide +kernel
theorem e_C_init_79 : decode (mB I_C_init) 79 = .ok (.anewarray 36, 3) := by decide +kernel
theorem e_C_init_82 : decode (mB I_C_init) 82 = .ok (.putfield 56, 3) := by decide +kernel
theorem e_C_init_85 : decode (mB I_C_init) 85 = .ok (.aload_n 0, 1) := by decide +kernel
theorem e_C_init_86 : decode (mB I_C_init) 86 = .ok (.iconst 2, 1) := by decide +kernel
theorem e_C_init_87 : decode (mB I_C_init) 87 = .ok (.anewarray 36, 3) := by decide +kernel
theorem e_C_init_90 : decode (mB I_C_init) 90 = .ok (.putfield 60, 3) := by decide +kernel
theorem e_C_init_93 : decode (mB I_C_init) 93 = .ok (.aload_n 0, 1) := by decide +kernel
theorem e_C_init_94 : decode (mB I_C_init) 94 = .ok (.iconst 2, 1) := by decide +kernel
theorem e_C_init_95 : decode (mB I_C_init) 95 = .ok (.newarray .boolean, 2) := by decide +kernel
theorem e_C_init_97 : decode (mB I_C_init) 97 = .ok (.putfield 63, 3) := by decide +kernel
theorem e_C_init_100 : decode (mB I_C_init) 100 = .ok (.iconst 0, 1) := by decide +kernel
theorem e_C_init_101 : decode (mB I_C_init) 101 = .ok (.istore_n 1, 1) := by decide +kernel
theorem e_C_init_102 : decode (mB I_C_init) 102 = .ok (.iload_n 1, 1) := by decide +kernel
theorem e_C_init_103 : decode (mB I_C_init) 103 = .ok (.bipush 8, 2) := by decide +kernel
theorem e_C_init_105 : decode (mB I_C_init) 105 = .ok (.if_icmp .ge 22, 3) := by decide +kernel
theorem e_C_init_108 : decode (mB I_C_init) 108 = .ok (.aload_n 0, 1) := by decide +kernel
theorem e_C_init_109 : decode (mB I_C_init) 109 = .ok (.getfield 56, 3) := by decide +kernel
theorem e_C_init_112 : decode (mB I_C_init) 112 = .ok (.iload_n 1, 1) := by decide +kernel
theorem e_C_init_113 : decode (mB I_C_init) 113 = .ok (.new 36, 3) := by decide +kernel
theorem e_C_init_116 : decode (mB I_C_init) 116 = .ok (.dup, 1) := by decide +kernel
theorem e_C_init_117 : decode (mB I_C_init) 117 = .ok (.invokespecial 38, 3) := by decide +kernel
theorem e_C_init_120 : decode (mB I_C_init) 120 = .ok (.aastore, 1) := by decide +kernel
theorem e_C_init_121 : decode (mB I_C_init) 121 = .ok (.iinc 1 1, 3) := by decide +kernel
theorem e_C_init_124 : decode (mB I_C_init) 124 = .ok (.goto (-22), 3) := by decide +kernel
theorem e_C_init_127 : decode (mB I_C_init) 127 = .ok (.iconst 0, 1) := by decide +kernel
theorem e_C_init_128 : decode (mB I_C_init) 128 = .ok (.istore_n 1, 1) := by decide +kernel
theorem e_C_init_129 : decode (mB I_C_init) 129 = .ok (.iload_n 1, 1) := by decide +kernel
theorem e_C_init_130 : decode (mB I_C_init) 130 = .ok (.iconst 2, 1) := by decide +kernel
theorem e_C_init_131 : decode (mB I_C_init) 131 = .ok (.if_icmp .ge 22, 3) := by decide +kernel
theorem e_C_init_134 : decode (mB I_C_init) 134 = .ok (.aload_n 0, 1) := by decide +kernel
theorem e_C_init_135 : decode (mB I_C_init) 135 = .ok (.getfield 60, 3) := by decide +kernel
theorem e_C_init_138 : decode (mB I_C_init) 138 = .ok (.iload_n 1, 1) := by decide +kernel
theorem e_C_init_139 : decode (mB I_C_init) 139 = .ok (.new 36, 3) := by decide +kernel
theorem e_C_init_142 : decode (mB I_C_init) 142 = .ok (.dup, 1) := by decide +kernel
theorem e_C_init_143 : decode (mB I_C_init) 143 = .ok (.invokespecial 38, 3) := by decide +kernel
theorem e_C_init_146 : decode (mB I_C_init) 146 = .ok (.aastore, 1) := by decide +kernel
theorem e_C_init_147 : decode (mB I_C_init) 147 = .ok (.iinc 1 1, 3) := by decide +kernel
theorem e_C_init_150 : decode (mB I_C_init) 150 = .ok (.goto (-21), 3) := by decide +kernel
theorem e_C_init_153 : decode (mB I_C_init) 153 = .ok (.iconst 0, 1) := by decide +kernel
theorem e_C_init_154 : decode (mB I_C_init) 154 = .ok (.istore_n 1, 1) := by decide +kernel
theorem e_C_init_155 : decode (mB I_C_init) 155 = .ok (.iload_n 1, 1) := by decide +kernel
theorem e_C_init_156 : decode (mB I_C_init) 156 = .ok (.ldc 67, 2) := by decide +kernel
theorem e_C_init_158 : decode (mB I_C_init) 158 = .ok (.invokevirtual 69, 3) := by decide +kernel
theorem e_C_init_161 : decode (mB I_C_init) 161 = .ok (.if_icmp .ge 29, 3) := by decide +kernel
theorem e_C_init_164 : decode (mB I_C_init) 164 = .ok (.iload_n 1, 1) := by decide +kernel
theorem e_C_init_165 : decode (mB I_C_init) 165 = .ok (.sipush 900, 3) := by decide +kernel
theorem e_C_init_168 : decode (mB I_C_init) 168 = .ok (.if_icmp .ge 22, 3) := by decide +kernel
theorem e_C_init_171 : decode (mB I_C_init) 171 = .ok (.aload_n 0, 1) := by decide +kernel
theorem e_C_init_172 : decode (mB I_C_init) 172 = .ok (.getfield 26, 3) := by decide +kernel
theorem e_C_init_175 : decode (mB I_C_init) 175 = .ok (.iload_n 1, 1) := by decide +kernel
theorem e_C_init_176 : decode (mB I_C_init) 176 = .ok (.ldc 67, 2) := by decide +kernel
theorem e_C_init_178 : decode (mB I_C_init) 178 = .ok (.iload_n 1, 1) := by decide +kernel
theorem e_C_init_179 : decode (mB I_C_init) 179 = .ok (.invokevirtual 75, 3) := by decide +kernel
theorem e_C_init_182 : decode (mB I_C_init) 182 = .ok (.i2b, 1) := by decide +kernel
theorem e_C_init_183 : decode (mB I_C_init) 183 = .ok (.bastore, 1) := by decide +kernel
theorem e_C_init_184 : decode (mB I_C_init) 184 = .ok (.iinc 1 1, 3) := by decide +kernel
theorem e_C_init_187 : decode (mB I_C_init) 187 = .ok (.goto (-32), 3) := by decide +kernel
theorem e_C_init_190 : decode (mB I_C_init) 190 = .ok (.aload_n 0, 1) := by decide +kernel
theorem e_C_init_191 : decode (mB I_C_init) 191 = .ok (.getfield 10, 3) := by decide +kernel
theorem e_C_init_194 : decode (mB I_C_init) 194 = .ok (.ldc 67, 2) := by decide +kernel
theorem e_C_init_196 : decode (mB I_C_init) 196 = .ok (.invokevirtual 69, 3) := by decide +kernel
theorem e_C_init_199 : decode (mB I_C_init) 199 = .ok (.invokevirtual 79, 3) := by decide +kernel
theorem e_C_init_202 : decode (mB I_C_init) 202 = .ok (.aload_n 0, 1) := by decide +kernel
theorem e_C_init_203 : decode (mB I_C_init) 203 = .ok (.getfield 10, 3) := by decide +kernel
theorem e_C_init_206 : decode (mB I_C_init) 206 = .ok (.invokevirtual 83, 3) := by decide +kernel
theorem e_C_init_209 : decode (mB I_C_init) 209 = .ok (.ifCond .eq 24, 3) := by decide +kernel
theorem e_C_init_212 : decode (mB I_C_init) 212 = .ok (.aload_n 0, 1) := by decide +kernel
theorem e_C_init_213 : decode (mB I_C_init) 213 = .ok (.getfield 10, 3) := by decide +kernel
theorem e_C_init_216 : decode (mB I_C_init) 216 = .ok (.invokevirtual 87, 3) := by decide +kernel
theorem e_C_init_219 : decode (mB I_C_init) 219 = .ok (.ifCond .eq 14, 3) := by decide +kernel
theorem e_C_init_222 : decode (mB I_C_init) 222 = .ok (.aload_n 0, 1) := by decide +kernel
theorem e_C_init_223 : decode (mB I_C_init) 223 = .ok (.getfield 39, 3) := by decide +kernel
theorem e_C_init_226 : decode (mB I_C_init) 226 = .ok (.aload_n 0, 1) := by decide +kernel
theorem e_C_init_227 : decode (mB I_C_init) 227 = .ok (.getfield 46, 3) := by decide +kernel
theorem e_C_init_230 : decode (mB I_C_init) 230 = .ok (.invokevirtual 90, 3) := by decide +kernel
theorem e_C_init_233 : decode (mB I_C_init) 233 = .ok (.return_, 1) := by decide +kernel
theorem e_M_init_0 : decode (mB I_M_init) 0 = .ok (.aload_n 0, 1) := by decide +kernel
theorem e_M_init_1 : decode (mB I_M_init) 1 = .ok (.invokespecial 3, 3) := by decide +kernel
theorem e_M_init_4 : decode (mB I_M_init) 4 = .ok (.aload_n 0, 1) := by decide +kernel
theorem e_M_init_5 : decode (mB I_M_init) 5 = .ok (.sipush 284, 3) := by decide +kernel
theorem e_M_init_8 : decode (mB I_M_init) 8 = .ok (.newarray .int, 2) := by decide +kernel
theorem e_M_init_10 : decode (mB I_M_init) 10 = .ok (.putfield 9, 3) := by decide +kernel
theorem e_M_init_13 : decode (mB I_M_init) 13 = .ok (.aload_n 0, 1) := by decide +kernel
theorem e_M_init_14 : decode (mB I_M_init) 14 = .ok (.sipush 284, 3) := by decide +kernel
theorem e_M_init_17 : decode (mB I_M_init) 17 = .ok (.newarray .int, 2) := by decide +kernel
theorem e_M_init_19 : decode (mB I_M_init) 19 = .ok (.putfield 13, 3) := by decide +kernel
theorem e_M_init_22 : decode (mB I_M_init) 22 = .ok (.aload_n 0, 1) := by decide +kernel
theorem e_M_init_23 : decode (mB I_M_init) 23 = .ok (.sipush 2272, 3) := by decide +kernel
theorem e_M_init_26 : decode (mB I_M_init) 26 = .ok (.newarray .int, 2) := by decide +kernel
theorem e_M_init_28 : decode (mB I_M_init) 28 = .ok (.putfield 16, 3) := by decide +kernel
theorem e_M_init_31 : decode (mB I_M_init) 31 = .ok (.aload_n 0, 1) := by decide +kernel
theorem e_M_init_32 : decode (mB I_M_init) 32 = .ok (.sipush 568, 3) := by decide +kernel
theorem e_M_init_35 : decode (mB I_M_init) 35 = .ok (.newarray .int, 2) := by decide +kernel
theorem e_M_init_37 : decode (mB I_M_init) 37 = .ok (.putfield 19, 3) := by decide +kernel
theorem e_M_init_40 : decode (mB I_M_init) 40 = .ok (.aload_n 0, 1) := by decide +kernel
theorem e_M_init_41 : decode (mB I_M_init) 41 = .ok (.sipush 284, 3) := by decide +kernel
theorem e_M_init_44 : decode (mB I_M_init) 44 = .ok (.newarray .int, 2) := by decide +kernel
theorem e_M_init_46 : decode (mB I_M_init) 46 = .ok (.putfield 22, 3) := by decide +kernel
theorem e_M_init_49 : decode (mB I_M_init) 49 = .ok (.aload_n 0, 1) := by decide +kernel
theorem e_M_init_50 : decode (mB I_M_init) 50 = .ok (.iconst 2, 1) := by decide +kernel
theorem e_M_init_51 : decode (mB I_M_init) 51 = .ok (.newarray .boolean, 2) := by decide +kernel
theorem e_M_init_53 : decode (mB I_M_init) 53 = .ok (.putfield 25, 3) := by decide +kernel
theorem e_M_init_56 : decode (mB I_M_init) 56 = .ok (.aload_n 0, 1) := by decide +kernel
theorem e_M_init_57 : decode (mB I_M_init) 57 = .ok (.sipush 900, 3) := by decide +kernel
theorem e_M_init_60 : decode (mB I_M_init) 60 = .ok (.newarray .int, 2) := by decide +kernel
theorem e_M_init_62 : decode (mB I_M_init) 62 = .ok (.putfield 29, 3) := by decide +kernel
theorem e_M_init_65 : decode (mB I_M_init) 65 = .ok (.aload_n 0, 1) := by decide +kernel
theorem e_M_init_66 : decode (mB I_M_init) 66 = .ok (.sipush 600, 3) := by decide +kernel
theorem e_M_init_69 : decode (mB I_M_init) 69 = .ok (.newarray .int, 2) := by decide +kernel
theorem e_M_init_71 : decode (mB I_M_init) 71 = .ok (.putfield 32, 3) := by decide +kernel
theorem e_M_init_74 : decode (mB I_M_init) 74 = .ok (.aload_n 0, 1) := by decide +kernel
theorem e_M_init_75 : decode (mB I_M_init) 75 = .ok (.bipush 21, 2) := by decide +kernel
theorem e_M_init_77 : decode (mB I_M_init) 77 = .ok (.newarray .int, 2) := by decide +kernel
theorem e_M_init_79 : decode (mB I_M_init) 79 = .ok (.putfield 35, 3) := by decide +kernel
theorem e_M_init_82 : decode (mB I_M_init) 82 = .ok (.aload_n 0, 1) := by decide +kernel
theorem e_M_init_83 : decode (mB I_M_init) 83 = .ok (.bipush 21, 2) := by decide +kernel
theorem e_M_init_85 : decode (mB I_M_init) 85 = .ok (.newarray .int, 2) := by decide +kernel
theorem e_M_init_87 : decode (mB I_M_init) 87 = .ok (.putfield 38, 3) := by decide +kernel
theorem e_M_init_90 : decode (mB I_M_init) 90 = .ok (.aload_n 0, 1) := by decide +kernel
theorem e_M_init_91 : decode (mB I_M_init) 91 = .ok (.bipush 21, 2) := by decide +kernel
theorem e_M_init_93 : decode (mB I_M_init) 93 = .ok (.newarray .int, 2) := by decide +kernel
theorem e_M_init_95 : decode (mB I_M_init) 95 = .ok (.putfield 41, 3) := by decide +kernel
theorem e_M_init_98 : decode (mB I_M_init) 98 = .ok (.aload_n 0, 1) := by decide +kernel
theorem e_M_init_99 : decode (mB I_M_init) 99 = .ok (.bipush 7, 2) := by decide +kernel
theorem e_M_init_101 : decode (mB I_M_init) 101 = .ok (.newarray .int, 2) := by decide +kernel
theorem e_M_init_103 : decode (mB I_M_init) 103 = .ok (.dup, 1) := by decide +kernel
theorem e_M_init_104 : decode (mB I_M_init) 104 = .ok (.iconst 0, 1) := by decide +kernel
theorem e_M_init_105 : decode (mB I_M_init) 105 = .ok (.sipush 10000, 3) := by decide +kernel
theorem e_M_init_108 : decode (mB I_M_init) 108 = .ok (.iastore, 1) := by decide +kernel
theorem e_M_init_109 : decode (mB I_M_init) 109 = .ok (.dup, 1) := by decide +kernel
theorem e_M_init_110 : decode (mB I_M_init) 110 = .ok (.iconst 1, 1) := by decide +kernel
theorem e_M_init_111 : decode (mB I_M_init) 111 = .ok (.sipush 9659, 3) := by decide +kernel
theorem e_M_init_114 : decode (mB I_M_init) 114 = .ok (.iastore, 1) := by decide +kernel
theorem e_M_init_115 : decode (mB I_M_init) 115 = .ok (.dup, 1) := by decide +kernel
theorem e_M_init_116 : decode (mB I_M_init) 116 = .ok (.iconst 2, 1) := by decide +kernel
theorem e_M_init_117 : decode (mB I_M_init) 117 = .ok (.sipush 8660, 3) := by decide +kernel
theorem e_M_init_120 : decode (mB I_M_init) 120 = .ok (.iastore, 1) := by decide +kernel
theorem e_M_init_121 : decode (mB I_M_init) 121 = .ok (.dup, 1) := by decide +kernel
theorem e_M_init_122 : decode (mB I_M_init) 122 = .ok (.iconst 3, 1) := by decide +kernel
theorem e_M_init_123 : decode (mB I_M_init) 123 = .ok (.sipush 7071, 3) := by decide +kernel
theorem e_M_init_126 : decode (mB I_M_init) 126 = .ok (.iastore, 1) := by decide +kernel
theorem e_M_init_127 : decode (mB I_M_init) 127 = .ok (.dup, 1) := by decide +kernel
theorem e_M_init_128 : decode (mB I_M_init) 128 = .ok (.iconst 4, 1) := by decide +kernel
theorem e_M_init_129 : decode (mB I_M_init) 129 = .ok (.sipush 5000, 3) := by decide +kernel
theorem e_M_init_132 : decode (mB I_M_init) 132 = .ok (.iastore, 1) := by decide +kernel
theorem e_M_init_133 : decode (mB I_M_init) 133 = .ok (.dup, 1) := by decide +kernel
theorem e_M_init_134 : decode (mB I_M_init) 134 = .ok (.iconst 5, 1) := by decide +kernel
theorem e_M_init_135 : decode (mB I_M_init) 135 = .ok (.sipush 2588, 3) := by decide +kernel
theorem e_M_init_138 : decode (mB I_M_init) 138 = .ok (.iastore, 1) := by decide +kernel
theorem e_M_init_139 : decode (mB I_M_init) 139 = .ok (.dup, 1) := by decide +kernel
theorem e_M_init_140 : decode (mB I_M_init) 140 = .ok (.bipush 6, 2) := by decide +kernel
theorem e_M_init_142 : decode (mB I_M_init) 142 = .ok (.iconst 0, 1) := by decide +kernel
theorem e_M_init_143 : decode (mB I_M_init) 143 = .ok (.iastore, 1) := by decide +kernel
theorem e_M_init_144 : decode (mB I_M_init) 144 = .ok (.putfield 44, 3) := by decide +kernel
theorem e_M_init_147 : decode (mB I_M_init) 147 = .ok (.aload_n 0, 1) := by decide +kernel
theorem e_M_init_148 : decode (mB I_M_init) 148 = .ok (.iconst (-1), 1) := by decide +kernel
theorem e_M_init_149 : decode (mB I_M_init) 149 = .ok (.putfield 47, 3) := by decide +kernel
theorem e_M_init_152 : decode (mB I_M_init) 152 = .ok (.aload_n 0, 1) := by decide +kernel
theorem e_M_init_153 : decode (mB I_M_init) 153 = .ok (.bipush 6, 2) := by decide +kernel
theorem e_M_init_155 : decode (mB I_M_init) 155 = .ok (.newarray .int, 2) := by decide +kernel
theorem e_M_init_157 : decode (mB I_M_init) 157 = .ok (.putfield 51, 3) := by decide +kernel
theorem e_M_init_160 : decode (mB I_M_init) 160 = .ok (.aload_n 0, 1) := by decide +kernel
theorem e_M_init_161 : decode (mB I_M_init) 161 = .ok (.ldc 54, 2) := by decide +kernel
theorem e_M_init_163 : decode (mB I_M_init) 163 = .ok (.invokevirtual 56, 3) := by decide +kernel
theorem e_M_init_166 : decode (mB I_M_init) 166 = .ok (.return_, 1) := by decide +kernel
theorem e_W_truncateInput_0 : decode (mB I_W_truncateInput) 0 = .ok (.aload_n 2, 1) := by decide +kernel
theorem e_W_truncateInput_1 : decode (mB I_W_truncateInput) 1 = .ok (.iconst 0, 1) := by decide +kernel
theorem e_W_truncateInput_2 : decode (mB I_W_truncateInput) 2 = .ok (.aload_n 0, 1) := by decide +kernel
theorem e_W_truncateInput_3 : decode (mB I_W_truncateInput) 3 = .ok (.iload_n 1, 1) := by decide +kernel
theorem e_W_truncateInput_4 : decode (mB I_W_truncateInput) 4 = .ok (.invokevirtual 7, 3) := by decide +kernel
theorem e_W_truncateInput_7 : decode (mB I_W_truncateInput) 7 = .ok (.i2l, 1) := by decide +kernel
theorem e_W_truncateInput_8 : decode (mB I_W_truncateInput) 8 = .ok (.lastore, 1) := by decide +kernel
theorem e_W_truncateInput_9 : decode (mB I_W_truncateInput) 9 = .ok (.goto 6, 3) := by decide +kernel
theorem e_W_truncateInput_12 : decode (mB I_W_truncateInput) 12 = .ok (.astore_n 3, 1) := by decide +kernel
theorem e_W_truncateInput_13 : decode (mB I_W_truncateInput) 13 = .ok (.iconst 1, 1) := by decide +kernel
theorem e_W_truncateInput_14 : decode (mB I_W_truncateInput) 14 = .ok (.ireturn, 1) := by decide +kernel
theorem e_W_truncateInput_15 : decode (mB I_W_truncateInput) 15 = .ok (.iconst 0, 1) := by decide +kernel
theorem e_W_truncateInput_16 : decode (mB I_W_truncateInput) 16 = .ok (.ireturn, 1) := by decide +kernel
theorem e_W_addLeg_0 : decode (mB I_W_addLeg) 0 = .ok (.aload 6, 2) := by decide +kernel
theorem e_W_addLeg_2 : decode (mB I_W_addLeg) 2 = .ok (.iconst 0, 1) := by decide +kernel
theorem e_W_addLeg_3 : decode (mB I_W_addLeg) 3 = .ok (.aload_n 0, 1) := by decide +kernel
theorem e_W_addLeg_4 : decode (mB I_W_addLeg) 4 = .ok (.iload_n 1, 1) := by decide +kernel
theorem e_W_addLeg_5 : decode (mB I_W_addLeg) 5 = .ok (.iload_n 2, 1) := by decide +kernel
theorem e_W_addLeg_6 : decode (mB I_W_addLeg) 6 = .ok (.iload_n 3, 1) := by decide +kernel
theorem e_W_addLeg_7 : decode (mB I_W_addLeg) 7 = .ok (.iload 4, 2) := by decide +kernel
theorem e_W_addLeg_9 : decode (mB I_W_addLeg) 9 = .ok (.iload 5, 2) := by decide +kernel
theorem e_W_addLeg_11 : decode (mB I_W_addLeg) 11 = .ok (.invokevirtual 15, 3) := by decide +kernel
theorem e_W_addLeg_14 : decode (mB I_W_addLeg) 14 = .ok (.i2l, 1) := by decide +kernel
theorem e_W_addLeg_15 : decode (mB I_W_addLeg) 15 = .ok (.lastore, 1) := by decide +kernel
theorem e_W_addLeg_16 : decode (mB I_W_addLeg) 16 = .ok (.goto 11, 3) := by decide +kernel
theorem e_W_addLeg_19 : decode (mB I_W_addLeg) 19 = .ok (.astore 7, 2) := by decide +kernel
theorem e_W_addLeg_21 : decode (mB I_W_addLeg) 21 = .ok (.iconst 1, 1) := by decide +kernel
theorem e_W_addLeg_22 : decode (mB I_W_addLeg) 22 = .ok (.ireturn, 1) := by decide +kernel
theorem e_W_addLeg_23 : decode (mB I_W_addLeg) 23 = .ok (.astore 7, 2) := by decide +kernel
theorem e_W_addLeg_25 : decode (mB I_W_addLeg) 25 = .ok (.iconst 2, 1) := by decide +kernel
theorem e_W_addLeg_26 : decode (mB I_W_addLeg) 26 = .ok (.ireturn, 1) := by decide +kernel
theorem e_W_addLeg_27 : decode (mB I_W_addLeg) 27 = .ok (.iconst 0, 1) := by decide +kernel
theorem e_W_addLeg_28 : decode (mB I_W_addLeg) 28 = .ok (.ireturn, 1) := by decide +kernel
theorem e_W_addBog_0 : decode (mB I_W_addBog) 0 = .ok (.aload_n 3, 1) := by decide +kernel
theorem e_W_addBog_1 : decode (mB I_W_addBog) 1 = .ok (.iconst 0, 1) := by decide +kernel
theorem e_W_addBog_2 : decode (mB I_W_addBog) 2 = .ok (.aload_n 0, 1) := by decide +kernel
theorem e_W_addBog_3 : decode (mB I_W_addBog) 3 = .ok (.iload_n 1, 1) := by decide +kernel
theorem e_W_addBog_4 : decode (mB I_W_addBog) 4 = .ok (.iload_n 2, 1) := by decide +kernel
theorem e_W_addBog_5 : decode (mB I_W_addBog) 5 = .ok (.invokevirtual 21, 3) := by decide +kernel
theorem e_W_addBog_8 : decode (mB I_W_addBog) 8 = .ok (.i2l, 1) := by decide +kernel
theorem e_W_addBog_9 : decode (mB I_W_addBog) 9 = .ok (.lastore, 1) := by decide +kernel
theorem e_W_addBog_10 : decode (mB I_W_addBog) 10 = .ok (.goto 11, 3) := by decide +kernel
theorem e_W_addBog_13 : decode (mB I_W_addBog) 13 = .ok (.astore 4, 2) := by decide +kernel
theorem e_W_addBog_15 : decode (mB I_W_addBog) 15 = .ok (.iconst 1, 1) := by decide +kernel
theorem e_W_addBog_16 : decode (mB I_W_addBog) 16 = .ok (.ireturn, 1) := by decide +kernel
theorem e_W_addBog_17 : decode (mB I_W_addBog) 17 = .ok (.astore 4, 2) := by decide +kernel
theorem e_W_addBog_19 : decode (mB I_W_addBog) 19 = .ok (.iconst 2, 1) := by decide +kernel
theorem e_W_addBog_20 : decode (mB I_W_addBog) 20 = .ok (.ireturn, 1) := by decide +kernel
theorem e_W_addBog_21 : decode (mB I_W_addBog) 21 = .ok (.iconst 0, 1) := by decide +kernel
theorem e_W_addBog_22 : decode (mB I_W_addBog) 22 = .ok (.ireturn, 1) := by decide +kernel
theorem e_W_dropPin_0 : decode (mB I_W_dropPin) 0 = .ok (.aload_n 2, 1) := by decide +kernel
theorem e_W_dropPin_1 : decode (mB I_W_dropPin) 1 = .ok (.iconst 0, 1) := by decide +kernel
theorem e_W_dropPin_2 : decode (mB I_W_dropPin) 2 = .ok (.aload_n 0, 1) := by decide +kernel
theorem e_W_dropPin_3 : decode (mB I_W_dropPin) 3 = .ok (.iload_n 1, 1) := by decide +kernel
theorem e_W_dropPin_4 : decode (mB I_W_dropPin) 4 = .ok (.invokevirtual 25, 3) := by decide +kernel
theorem e_W_dropPin_7 : decode (mB I_W_dropPin) 7 = .ok (.i2l, 1) := by decide +kernel
theorem e_W_dropPin_8 : decode (mB I_W_dropPin) 8 = .ok (.lastore, 1) := by decide +kernel
theorem e_W_dropPin_9 : decode (mB I_W_dropPin) 9 = .ok (.goto 9, 3) := by decide +kernel
theorem e_W_dropPin_12 : decode (mB I_W_dropPin) 12 = .ok (.astore_n 3, 1) := by decide +kernel
theorem e_W_dropPin_13 : decode (mB I_W_dropPin) 13 = .ok (.iconst 1, 1) := by decide +kernel
theorem e_W_dropPin_14 : decode (mB I_W_dropPin) 14 = .ok (.ireturn, 1) := by decide +kernel
theorem e_W_dropPin_15 : decode (mB I_W_dropPin) 15 = .ok (.astore_n 3, 1) := by decide +kernel
theorem e_W_dropPin_16 : decode (mB I_W_dropPin) 16 = .ok (.iconst 2, 1) := by decide +kernel
theorem e_W_dropPin_17 : decode (mB I_W_dropPin) 17 = .ok (.ireturn, 1) := by decide +kernel
theorem e_W_dropPin_18 : decode (mB I_W_dropPin) 18 = .ok (.iconst 0, 1) := by decide +kernel
theorem e_W_dropPin_19 : decode (mB I_W_dropPin) 19 = .ok (.ireturn, 1) := by decide +kernel
theorem e_W_findPin_0 : decode (mB I_W_findPin) 0 = .ok (.aload_n 2, 1) := by decide +kernel
theorem e_W_findPin_1 : decode (mB I_W_findPin) 1 = .ok (.iconst 0, 1) := by decide +kernel
theorem e_W_findPin_2 : decode (mB I_W_findPin) 2 = .ok (.aload_n 0, 1) := by decide +kernel
theorem e_W_findPin_3 : decode (mB I_W_findPin) 3 = .ok (.iload_n 1, 1) := by decide +kernel
theorem e_W_findPin_4 : decode (mB I_W_findPin) 4 = .ok (.invokevirtual 30, 3) := by decide +kernel
theorem e_W_findPin_7 : decode (mB I_W_findPin) 7 = .ok (.i2l, 1) := by decide +kernel
theorem e_W_findPin_8 : decode (mB I_W_findPin) 8 = .ok (.lastore, 1) := by decide +kernel
theorem e_W_findPin_9 : decode (mB I_W_findPin) 9 = .ok (.goto 9, 3) := by decide +kernel
theorem e_W_findPin_12 : decode (mB I_W_findPin) 12 = .ok (.astore_n 3, 1) := by decide +kernel
theorem e_W_findPin_13 : decode (mB I_W_findPin) 13 = .ok (.iconst 1, 1) := by decide +kernel
theorem e_W_findPin_14 : decode (mB I_W_findPin) 14 = .ok (.ireturn, 1) := by decide +kernel
theorem e_W_findPin_15 : decode (mB I_W_findPin) 15 = .ok (.astore_n 3, 1) := by decide +kernel
theorem e_W_findPin_16 : decode (mB I_W_findPin) 16 = .ok (.iconst 2, 1) := by decide +kernel
theorem e_W_findPin_17 : decode (mB I_W_findPin) 17 = .ok (.ireturn, 1) := by decide +kernel
theorem e_W_findPin_18 : decode (mB I_W_findPin) 18 = .ok (.iconst 0, 1) := by decide +kernel
theorem e_W_findPin_19 : decode (mB I_W_findPin) 19 = .ok (.ireturn, 1) := by decide +kernel
theorem e_W_removeLast_0 : decode (mB I_W_removeLast) 0 = .ok (.aload_n 1, 1) := by decide +kernel
theorem e_W_removeLast_1 : decode (mB I_W_removeLast) 1 = .ok (.iconst 0, 1) := by decide +kernel
theorem e_W_removeLast_2 : decode (mB I_W_removeLast) 2 = .ok (.aload_n 0, 1) := by decide +kernel
theorem e_W_removeLast_3 : decode (mB I_W_removeLast) 3 = .ok (.invokevirtual 33, 3) := by decide +kernel
theorem e_W_removeLast_6 : decode (mB I_W_removeLast) 6 = .ok (.i2l, 1) := by decide +kernel
theorem e_W_removeLast_7 : decode (mB I_W_removeLast) 7 = .ok (.lastore, 1) := by decide +kernel
theorem e_W_removeLast_8 : decode (mB I_W_removeLast) 8 = .ok (.goto 6, 3) := by decide +kernel
theorem e_W_removeLast_11 : decode (mB I_W_removeLast) 11 = .ok (.astore_n 2, 1) := by decide +kernel
theorem e_W_removeLast_12 : decode (mB I_W_removeLast) 12 = .ok (.iconst 1, 1) := by decide +kernel
theorem e_W_removeLast_13 : decode (mB I_W_removeLast) 13 = .ok (.ireturn, 1) := by decide +kernel
theorem e_W_removeLast_14 : decode (mB I_W_removeLast) 14 = .ok (.iconst 0, 1) := by decide +kernel
theorem e_W_removeLast_15 : decode (mB I_W_removeLast) 15 = .ok (.ireturn, 1) := by decide +kernel
theorem e_W_setWear_0 : decode (mB I_W_setWear) 0 = .ok (.aload_n 2, 1) := by decide +kernel
theorem e_W_setWear_1 : decode (mB I_W_setWear) 1 = .ok (.iconst 0, 1) := by decide +kernel
theorem e_W_setWear_2 : decode (mB I_W_setWear) 2 = .ok (.aload_n 0, 1) := by decide +kernel
theorem e_W_setWear_3 : decode (mB I_W_setWear) 3 = .ok (.iload_n 1, 1) := by decide +kernel
theorem e_W_setWear_4 : decode (mB I_W_setWear) 4 = .ok (.invokevirtual 37, 3) := by decide +kernel
theorem e_W_setWear_7 : decode (mB I_W_setWear) 7 = .ok (.i2l, 1) := by decide +kernel
theorem e_W_setWear_8 : decode (mB I_W_setWear) 8 = .ok (.lastore, 1) := by decide +kernel
theorem e_W_setWear_9 : decode (mB I_W_setWear) 9 = .ok (.goto 6, 3) := by decide +kernel
theorem e_W_setWear_12 : decode (mB I_W_setWear) 12 = .ok (.astore_n 3, 1) := by decide +kernel
theorem e_W_setWear_13 : decode (mB I_W_setWear) 13 = .ok (.iconst 1, 1) := by decide +kernel
theorem e_W_setWear_14 : decode (mB I_W_setWear) 14 = .ok (.ireturn, 1) := by decide +kernel
theorem e_W_setWear_15 : decode (mB I_W_setWear) 15 = .ok (.iconst 0, 1) := by decide +kernel
theorem e_W_setWear_16 : decode (mB I_W_setWear) 16 = .ok (.ireturn, 1) := by decide +kernel
theorem e_W_setPace_0 : decode (mB I_W_setPace) 0 = .ok (.aload_n 2, 1) := by decide +kernel
theorem e_W_setPace_1 : decode (mB I_W_setPace) 1 = .ok (.iconst 0, 1) := by decide +kernel
theorem e_W_setPace_2 : decode (mB I_W_setPace) 2 = .ok (.aload_n 0, 1) := by decide +kernel
theorem e_W_setPace_3 : decode (mB I_W_setPace) 3 = .ok (.iload_n 1, 1) := by decide +kernel
theorem e_W_setPace_4 : decode (mB I_W_setPace) 4 = .ok (.invokevirtual 40, 3) := by decide +kernel
theorem e_W_setPace_7 : decode (mB I_W_setPace) 7 = .ok (.i2l, 1) := by decide +kernel
theorem e_W_setPace_8 : decode (mB I_W_setPace) 8 = .ok (.lastore, 1) := by decide +kernel
theorem e_W_setPace_9 : decode (mB I_W_setPace) 9 = .ok (.goto 6, 3) := by decide +kernel
theorem e_W_setPace_12 : decode (mB I_W_setPace) 12 = .ok (.astore_n 3, 1) := by decide +kernel
theorem e_W_setPace_13 : decode (mB I_W_setPace) 13 = .ok (.iconst 1, 1) := by decide +kernel
theorem e_W_setPace_14 : decode (mB I_W_setPace) 14 = .ok (.ireturn, 1) := by decide +kernel
theorem e_W_setPace_15 : decode (mB I_W_setPace) 15 = .ok (.iconst 0, 1) := by decide +kernel
theorem e_W_setPace_16 : decode (mB I_W_setPace) 16 = .ok (.ireturn, 1) := by decide +kernel
theorem e_W_undo_0 : decode (mB I_W_undo) 0 = .ok (.aload_n 1, 1) := by decide +kernel
theorem e_W_undo_1 : decode (mB I_W_undo) 1 = .ok (.iconst 0, 1) := by decide +kernel
theorem e_W_undo_2 : decode (mB I_W_undo) 2 = .ok (.aload_n 0, 1) := by decide +kernel
theorem e_W_undo_3 : decode (mB I_W_undo) 3 = .ok (.invokevirtual 43, 3) := by decide +kernel
theorem e_W_undo_6 : decode (mB I_W_undo) 6 = .ok (.i2l, 1) := by decide +kernel
theorem e_W_undo_7 : decode (mB I_W_undo) 7 = .ok (.lastore, 1) := by decide +kernel
theorem e_W_undo_8 : decode (mB I_W_undo) 8 = .ok (.goto 6, 3) := by decide +kernel
theorem e_W_undo_11 : decode (mB I_W_undo) 11 = .ok (.astore_n 2, 1) := by decide +kernel
theorem e_W_undo_12 : decode (mB I_W_undo) 12 = .ok (.iconst 1, 1) := by decide +kernel
theorem e_W_undo_13 : decode (mB I_W_undo) 13 = .ok (.ireturn, 1) := by decide +kernel
theorem e_W_undo_14 : decode (mB I_W_undo) 14 = .ok (.iconst 0, 1) := by decide +kernel
theorem e_W_undo_15 : decode (mB I_W_undo) 15 = .ok (.ireturn, 1) := by decide +kernel
theorem e_W_save_0 : decode (mB I_W_save) 0 = .ok (.aload_n 2, 1) := by decide +kernel
theorem e_W_save_1 : decode (mB I_W_save) 1 = .ok (.iconst 0, 1) := by decide +kernel
theorem e_W_save_2 : decode (mB I_W_save) 2 = .ok (.aload_n 0, 1) := by decide +kernel
theorem e_W_save_3 : decode (mB I_W_save) 3 = .ok (.iload_n 1, 1) := by decide +kernel
theorem e_W_save_4 : decode (mB I_W_save) 4 = .ok (.invokevirtual 46, 3) := by decide +kernel
theorem e_W_save_7 : decode (mB I_W_save) 7 = .ok (.i2l, 1) := by decide +kernel
theorem e_W_save_8 : decode (mB I_W_save) 8 = .ok (.lastore, 1) := by decide +kernel
theorem e_W_save_9 : decode (mB I_W_save) 9 = .ok (.goto 6, 3) := by decide +kernel
theorem e_W_save_12 : decode (mB I_W_save) 12 = .ok (.astore_n 3, 1) := by decide +kernel
theorem e_W_save_13 : decode (mB I_W_save) 13 = .ok (.iconst 1, 1) := by decide +kernel
theorem e_W_save_14 : decode (mB I_W_save) 14 = .ok (.ireturn, 1) := by decide +kernel
theorem e_W_save_15 : decode (mB I_W_save) 15 = .ok (.iconst 0, 1) := by decide +kernel
theorem e_W_save_16 : decode (mB I_W_save) 16 = .ok (.ireturn, 1) := by decide +kernel
theorem e_W_restore_0 : decode (mB I_W_restore) 0 = .ok (.aload_n 2, 1) := by decide +kernel
theorem e_W_restore_1 : decode (mB I_W_restore) 1 = .ok (.iconst 0, 1) := by decide +kernel
theorem e_W_restore_2 : decode (mB I_W_restore) 2 = .ok (.aload_n 0, 1) := by decide +kernel
theorem e_W_restore_3 : decode (mB I_W_restore) 3 = .ok (.iload_n 1, 1) := by decide +kernel
theorem e_W_restore_4 : decode (mB I_W_restore) 4 = .ok (.invokevirtual 49, 3) := by decide +kernel
theorem e_W_restore_7 : decode (mB I_W_restore) 7 = .ok (.i2l, 1) := by decide +kernel
theorem e_W_restore_8 : decode (mB I_W_restore) 8 = .ok (.lastore, 1) := by decide +kernel
theorem e_W_restore_9 : decode (mB I_W_restore) 9 = .ok (.goto 9, 3) := by decide +kernel
theorem e_W_restore_12 : decode (mB I_W_restore) 12 = .ok (.astore_n 3, 1) := by decide +kernel
theorem e_W_restore_13 : decode (mB I_W_restore) 13 = .ok (.iconst 1, 1) := by decide +kernel
theorem e_W_restore_14 : decode (mB I_W_restore) 14 = .ok (.ireturn, 1) := by decide +kernel
theorem e_W_restore_15 : decode (mB I_W_restore) 15 = .ok (.astore_n 3, 1) := by decide +kernel
theorem e_W_restore_16 : decode (mB I_W_restore) 16 = .ok (.iconst 2, 1) := by decide +kernel
theorem e_W_restore_17 : decode (mB I_W_restore) 17 = .ok (.ireturn, 1) := by decide +kernel
theorem e_W_restore_18 : decode (mB I_W_restore) 18 = .ok (.iconst 0, 1) := by decide +kernel
theorem e_W_restore_19 : decode (mB I_W_restore) 19 = .ok (.ireturn, 1) := by decide +kernel
theorem e_W_bearing_0 : decode (mB I_W_bearing) 0 = .ok (.aload_n 2, 1) := by decide +kernel
theorem e_W_bearing_1 : decode (mB I_W_bearing) 1 = .ok (.iconst 0, 1) := by decide +kernel
theorem e_W_bearing_2 : decode (mB I_W_bearing) 2 = .ok (.aload_n 0, 1) := by decide +kernel
theorem e_W_bearing_3 : decode (mB I_W_bearing) 3 = .ok (.iload_n 1, 1) := by decide +kernel
theorem e_W_bearing_4 : decode (mB I_W_bearing) 4 = .ok (.invokevirtual 52, 3) := by decide +kernel
theorem e_W_bearing_7 : decode (mB I_W_bearing) 7 = .ok (.i2l, 1) := by decide +kernel
theorem e_W_bearing_8 : decode (mB I_W_bearing) 8 = .ok (.lastore, 1) := by decide +kernel
theorem e_W_bearing_9 : decode (mB I_W_bearing) 9 = .ok (.goto 6, 3) := by decide +kernel
theorem e_W_bearing_12 : decode (mB I_W_bearing) 12 = .ok (.astore_n 3, 1) := by decide +kernel
theorem e_W_bearing_13 : decode (mB I_W_bearing) 13 = .ok (.iconst 1, 1) := by decide +kernel
theorem e_W_bearing_14 : decode (mB I_W_bearing) 14 = .ok (.ireturn, 1) := by decide +kernel
theorem e_W_bearing_15 : decode (mB I_W_bearing) 15 = .ok (.iconst 0, 1) := by decide +kernel
theorem e_W_bearing_16 : decode (mB I_W_bearing) 16 = .ok (.ireturn, 1) := by decide +kernel
theorem e_W_pins_0 : decode (mB I_W_pins) 0 = .ok (.aload_n 2, 1) := by decide +kernel
theorem e_W_pins_1 : decode (mB I_W_pins) 1 = .ok (.iconst 0, 1) := by decide +kernel
theorem e_W_pins_2 : decode (mB I_W_pins) 2 = .ok (.aload_n 0, 1) := by decide +kernel
theorem e_W_pins_3 : decode (mB I_W_pins) 3 = .ok (.iload_n 1, 1) := by decide +kernel
theorem e_W_pins_4 : decode (mB I_W_pins) 4 = .ok (.invokevirtual 55, 3) := by decide +kernel
theorem e_W_pins_7 : decode (mB I_W_pins) 7 = .ok (.i2l, 1) := by decide +kernel
theorem e_W_pins_8 : decode (mB I_W_pins) 8 = .ok (.lastore, 1) := by decide +kernel
theorem e_W_pins_9 : decode (mB I_W_pins) 9 = .ok (.goto 6, 3) := by decide +kernel
theorem e_W_pins_12 : decode (mB I_W_pins) 12 = .ok (.astore_n 3, 1) := by decide +kernel
theorem e_W_pins_13 : decode (mB I_W_pins) 13 = .ok (.iconst 1, 1) := by decide +kernel
theorem e_W_pins_14 : decode (mB I_W_pins) 14 = .ok (.ireturn, 1) := by decide +kernel
theorem e_W_pins_15 : decode (mB I_W_pins) 15 = .ok (.iconst 0, 1) := by decide +kernel
theorem e_W_pins_16 : decode (mB I_W_pins) 16 = .ok (.ireturn, 1) := by decide +kernel
theorem e_W_droppedPins_0 : decode (mB I_W_droppedPins) 0 = .ok (.aload_n 2, 1) := by decide +kernel
theorem e_W_droppedPins_1 : decode (mB I_W_droppedPins) 1 = .ok (.iconst 0, 1) := by decide +kernel
theorem e_W_droppedPins_2 : decode (mB I_W_droppedPins) 2 = .ok (.aload_n 0, 1) := by decide +kernel
theorem e_W_droppedPins_3 : decode (mB I_W_droppedPins) 3 = .ok (.iload_n 1, 1) := by decide +kernel
theorem e_W_droppedPins_4 : decode (mB I_W_droppedPins) 4 = .ok (.invokevirtual 58, 3) := by decide +kernel
theorem e_W_droppedPins_7 : decode (mB I_W_droppedPins) 7 = .ok (.i2l, 1) := by decide +kernel
theorem e_W_droppedPins_8 : decode (mB I_W_droppedPins) 8 = .ok (.lastore, 1) := by decide +kernel
theorem e_W_droppedPins_9 : decode (mB I_W_droppedPins) 9 = .ok (.goto 6, 3) := by decide +kernel
theorem e_W_droppedPins_12 : decode (mB I_W_droppedPins) 12 = .ok (.astore_n 3, 1) := by decide +kernel
theorem e_W_droppedPins_13 : decode (mB I_W_droppedPins) 13 = .ok (.iconst 1, 1) := by decide +kernel
theorem e_W_droppedPins_14 : decode (mB I_W_droppedPins) 14 = .ok (.ireturn, 1) := by decide +kernel
theorem e_W_droppedPins_15 : decode (mB I_W_droppedPins) 15 = .ok (.iconst 0, 1) := by decide +kernel
theorem e_W_droppedPins_16 : decode (mB I_W_droppedPins) 16 = .ok (.ireturn, 1) := by decide +kernel
theorem e_W_readLength_0 : decode (mB I_W_readLength) 0 = .ok (.aload_n 2, 1) := by decide +kernel
theorem e_W_readLength_1 : decode (mB I_W_readLength) 1 = .ok (.iconst 0, 1) := by decide +kernel
theorem e_W_readLength_2 : decode (mB I_W_readLength) 2 = .ok (.aload_n 0, 1) := by decide +kernel
theorem e_W_readLength_3 : decode (mB I_W_readLength) 3 = .ok (.iload_n 1, 1) := by decide +kernel
theorem e_W_readLength_4 : decode (mB I_W_readLength) 4 = .ok (.invokevirtual 61, 3) := by decide +kernel
theorem e_W_readLength_7 : decode (mB I_W_readLength) 7 = .ok (.i2l, 1) := by decide +kernel
theorem e_W_readLength_8 : decode (mB I_W_readLength) 8 = .ok (.lastore, 1) := by decide +kernel
theorem e_W_readLength_9 : decode (mB I_W_readLength) 9 = .ok (.goto 6, 3) := by decide +kernel
theorem e_W_readLength_12 : decode (mB I_W_readLength) 12 = .ok (.astore_n 3, 1) := by decide +kernel
theorem e_W_readLength_13 : decode (mB I_W_readLength) 13 = .ok (.iconst 1, 1) := by decide +kernel
theorem e_W_readLength_14 : decode (mB I_W_readLength) 14 = .ok (.ireturn, 1) := by decide +kernel
theorem e_W_readLength_15 : decode (mB I_W_readLength) 15 = .ok (.iconst 0, 1) := by decide +kernel
theorem e_W_readLength_16 : decode (mB I_W_readLength) 16 = .ok (.ireturn, 1) := by decide +kernel
theorem e_W_slopeLength_0 : decode (mB I_W_slopeLength) 0 = .ok (.aload_n 2, 1) := by decide +kernel
theorem e_W_slopeLength_1 : decode (mB I_W_slopeLength) 1 = .ok (.iconst 0, 1) := by decide +kernel
theorem e_W_slopeLength_2 : decode (mB I_W_slopeLength) 2 = .ok (.aload_n 0, 1) := by decide +kernel
theorem e_W_slopeLength_3 : decode (mB I_W_slopeLength) 3 = .ok (.iload_n 1, 1) := by decide +kernel
theorem e_W_slopeLength_4 : decode (mB I_W_slopeLength) 4 = .ok (.invokevirtual 64, 3) := by decide +kernel
theorem e_W_slopeLength_7 : decode (mB I_W_slopeLength) 7 = .ok (.i2l, 1) := by decide +kernel
theorem e_W_slopeLength_8 : decode (mB I_W_slopeLength) 8 = .ok (.lastore, 1) := by decide +kernel
theorem e_W_slopeLength_9 : decode (mB I_W_slopeLength) 9 = .ok (.goto 6, 3) := by decide +kernel
theorem e_W_slopeLength_12 : decode (mB I_W_slopeLength) 12 = .ok (.astore_n 3, 1) := by decide +kernel
theorem e_W_slopeLength_13 : decode (mB I_W_slopeLength) 13 = .ok (.iconst 1, 1) := by decide +kernel
theorem e_W_slopeLength_14 : decode (mB I_W_slopeLength) 14 = .ok (.ireturn, 1) := by decide +kernel
theorem e_W_slopeLength_15 : decode (mB I_W_slopeLength) 15 = .ok (.iconst 0, 1) := by decide +kernel
theorem e_W_slopeLength_16 : decode (mB I_W_slopeLength) 16 = .ok (.ireturn, 1) := by decide +kernel
theorem e_W_horizontalLength_0 : decode (mB I_W_horizontalLength) 0 = .ok (.aload_n 2, 1) := by decide +kernel
theorem e_W_horizontalLength_1 : decode (mB I_W_horizontalLength) 1 = .ok (.iconst 0, 1) := by decide +kernel
theorem e_W_horizontalLength_2 : decode (mB I_W_horizontalLength) 2 = .ok (.aload_n 0, 1) := by decide +kernel
theorem e_W_horizontalLength_3 : decode (mB I_W_horizontalLength) 3 = .ok (.iload_n 1, 1) := by decide +kernel
theorem e_W_horizontalLength_4 : decode (mB I_W_horizontalLength) 4 = .ok (.invokevirtual 67, 3) := by decide +kernel
theorem e_W_horizontalLength_7 : decode (mB I_W_horizontalLength) 7 = .ok (.i2l, 1) := by decide +kernel
theorem e_W_horizontalLength_8 : decode (mB I_W_horizontalLength) 8 = .ok (.lastore, 1) := by decide +kernel
theorem e_W_horizontalLength_9 : decode (mB I_W_horizontalLength) 9 = .ok (.goto 6, 3) := by decide +kernel
theorem e_W_horizontalLength_12 : decode (mB I_W_horizontalLength) 12 = .ok (.astore_n 3, 1) := by decide +kernel
theorem e_W_horizontalLength_13 : decode (mB I_W_horizontalLength) 13 = .ok (.iconst 1, 1) := by decide +kernel
theorem e_W_horizontalLength_14 : decode (mB I_W_horizontalLength) 14 = .ok (.ireturn, 1) := by decide +kernel
theorem e_W_horizontalLength_15 : decode (mB I_W_horizontalLength) 15 = .ok (.iconst 0, 1) := by decide +kernel
theorem e_W_horizontalLength_16 : decode (mB I_W_horizontalLength) 16 = .ok (.ireturn, 1) := by decide +kernel
theorem e_W_eastStep_0 : decode (mB I_W_eastStep) 0 = .ok (.aload_n 2, 1) := by decide +kernel
theorem e_W_eastStep_1 : decode (mB I_W_eastStep) 1 = .ok (.iconst 0, 1) := by decide +kernel
theorem e_W_eastStep_2 : decode (mB I_W_eastStep) 2 = .ok (.aload_n 0, 1) := by decide +kernel
theorem e_W_eastStep_3 : decode (mB I_W_eastStep) 3 = .ok (.iload_n 1, 1) := by decide +kernel
theorem e_W_eastStep_4 : decode (mB I_W_eastStep) 4 = .ok (.invokevirtual 70, 3) := by decide +kernel
theorem e_W_eastStep_7 : decode (mB I_W_eastStep) 7 = .ok (.i2l, 1) := by decide +kernel
theorem e_W_eastStep_8 : decode (mB I_W_eastStep) 8 = .ok (.lastore, 1) := by decide +kernel
theorem e_W_eastStep_9 : decode (mB I_W_eastStep) 9 = .ok (.goto 6, 3) := by decide +kernel
theorem e_W_eastStep_12 : decode (mB I_W_eastStep) 12 = .ok (.astore_n 3, 1) := by decide +kernel
theorem e_W_eastStep_13 : decode (mB I_W_eastStep) 13 = .ok (.iconst 1, 1) := by decide +kernel
theorem e_W_eastStep_14 : decode (mB I_W_eastStep) 14 = .ok (.ireturn, 1) := by decide +kernel
theorem e_W_eastStep_15 : decode (mB I_W_eastStep) 15 = .ok (.iconst 0, 1) := by decide +kernel
theorem e_W_eastStep_16 : decode (mB I_W_eastStep) 16 = .ok (.ireturn, 1) := by decide +kernel
theorem e_W_northStep_0 : decode (mB I_W_northStep) 0 = .ok (.aload_n 2, 1) := by decide +kernel
theorem e_W_northStep_1 : decode (mB I_W_northStep) 1 = .ok (.iconst 0, 1) := by decide +kernel
theorem e_W_northStep_2 : decode (mB I_W_northStep) 2 = .ok (.aload_n 0, 1) := by decide +kernel
theorem e_W_northStep_3 : decode (mB I_W_northStep) 3 = .ok (.iload_n 1, 1) := by decide +kernel
theorem e_W_northStep_4 : decode (mB I_W_northStep) 4 = .ok (.invokevirtual 73, 3) := by decide +kernel
theorem e_W_northStep_7 : decode (mB I_W_northStep) 7 = .ok (.i2l, 1) := by decide +kernel
theorem e_W_northStep_8 : decode (mB I_W_northStep) 8 = .ok (.lastore, 1) := by decide +kernel
theorem e_W_northStep_9 : decode (mB I_W_northStep) 9 = .ok (.goto 6, 3) := by decide +kernel
theorem e_W_northStep_12 : decode (mB I_W_northStep) 12 = .ok (.astore_n 3, 1) := by decide +kernel
theorem e_W_northStep_13 : decode (mB I_W_northStep) 13 = .ok (.iconst 1, 1) := by decide +kernel
theorem e_W_northStep_14 : decode (mB I_W_northStep) 14 = .ok (.ireturn, 1) := by decide +kernel
theorem e_W_northStep_15 : decode (mB I_W_northStep) 15 = .ok (.iconst 0, 1) := by decide +kernel
theorem e_W_northStep_16 : decode (mB I_W_northStep) 16 = .ok (.ireturn, 1) := by decide +kernel
theorem e_W_tallies_0 : decode (mB I_W_tallies) 0 = .ok (.aload_n 2, 1) := by decide +kernel
theorem e_W_tallies_1 : decode (mB I_W_tallies) 1 = .ok (.iconst 0, 1) := by decide +kernel
theorem e_W_tallies_2 : decode (mB I_W_tallies) 2 = .ok (.aload_n 0, 1) := by decide +kernel
theorem e_W_tallies_3 : decode (mB I_W_tallies) 3 = .ok (.iload_n 1, 1) := by decide +kernel
theorem e_W_tallies_4 : decode (mB I_W_tallies) 4 = .ok (.invokevirtual 76, 3) := by decide +kernel
theorem e_W_tallies_7 : decode (mB I_W_tallies) 7 = .ok (.i2l, 1) := by decide +kernel
theorem e_W_tallies_8 : decode (mB I_W_tallies) 8 = .ok (.lastore, 1) := by decide +kernel
theorem e_W_tallies_9 : decode (mB I_W_tallies) 9 = .ok (.goto 6, 3) := by decide +kernel
theorem e_W_tallies_12 : decode (mB I_W_tallies) 12 = .ok (.astore_n 3, 1) := by decide +kernel
theorem e_W_tallies_13 : decode (mB I_W_tallies) 13 = .ok (.iconst 1, 1) := by decide +kernel
theorem e_W_tallies_14 : decode (mB I_W_tallies) 14 = .ok (.ireturn, 1) := by decide +kernel
theorem e_W_tallies_15 : decode (mB I_W_tallies) 15 = .ok (.iconst 0, 1) := by decide +kernel
theorem e_W_tallies_16 : decode (mB I_W_tallies) 16 = .ok (.ireturn, 1) := by decide +kernel
theorem e_W_isBog_0 : decode (mB I_W_isBog) 0 = .ok (.aload_n 2, 1) := by decide +kernel
theorem e_W_isBog_1 : decode (mB I_W_isBog) 1 = .ok (.iconst 0, 1) := by decide +kernel
theorem e_W_isBog_2 : decode (mB I_W_isBog) 2 = .ok (.aload_n 0, 1) := by decide +kernel
theorem e_W_isBog_3 : decode (mB I_W_isBog) 3 = .ok (.iload_n 1, 1) := by decide +kernel
theorem e_W_isBog_4 : decode (mB I_W_isBog) 4 = .ok (.invokevirtual 79, 3) := by decide +kernel
theorem e_W_isBog_7 : decode (mB I_W_isBog) 7 = .ok (.ifCond .eq 7, 3) := by decide +kernel
theorem e_W_isBog_10 : decode (mB I_W_isBog) 10 = .ok (.lconst 1, 1) := by decide +kernel
theorem e_W_isBog_11 : decode (mB I_W_isBog) 11 = .ok (.goto 4, 3) := by decide +kernel
theorem e_W_isBog_14 : decode (mB I_W_isBog) 14 = .ok (.lconst 0, 1) := by decide +kernel
theorem e_W_isBog_15 : decode (mB I_W_isBog) 15 = .ok (.lastore, 1) := by decide +kernel
theorem e_W_isBog_16 : decode (mB I_W_isBog) 16 = .ok (.goto 6, 3) := by decide +kernel
theorem e_W_isBog_19 : decode (mB I_W_isBog) 19 = .ok (.astore_n 3, 1) := by decide +kernel
theorem e_W_isBog_20 : decode (mB I_W_isBog) 20 = .ok (.iconst 1, 1) := by decide +kernel
theorem e_W_isBog_21 : decode (mB I_W_isBog) 21 = .ok (.ireturn, 1) := by decide +kernel
theorem e_W_isBog_22 : decode (mB I_W_isBog) 22 = .ok (.iconst 0, 1) := by decide +kernel
theorem e_W_isBog_23 : decode (mB I_W_isBog) 23 = .ok (.ireturn, 1) := by decide +kernel
theorem e_W_nameByte_0 : decode (mB I_W_nameByte) 0 = .ok (.aload_n 3, 1) := by decide +kernel
theorem e_W_nameByte_1 : decode (mB I_W_nameByte) 1 = .ok (.iconst 0, 1) := by decide +kernel
theorem e_W_nameByte_2 : decode (mB I_W_nameByte) 2 = .ok (.aload_n 0, 1) := by decide +kernel
theorem e_W_nameByte_3 : decode (mB I_W_nameByte) 3 = .ok (.iload_n 1, 1) := by decide +kernel
theorem e_W_nameByte_4 : decode (mB I_W_nameByte) 4 = .ok (.iload_n 2, 1) := by decide +kernel
theorem e_W_nameByte_5 : decode (mB I_W_nameByte) 5 = .ok (.invokevirtual 83, 3) := by decide +kernel
theorem e_W_nameByte_8 : decode (mB I_W_nameByte) 8 = .ok (.i2l, 1) := by decide +kernel
theorem e_W_nameByte_9 : decode (mB I_W_nameByte) 9 = .ok (.lastore, 1) := by decide +kernel
theorem e_W_nameByte_10 : decode (mB I_W_nameByte) 10 = .ok (.goto 7, 3) := by decide +kernel
theorem e_W_nameByte_13 : decode (mB I_W_nameByte) 13 = .ok (.astore 4, 2) := by decide +kernel
theorem e_W_nameByte_15 : decode (mB I_W_nameByte) 15 = .ok (.iconst 1, 1) := by decide +kernel
theorem e_W_nameByte_16 : decode (mB I_W_nameByte) 16 = .ok (.ireturn, 1) := by decide +kernel
theorem e_W_nameByte_17 : decode (mB I_W_nameByte) 17 = .ok (.iconst 0, 1) := by decide +kernel
theorem e_W_nameByte_18 : decode (mB I_W_nameByte) 18 = .ok (.ireturn, 1) := by decide +kernel
theorem e_W_rawEast_0 : decode (mB I_W_rawEast) 0 = .ok (.aload_n 2, 1) := by decide +kernel
theorem e_W_rawEast_1 : decode (mB I_W_rawEast) 1 = .ok (.iconst 0, 1) := by decide +kernel
theorem e_W_rawEast_2 : decode (mB I_W_rawEast) 2 = .ok (.aload_n 0, 1) := by decide +kernel
theorem e_W_rawEast_3 : decode (mB I_W_rawEast) 3 = .ok (.iload_n 1, 1) := by decide +kernel
theorem e_W_rawEast_4 : decode (mB I_W_rawEast) 4 = .ok (.invokevirtual 86, 3) := by decide +kernel
theorem e_W_rawEast_7 : decode (mB I_W_rawEast) 7 = .ok (.i2l, 1) := by decide +kernel
theorem e_W_rawEast_8 : decode (mB I_W_rawEast) 8 = .ok (.lastore, 1) := by decide +kernel
theorem e_W_rawEast_9 : decode (mB I_W_rawEast) 9 = .ok (.goto 6, 3) := by decide +kernel
theorem e_W_rawEast_12 : decode (mB I_W_rawEast) 12 = .ok (.astore_n 3, 1) := by decide +kernel
theorem e_W_rawEast_13 : decode (mB I_W_rawEast) 13 = .ok (.iconst 1, 1) := by decide +kernel
theorem e_W_rawEast_14 : decode (mB I_W_rawEast) 14 = .ok (.ireturn, 1) := by decide +kernel
theorem e_W_rawEast_15 : decode (mB I_W_rawEast) 15 = .ok (.iconst 0, 1) := by decide +kernel
theorem e_W_rawEast_16 : decode (mB I_W_rawEast) 16 = .ok (.ireturn, 1) := by decide +kernel
theorem e_W_rawNorth_0 : decode (mB I_W_rawNorth) 0 = .ok (.aload_n 2, 1) := by decide +kernel
theorem e_W_rawNorth_1 : decode (mB I_W_rawNorth) 1 = .ok (.iconst 0, 1) := by decide +kernel
theorem e_W_rawNorth_2 : decode (mB I_W_rawNorth) 2 = .ok (.aload_n 0, 1) := by decide +kernel
theorem e_W_rawNorth_3 : decode (mB I_W_rawNorth) 3 = .ok (.iload_n 1, 1) := by decide +kernel
theorem e_W_rawNorth_4 : decode (mB I_W_rawNorth) 4 = .ok (.invokevirtual 89, 3) := by decide +kernel
theorem e_W_rawNorth_7 : decode (mB I_W_rawNorth) 7 = .ok (.i2l, 1) := by decide +kernel
theorem e_W_rawNorth_8 : decode (mB I_W_rawNorth) 8 = .ok (.lastore, 1) := by decide +kernel
theorem e_W_rawNorth_9 : decode (mB I_W_rawNorth) 9 = .ok (.goto 6, 3) := by decide +kernel
theorem e_W_rawNorth_12 : decode (mB I_W_rawNorth) 12 = .ok (.astore_n 3, 1) := by decide +kernel
theorem e_W_rawNorth_13 : decode (mB I_W_rawNorth) 13 = .ok (.iconst 1, 1) := by decide +kernel
theorem e_W_rawNorth_14 : decode (mB I_W_rawNorth) 14 = .ok (.ireturn, 1) := by decide +kernel
theorem e_W_rawNorth_15 : decode (mB I_W_rawNorth) 15 = .ok (.iconst 0, 1) := by decide +kernel
theorem e_W_rawNorth_16 : decode (mB I_W_rawNorth) 16 = .ok (.ireturn, 1) := by decide +kernel
theorem e_W_east_0 : decode (mB I_W_east) 0 = .ok (.aload_n 2, 1) := by decide +kernel
theorem e_W_east_1 : decode (mB I_W_east) 1 = .ok (.iconst 0, 1) := by decide +kernel
theorem e_W_east_2 : decode (mB I_W_east) 2 = .ok (.aload_n 0, 1) := by decide +kernel
theorem e_W_east_3 : decode (mB I_W_east) 3 = .ok (.iload_n 1, 1) := by decide +kernel
theorem e_W_east_4 : decode (mB I_W_east) 4 = .ok (.invokevirtual 92, 3) := by decide +kernel
theorem e_W_east_7 : decode (mB I_W_east) 7 = .ok (.i2l, 1) := by decide +kernel
theorem e_W_east_8 : decode (mB I_W_east) 8 = .ok (.lastore, 1) := by decide +kernel
theorem e_W_east_9 : decode (mB I_W_east) 9 = .ok (.goto 6, 3) := by decide +kernel
theorem e_W_east_12 : decode (mB I_W_east) 12 = .ok (.astore_n 3, 1) := by decide +kernel
theorem e_W_east_13 : decode (mB I_W_east) 13 = .ok (.iconst 1, 1) := by decide +kernel
theorem e_W_east_14 : decode (mB I_W_east) 14 = .ok (.ireturn, 1) := by decide +kernel
theorem e_W_east_15 : decode (mB I_W_east) 15 = .ok (.iconst 0, 1) := by decide +kernel
theorem e_W_east_16 : decode (mB I_W_east) 16 = .ok (.ireturn, 1) := by decide +kernel
theorem e_W_north_0 : decode (mB I_W_north) 0 = .ok (.aload_n 2, 1) := by decide +kernel
theorem e_W_north_1 : decode (mB I_W_north) 1 = .ok (.iconst 0, 1) := by decide +kernel
theorem e_W_north_2 : decode (mB I_W_north) 2 = .ok (.aload_n 0, 1) := by decide +kernel
theorem e_W_north_3 : decode (mB I_W_north) 3 = .ok (.iload_n 1, 1) := by decide +kernel
theorem e_W_north_4 : decode (mB I_W_north) 4 = .ok (.invokevirtual 95, 3) := by decide +kernel
theorem e_W_north_7 : decode (mB I_W_north) 7 = .ok (.i2l, 1) := by decide +kernel
theorem e_W_north_8 : decode (mB I_W_north) 8 = .ok (.lastore, 1) := by decide +kernel
theorem e_W_north_9 : decode (mB I_W_north) 9 = .ok (.goto 6, 3) := by decide +kernel
theorem e_W_north_12 : decode (mB I_W_north) 12 = .ok (.astore_n 3, 1) := by decide +kernel
theorem e_W_north_13 : decode (mB I_W_north) 13 = .ok (.iconst 1, 1) := by decide +kernel
theorem e_W_north_14 : decode (mB I_W_north) 14 = .ok (.ireturn, 1) := by decide +kernel
theorem e_W_north_15 : decode (mB I_W_north) 15 = .ok (.iconst 0, 1) := by decide +kernel
theorem e_W_north_16 : decode (mB I_W_north) 16 = .ok (.ireturn, 1) := by decide +kernel
theorem e_W_run_0 : decode (mB I_W_run) 0 = .ok (.aload_n 2, 1) := by decide +kernel
theorem e_W_run_1 : decode (mB I_W_run) 1 = .ok (.iconst 0, 1) := by decide +kernel
theorem e_W_run_2 : decode (mB I_W_run) 2 = .ok (.aload_n 0, 1) := by decide +kernel
theorem e_W_run_3 : decode (mB I_W_run) 3 = .ok (.iload_n 1, 1) := by decide +kernel
theorem e_W_run_4 : decode (mB I_W_run) 4 = .ok (.invokevirtual 98, 3) := by decide +kernel
theorem e_W_run_7 : decode (mB I_W_run) 7 = .ok (.i2l, 1) := by decide +kernel
theorem e_W_run_8 : decode (mB I_W_run) 8 = .ok (.lastore, 1) := by decide +kernel
theorem e_W_run_9 : decode (mB I_W_run) 9 = .ok (.goto 6, 3) := by decide +kernel
theorem e_W_run_12 : decode (mB I_W_run) 12 = .ok (.astore_n 3, 1) := by decide +kernel
theorem e_W_run_13 : decode (mB I_W_run) 13 = .ok (.iconst 1, 1) := by decide +kernel
theorem e_W_run_14 : decode (mB I_W_run) 14 = .ok (.ireturn, 1) := by decide +kernel
theorem e_W_run_15 : decode (mB I_W_run) 15 = .ok (.iconst 0, 1) := by decide +kernel
theorem e_W_run_16 : decode (mB I_W_run) 16 = .ok (.ireturn, 1) := by decide +kernel
theorem e_W_distanceFromStart_0 : decode (mB I_W_distanceFromStart) 0 = .ok (.aload_n 2, 1) := by decide +kernel
theorem e_W_distanceFromStart_1 : decode (mB I_W_distanceFromStart) 1 = .ok (.iconst 0, 1) := by decide +kernel
theorem e_W_distanceFromStart_2 : decode (mB I_W_distanceFromStart) 2 = .ok (.aload_n 0, 1) := by decide +kernel
theorem e_W_distanceFromStart_3 : decode (mB I_W_distanceFromStart) 3 = .ok (.iload_n 1, 1) := by decide +kernel
theorem e_W_distanceFromStart_4 : decode (mB I_W_distanceFromStart) 4 = .ok (.invokevirtual 101, 3) := by decide +kernel
theorem e_W_distanceFromStart_7 : decode (mB I_W_distanceFromStart) 7 = .ok (.i2l, 1) := by decide +kernel
theorem e_W_distanceFromStart_8 : decode (mB I_W_distanceFromStart) 8 = .ok (.lastore, 1) := by decide +kernel
theorem e_W_distanceFromStart_9 : decode (mB I_W_distanceFromStart) 9 = .ok (.goto 6, 3) := by decide +kernel
theorem e_W_distanceFromStart_12 : decode (mB I_W_distanceFromStart) 12 = .ok (.astore_n 3, 1) := by decide +kernel
theorem e_W_distanceFromStart_13 : decode (mB I_W_distanceFromStart) 13 = .ok (.iconst 1, 1) := by decide +kernel
theorem e_W_distanceFromStart_14 : decode (mB I_W_distanceFromStart) 14 = .ok (.ireturn, 1) := by decide +kernel
theorem e_W_distanceFromStart_15 : decode (mB I_W_distanceFromStart) 15 = .ok (.iconst 0, 1) := by decide +kernel
theorem e_W_distanceFromStart_16 : decode (mB I_W_distanceFromStart) 16 = .ok (.ireturn, 1) := by decide +kernel
theorem e_W_misclosureIfDropped_0 : decode (mB I_W_misclosureIfDropped) 0 = .ok (.aload_n 2, 1) := by decide +kernel
theorem e_W_misclosureIfDropped_1 : decode (mB I_W_misclosureIfDropped) 1 = .ok (.iconst 0, 1) := by decide +kernel
theorem e_W_misclosureIfDropped_2 : decode (mB I_W_misclosureIfDropped) 2 = .ok (.aload_n 0, 1) := by decide +kernel
theorem e_W_misclosureIfDropped_3 : decode (mB I_W_misclosureIfDropped) 3 = .ok (.iload_n 1, 1) := by decide +kernel
theorem e_W_misclosureIfDropped_4 : decode (mB I_W_misclosureIfDropped) 4 = .ok (.invokevirtual 104, 3) := by decide +kernel
theorem e_W_misclosureIfDropped_7 : decode (mB I_W_misclosureIfDropped) 7 = .ok (.i2l, 1) := by decide +kernel
theorem e_W_misclosureIfDropped_8 : decode (mB I_W_misclosureIfDropped) 8 = .ok (.lastore, 1) := by decide +kernel
theorem e_W_misclosureIfDropped_9 : decode (mB I_W_misclosureIfDropped) 9 = .ok (.goto 6, 3) := by decide +kernel
theorem e_W_misclosureIfDropped_12 : decode (mB I_W_misclosureIfDropped) 12 = .ok (.astore_n 3, 1) := by decide +kernel
theorem e_W_misclosureIfDropped_13 : decode (mB I_W_misclosureIfDropped) 13 = .ok (.iconst 1, 1) := by decide +kernel
theorem e_W_misclosureIfDropped_14 : decode (mB I_W_misclosureIfDropped) 14 = .ok (.ireturn, 1) := by decide +kernel
theorem e_W_misclosureIfDropped_15 : decode (mB I_W_misclosureIfDropped) 15 = .ok (.iconst 0, 1) := by decide +kernel
theorem e_W_misclosureIfDropped_16 : decode (mB I_W_misclosureIfDropped) 16 = .ok (.ireturn, 1) := by decide +kernel
