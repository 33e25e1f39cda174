/-! decoded instructions -/
theorem e_S_clear_0 : decode (mB I_S_clear) 0 = .ok (.aload_n 0, 1) := by decide +kernel
theorem e_S_clear_1 : decode (mB I_S_clear) 1 = .ok (.iconst 0, 1) := by decide +kernel
theorem e_S_clear_2 : decode (mB I_S_clear) 2 = .ok (.putfield 44, 3) := by decide +kernel
theorem e_S_clear_5 : decode (mB I_S_clear) 5 = .ok (.aload_n 0, 1) := by decide +kernel
theorem e_S_clear_6 : decode (mB I_S_clear) 6 = .ok (.iconst 0, 1) := by decide +kernel
theorem e_S_clear_7 : decode (mB I_S_clear) 7 = .ok (.putfield 47, 3) := by decide +kernel
theorem e_S_clear_10 : decode (mB I_S_clear) 10 = .ok (.return_, 1) := by decide +kernel
theorem e_S_legNamed_0 : decode (mB I_S_legNamed) 0 = .ok (.iconst 0, 1) := by decide +kernel
theorem e_S_legNamed_1 : decode (mB I_S_legNamed) 1 = .ok (.istore_n 2, 1) := by decide +kernel
theorem e_S_legNamed_2 : decode (mB I_S_legNamed) 2 = .ok (.iload_n 2, 1) := by decide +kernel
theorem e_S_legNamed_3 : decode (mB I_S_legNamed) 3 = .ok (.aload_n 0, 1) := by decide +kernel
theorem e_S_legNamed_4 : decode (mB I_S_legNamed) 4 = .ok (.getfield 44, 3) := by decide +kernel
theorem e_S_legNamed_7 : decode (mB I_S_legNamed) 7 = .ok (.if_icmp .ge 21, 3) := by decide +kernel
theorem e_S_legNamed_10 : decode (mB I_S_legNamed) 10 = .ok (.aload_n 0, 1) := by decide +kernel
theorem e_S_legNamed_11 : decode (mB I_S_legNamed) 11 = .ok (.getfield 9, 3) := by decide +kernel
theorem e_S_legNamed_14 : decode (mB I_S_legNamed) 14 = .ok (.iload_n 2, 1) := by decide +kernel
theorem e_S_legNamed_15 : decode (mB I_S_legNamed) 15 = .ok (.iaload, 1) := by decide +kernel
theorem e_S_legNamed_16 : decode (mB I_S_legNamed) 16 = .ok (.iload_n 1, 1) := by decide +kernel
theorem e_S_legNamed_17 : decode (mB I_S_legNamed) 17 = .ok (.if_icmp .ne 5, 3) := by decide +kernel
theorem e_S_legNamed_20 : decode (mB I_S_legNamed) 20 = .ok (.iload_n 2, 1) := by decide +kernel
theorem e_S_legNamed_21 : decode (mB I_S_legNamed) 21 = .ok (.ireturn, 1) := by decide +kernel
theorem e_S_legNamed_22 : decode (mB I_S_legNamed) 22 = .ok (.iinc 2 1, 3) := by decide +kernel
theorem e_S_legNamed_25 : decode (mB I_S_legNamed) 25 = .ok (.goto (-23), 3) := by decide +kernel
theorem e_S_legNamed_28 : decode (mB I_S_legNamed) 28 = .ok (.iconst (-1), 1) := by decide +kernel
theorem e_S_legNamed_29 : decode (mB I_S_legNamed) 29 = .ok (.ireturn, 1) := by decide +kernel
theorem e_S_addChained_0 : decode (mB I_S_addChained) 0 = .ok (.aload_n 0, 1) := by decide +kernel
theorem e_S_addChained_1 : decode (mB I_S_addChained) 1 = .ok (.getfield 44, 3) := by decide +kernel
theorem e_S_addChained_4 : decode (mB I_S_addChained) 4 = .ok (.bipush 20, 2) := by decide +kernel
theorem e_S_addChained_6 : decode (mB I_S_addChained) 6 = .ok (.if_icmp .lt 4, 3) := by decide +kernel
theorem e_S_addChained_9 : decode (mB I_S_addChained) 9 = .ok (.return_, 1) := by decide +kernel
theorem e_S_addChained_10 : decode (mB I_S_addChained) 10 = .ok (.aload_n 0, 1) := by decide +kernel
theorem e_S_addChained_11 : decode (mB I_S_addChained) 11 = .ok (.getfield 9, 3) := by decide +kernel
theorem e_S_addChained_14 : decode (mB I_S_addChained) 14 = .ok (.aload_n 0, 1) := by decide +kernel
theorem e_S_addChained_15 : decode (mB I_S_addChained) 15 = .ok (.getfield 44, 3) := by decide +kernel
theorem e_S_addChained_18 : decode (mB I_S_addChained) 18 = .ok (.iload_n 1, 1) := by decide +kernel
theorem e_S_addChained_19 : decode (mB I_S_addChained) 19 = .ok (.iastore, 1) := by decide +kernel
theorem e_S_addChained_20 : decode (mB I_S_addChained) 20 = .ok (.aload_n 0, 1) := by decide +kernel
theorem e_S_addChained_21 : decode (mB I_S_addChained) 21 = .ok (.getfield 15, 3) := by decide +kernel
theorem e_S_addChained_24 : decode (mB I_S_addChained) 24 = .ok (.aload_n 0, 1) := by decide +kernel
theorem e_S_addChained_25 : decode (mB I_S_addChained) 25 = .ok (.getfield 44, 3) := by decide +kernel
theorem e_S_addChained_28 : decode (mB I_S_addChained) 28 = .ok (.iload_n 2, 1) := by decide +kernel
theorem e_S_addChained_29 : decode (mB I_S_addChained) 29 = .ok (.iastore, 1) := by decide +kernel
theorem e_S_addChained_30 : decode (mB I_S_addChained) 30 = .ok (.aload_n 0, 1) := by decide +kernel
theorem e_S_addChained_31 : decode (mB I_S_addChained) 31 = .ok (.getfield 18, 3) := by decide +kernel
theorem e_S_addChained_34 : decode (mB I_S_addChained) 34 = .ok (.aload_n 0, 1) := by decide +kernel
theorem e_S_addChained_35 : decode (mB I_S_addChained) 35 = .ok (.getfield 44, 3) := by decide +kernel
theorem e_S_addChained_38 : decode (mB I_S_addChained) 38 = .ok (.iconst 0, 1) := by decide +kernel
theorem e_S_addChained_39 : decode (mB I_S_addChained) 39 = .ok (.bastore, 1) := by decide +kernel
theorem e_S_addChained_40 : decode (mB I_S_addChained) 40 = .ok (.aload_n 0, 1) := by decide +kernel
theorem e_S_addChained_41 : decode (mB I_S_addChained) 41 = .ok (.getfield 22, 3) := by decide +kernel
theorem e_S_addChained_44 : decode (mB I_S_addChained) 44 = .ok (.aload_n 0, 1) := by decide +kernel
theorem e_S_addChained_45 : decode (mB I_S_addChained) 45 = .ok (.getfield 44, 3) := by decide +kernel
theorem e_S_addChained_48 : decode (mB I_S_addChained) 48 = .ok (.iconst 0, 1) := by decide +kernel
theorem e_S_addChained_49 : decode (mB I_S_addChained) 49 = .ok (.iastore, 1) := by decide +kernel
theorem e_S_addChained_50 : decode (mB I_S_addChained) 50 = .ok (.aload_n 0, 1) := by decide +kernel
theorem e_S_addChained_51 : decode (mB I_S_addChained) 51 = .ok (.getfield 25, 3) := by decide +kernel
theorem e_S_addChained_54 : decode (mB I_S_addChained) 54 = .ok (.aload_n 0, 1) := by decide +kernel
theorem e_S_addChained_55 : decode (mB I_S_addChained) 55 = .ok (.getfield 44, 3) := by decide +kernel
theorem e_S_addChained_58 : decode (mB I_S_addChained) 58 = .ok (.iload_n 3, 1) := by decide +kernel
theorem e_S_addChained_59 : decode (mB I_S_addChained) 59 = .ok (.iastore, 1) := by decide +kernel
theorem e_S_addChained_60 : decode (mB I_S_addChained) 60 = .ok (.aload_n 0, 1) := by decide +kernel
theorem e_S_addChained_61 : decode (mB I_S_addChained) 61 = .ok (.getfield 28, 3) := by decide +kernel
theorem e_S_addChained_64 : decode (mB I_S_addChained) 64 = .ok (.aload_n 0, 1) := by decide +kernel
theorem e_S_addChained_65 : decode (mB I_S_addChained) 65 = .ok (.getfield 44, 3) := by decide +kernel
theorem e_S_addChained_68 : decode (mB I_S_addChained) 68 = .ok (.iload 4, 2) := by decide +kernel
theorem e_S_addChained_70 : decode (mB I_S_addChained) 70 = .ok (.iastore, 1) := by decide +kernel
theorem e_S_addChained_71 : decode (mB I_S_addChained) 71 = .ok (.aload_n 0, 1) := by decide +kernel
theorem e_S_addChained_72 : decode (mB I_S_addChained) 72 = .ok (.getfield 31, 3) := by decide +kernel
theorem e_S_addChained_75 : decode (mB I_S_addChained) 75 = .ok (.aload_n 0, 1) := by decide +kernel
theorem e_S_addChained_76 : decode (mB I_S_addChained) 76 = .ok (.getfield 44, 3) := by decide +kernel
theorem e_S_addChained_79 : decode (mB I_S_addChained) 79 = .ok (.iload 5, 2) := by decide +kernel
theorem e_S_addChained_81 : decode (mB I_S_addChained) 81 = .ok (.iastore, 1) := by decide +kernel
theorem e_S_addChained_82 : decode (mB I_S_addChained) 82 = .ok (.aload_n 0, 1) := by decide +kernel
theorem e_S_addChained_83 : decode (mB I_S_addChained) 83 = .ok (.getfield 34, 3) := by decide +kernel
theorem e_S_addChained_86 : decode (mB I_S_addChained) 86 = .ok (.aload_n 0, 1) := by decide +kernel
theorem e_S_addChained_87 : decode (mB I_S_addChained) 87 = .ok (.getfield 44, 3) := by decide +kernel
theorem e_S_addChained_90 : decode (mB I_S_addChained) 90 = .ok (.iload 6, 2) := by decide +kernel
theorem e_S_addChained_92 : decode (mB I_S_addChained) 92 = .ok (.iastore, 1) := by decide +kernel
theorem e_S_addChained_93 : decode (mB I_S_addChained) 93 = .ok (.aload_n 0, 1) := by decide +kernel
theorem e_S_addChained_94 : decode (mB I_S_addChained) 94 = .ok (.getfield 37, 3) := by decide +kernel
theorem e_S_addChained_97 : decode (mB I_S_addChained) 97 = .ok (.aload_n 0, 1) := by decide +kernel
theorem e_S_addChained_98 : decode (mB I_S_addChained) 98 = .ok (.getfield 44, 3) := by decide +kernel
theorem e_S_addChained_101 : decode (mB I_S_addChained) 101 = .ok (.iload 7, 2) := by decide +kernel
theorem e_S_addChained_103 : decode (mB I_S_addChained) 103 = .ok (.iastore, 1) := by decide +kernel
theorem e_S_addChained_104 : decode (mB I_S_addChained) 104 = .ok (.aload_n 0, 1) := by decide +kernel
theorem e_S_addChained_105 : decode (mB I_S_addChained) 105 = .ok (.dup, 1) := by decide +kernel
theorem e_S_addChained_106 : decode (mB I_S_addChained) 106 = .ok (.getfield 44, 3) := by decide +kernel
theorem e_S_addChained_109 : decode (mB I_S_addChained) 109 = .ok (.iconst 1, 1) := by decide +kernel
theorem e_S_addChained_110 : decode (mB I_S_addChained) 110 = .ok (.iadd, 1) := by decide +kernel
theorem e_S_addChained_111 : decode (mB I_S_addChained) 111 = .ok (.putfield 44, 3) := by decide +kernel
theorem e_S_addChained_114 : decode (mB I_S_addChained) 114 = .ok (.return_, 1) := by decide +kernel
theorem e_S_addPaced_0 : decode (mB I_S_addPaced) 0 = .ok (.aload_n 0, 1) := by decide +kernel
theorem e_S_addPaced_1 : decode (mB I_S_addPaced) 1 = .ok (.getfield 44, 3) := by decide +kernel
theorem e_S_addPaced_4 : decode (mB I_S_addPaced) 4 = .ok (.bipush 20, 2) := by decide +kernel
theorem e_S_addPaced_6 : decode (mB I_S_addPaced) 6 = .ok (.if_icmp .lt 4, 3) := by decide +kernel
theorem e_S_addPaced_9 : decode (mB I_S_addPaced) 9 = .ok (.return_, 1) := by decide +kernel
theorem e_S_addPaced_10 : decode (mB I_S_addPaced) 10 = .ok (.aload_n 0, 1) := by decide +kernel
theorem e_S_addPaced_11 : decode (mB I_S_addPaced) 11 = .ok (.iload_n 1, 1) := by decide +kernel
theorem e_S_addPaced_12 : decode (mB I_S_addPaced) 12 = .ok (.iload_n 2, 1) := by decide +kernel
theorem e_S_addPaced_13 : decode (mB I_S_addPaced) 13 = .ok (.iconst 0, 1) := by decide +kernel
theorem e_S_addPaced_14 : decode (mB I_S_addPaced) 14 = .ok (.iconst 0, 1) := by decide +kernel
theorem e_S_addPaced_15 : decode (mB I_S_addPaced) 15 = .ok (.iconst 0, 1) := by decide +kernel
theorem e_S_addPaced_16 : decode (mB I_S_addPaced) 16 = .ok (.iconst 0, 1) := by decide +kernel
theorem e_S_addPaced_17 : decode (mB I_S_addPaced) 17 = .ok (.bipush 15, 2) := by decide +kernel
theorem e_S_addPaced_19 : decode (mB I_S_addPaced) 19 = .ok (.invokevirtual 54, 3) := by decide +kernel
theorem e_S_addPaced_22 : decode (mB I_S_addPaced) 22 = .ok (.aload_n 0, 1) := by decide +kernel
theorem e_S_addPaced_23 : decode (mB I_S_addPaced) 23 = .ok (.getfield 18, 3) := by decide +kernel
theorem e_S_addPaced_26 : decode (mB I_S_addPaced) 26 = .ok (.aload_n 0, 1) := by decide +kernel
theorem e_S_addPaced_27 : decode (mB I_S_addPaced) 27 = .ok (.getfield 44, 3) := by decide +kernel
theorem e_S_addPaced_30 : decode (mB I_S_addPaced) 30 = .ok (.iconst 1, 1) := by decide +kernel
theorem e_S_addPaced_31 : decode (mB I_S_addPaced) 31 = .ok (.isub, 1) := by decide +kernel
theorem e_S_addPaced_32 : decode (mB I_S_addPaced) 32 = .ok (.iconst 1, 1) := by decide +kernel
theorem e_S_addPaced_33 : decode (mB I_S_addPaced) 33 = .ok (.bastore, 1) := by decide +kernel
theorem e_S_addPaced_34 : decode (mB I_S_addPaced) 34 = .ok (.aload_n 0, 1) := by decide +kernel
theorem e_S_addPaced_35 : decode (mB I_S_addPaced) 35 = .ok (.getfield 22, 3) := by decide +kernel
theorem e_S_addPaced_38 : decode (mB I_S_addPaced) 38 = .ok (.aload_n 0, 1) := by decide +kernel
theorem e_S_addPaced_39 : decode (mB I_S_addPaced) 39 = .ok (.getfield 44, 3) := by decide +kernel
theorem e_S_addPaced_42 : decode (mB I_S_addPaced) 42 = .ok (.iconst 1, 1) := by decide +kernel
theorem e_S_addPaced_43 : decode (mB I_S_addPaced) 43 = .ok (.isub, 1) := by decide +kernel
theorem e_S_addPaced_44 : decode (mB I_S_addPaced) 44 = .ok (.iload_n 3, 1) := by decide +kernel
theorem e_S_addPaced_45 : decode (mB I_S_addPaced) 45 = .ok (.iastore, 1) := by decide +kernel
theorem e_S_addPaced_46 : decode (mB I_S_addPaced) 46 = .ok (.return_, 1) := by decide +kernel
theorem e_S_canDrop_0 : decode (mB I_S_canDrop) 0 = .ok (.aload_n 0, 1) := by decide +kernel
theorem e_S_canDrop_1 : decode (mB I_S_canDrop) 1 = .ok (.getfield 18, 3) := by decide +kernel
theorem e_S_canDrop_4 : decode (mB I_S_canDrop) 4 = .ok (.iload_n 1, 1) := by decide +kernel
theorem e_S_canDrop_5 : decode (mB I_S_canDrop) 5 = .ok (.baload, 1) := by decide +kernel
theorem e_S_canDrop_6 : decode (mB I_S_canDrop) 6 = .ok (.ifCond .ne 18, 3) := by decide +kernel
theorem e_S_canDrop_9 : decode (mB I_S_canDrop) 9 = .ok (.aload_n 0, 1) := by decide +kernel
theorem e_S_canDrop_10 : decode (mB I_S_canDrop) 10 = .ok (.getfield 31, 3) := by decide +kernel
theorem e_S_canDrop_13 : decode (mB I_S_canDrop) 13 = .ok (.iload_n 1, 1) := by decide +kernel
theorem e_S_canDrop_14 : decode (mB I_S_canDrop) 14 = .ok (.iaload, 1) := by decide +kernel
theorem e_S_canDrop_15 : decode (mB I_S_canDrop) 15 = .ok (.bipush 9, 2) := by decide +kernel
theorem e_S_canDrop_17 : decode (mB I_S_canDrop) 17 = .ok (.if_icmp .ge 7, 3) := by decide +kernel
theorem e_S_canDrop_20 : decode (mB I_S_canDrop) 20 = .ok (.iconst 1, 1) := by decide +kernel
theorem e_S_canDrop_21 : decode (mB I_S_canDrop) 21 = .ok (.goto 4, 3) := by decide +kernel
theorem e_S_canDrop_24 : decode (mB I_S_canDrop) 24 = .ok (.iconst 0, 1) := by decide +kernel
theorem e_S_canDrop_25 : decode (mB I_S_canDrop) 25 = .ok (.ireturn, 1) := by decide +kernel
theorem e_S_canFind_0 : decode (mB I_S_canFind) 0 = .ok (.aload_n 0, 1) := by decide +kernel
theorem e_S_canFind_1 : decode (mB I_S_canFind) 1 = .ok (.getfield 31, 3) := by decide +kernel
theorem e_S_canFind_4 : decode (mB I_S_canFind) 4 = .ok (.iload_n 1, 1) := by decide +kernel
theorem e_S_canFind_5 : decode (mB I_S_canFind) 5 = .ok (.iaload, 1) := by decide +kernel
theorem e_S_canFind_6 : decode (mB I_S_canFind) 6 = .ok (.ifCond .le 7, 3) := by decide +kernel
theorem e_S_canFind_9 : decode (mB I_S_canFind) 9 = .ok (.iconst 1, 1) := by decide +kernel
theorem e_S_canFind_10 : decode (mB I_S_canFind) 10 = .ok (.goto 4, 3) := by decide +kernel
theorem e_S_canFind_13 : decode (mB I_S_canFind) 13 = .ok (.iconst 0, 1) := by decide +kernel
theorem e_S_canFind_14 : decode (mB I_S_canFind) 14 = .ok (.ireturn, 1) := by decide +kernel
theorem e_S_copyFrom_0 : decode (mB I_S_copyFrom) 0 = .ok (.aload_n 0, 1) := by decide +kernel
theorem e_S_copyFrom_1 : decode (mB I_S_copyFrom) 1 = .ok (.aload_n 1, 1) := by decide +kernel
theorem e_S_copyFrom_2 : decode (mB I_S_copyFrom) 2 = .ok (.getfield 44, 3) := by decide +kernel
theorem e_S_copyFrom_5 : decode (mB I_S_copyFrom) 5 = .ok (.putfield 44, 3) := by decide +kernel
theorem e_S_copyFrom_8 : decode (mB I_S_copyFrom) 8 = .ok (.aload_n 0, 1) := by decide +kernel
theorem e_S_copyFrom_9 : decode (mB I_S_copyFrom) 9 = .ok (.aload_n 1, 1) := by decide +kernel
theorem e_S_copyFrom_10 : decode (mB I_S_copyFrom) 10 = .ok (.getfield 51, 3) := by decide +kernel
theorem e_S_copyFrom_13 : decode (mB I_S_copyFrom) 13 = .ok (.putfield 51, 3) := by decide +kernel
theorem e_S_copyFrom_16 : decode (mB I_S_copyFrom) 16 = .ok (.aload_n 0, 1) := by decide +kernel
theorem e_S_copyFrom_17 : decode (mB I_S_copyFrom) 17 = .ok (.aload_n 1, 1) := by decide +kernel
theorem e_S_copyFrom_18 : decode (mB I_S_copyFrom) 18 = .ok (.getfield 40, 3) := by decide +kernel
theorem e_S_copyFrom_21 : decode (mB I_S_copyFrom) 21 = .ok (.putfield 40, 3) := by decide +kernel
theorem e_S_copyFrom_24 : decode (mB I_S_copyFrom) 24 = .ok (.aload_n 0, 1) := by decide +kernel
theorem e_S_copyFrom_25 : decode (mB I_S_copyFrom) 25 = .ok (.aload_n 1, 1) := by decide +kernel
theorem e_S_copyFrom_26 : decode (mB I_S_copyFrom) 26 = .ok (.getfield 47, 3) := by decide +kernel
theorem e_S_copyFrom_29 : decode (mB I_S_copyFrom) 29 = .ok (.putfield 47, 3) := by decide +kernel
theorem e_S_copyFrom_32 : decode (mB I_S_copyFrom) 32 = .ok (.iconst 0, 1) := by decide +kernel
theorem e_S_copyFrom_33 : decode (mB I_S_copyFrom) 33 = .ok (.istore_n 2, 1) := by decide +kernel
theorem e_S_copyFrom_34 : decode (mB I_S_copyFrom) 34 = .ok (.iload_n 2, 1) := by decide +kernel
theorem e_S_copyFrom_35 : decode (mB I_S_copyFrom) 35 = .ok (.bipush 20, 2) := by decide +kernel
theorem e_S_copyFrom_37 : decode (mB I_S_copyFrom) 37 = .ok (.if_icmp .ge 117, 3) := by decide +kernel
theorem e_S_copyFrom_40 : decode (mB I_S_copyFrom) 40 = .ok (.aload_n 0, 1) := by decide +kernel
theorem e_S_copyFrom_41 : decode (mB I_S_copyFrom) 41 = .ok (.getfield 9, 3) := by decide +kernel
theorem e_S_copyFrom_44 : decode (mB I_S_copyFrom) 44 = .ok (.iload_n 2, 1) := by decide +kernel
theorem e_S_copyFrom_45 : decode (mB I_S_copyFrom) 45 = .ok (.aload_n 1, 1) := by decide +kernel
theorem e_S_copyFrom_46 : decode (mB I_S_copyFrom) 46 = .ok (.getfield 9, 3) := by decide +kernel
theorem e_S_copyFrom_49 : decode (mB I_S_copyFrom) 49 = .ok (.iload_n 2, 1) := by decide +kernel
theorem e_S_copyFrom_50 : decode (mB I_S_copyFrom) 50 = .ok (.iaload, 1) := by decide +kernel
theorem e_S_copyFrom_51 : decode (mB I_S_copyFrom) 51 = .ok (.iastore, 1) := by decide +kernel
theorem e_S_copyFrom_52 : decode (mB I_S_copyFrom) 52 = .ok (.aload_n 0, 1) := by decide +kernel
theorem e_S_copyFrom_53 : decode (mB I_S_copyFrom) 53 = .ok (.getfield 15, 3) := by decide +kernel
theorem e_S_copyFrom_56 : decode (mB I_S_copyFrom) 56 = .ok (.iload_n 2, 1) := by decide +kernel
theorem e_S_copyFrom_57 : decode (mB I_S_copyFrom) 57 = .ok (.aload_n 1, 1) := by decide +kernel
theorem e_S_copyFrom_58 : decode (mB I_S_copyFrom) 58 = .ok (.getfield 15, 3) := by decide +kernel
theorem e_S_copyFrom_61 : decode (mB I_S_copyFrom) 61 = .ok (.iload_n 2, 1) := by decide +kernel
theorem e_S_copyFrom_62 : decode (mB I_S_copyFrom) 62 = .ok (.iaload, 1) := by decide +kernel
theorem e_S_copyFrom_63 : decode (mB I_S_copyFrom) 63 = .ok (.iastore, 1) := by decide +kernel
theorem e_S_copyFrom_64 : decode (mB I_S_copyFrom) 64 = .ok (.aload_n 0, 1) := by decide +kernel
theorem e_S_copyFrom_65 : decode (mB I_S_copyFrom) 65 = .ok (.getfield 18, 3) := by decide +kernel
theorem e_S_copyFrom_68 : decode (mB I_S_copyFrom) 68 = .ok (.iload_n 2, 1) := by decide +kernel
theorem e_S_copyFrom_69 : decode (mB I_S_copyFrom) 69 = .ok (.aload_n 1, 1) := by decide +kernel
theorem e_S_copyFrom_70 : decode (mB I_S_copyFrom) 70 = .ok (.getfield 18, 3) := by decide +kernel
theorem e_S_copyFrom_73 : decode (mB I_S_copyFrom) 73 = .ok (.iload_n 2, 1) := by decide +kernel
theorem e_S_copyFrom_74 : decode (mB I_S_copyFrom) 74 = .ok (.baload, 1) := by decide +kernel
theorem e_S_copyFrom_75 : decode (mB I_S_copyFrom) 75 = .ok (.bastore, 1) := by decide +kernel
theorem e_S_copyFrom_76 : decode (mB I_S_copyFrom) 76 = .ok (.aload_n 0, 1) := by decide +kernel
theorem e_S_copyFrom_77 : decode (mB I_S_copyFrom) 77 = .ok (.getfield 22, 3) := by decide +kernel
theorem e_S_copyFrom_80 : decode (mB I_S_copyFrom) 80 = .ok (.iload_n 2, 1) := by decide +kernel
theorem e_S_copyFrom_81 : decode (mB I_S_copyFrom) 81 = .ok (.aload_n 1, 1) := by decide +kernel
theorem e_S_copyFrom_82 : decode (mB I_S_copyFrom) 82 = .ok (.getfield 22, 3) := by decide +kernel
theorem e_S_copyFrom_85 : decode (mB I_S_copyFrom) 85 = .ok (.iload_n 2, 1) := by decide +kernel
theorem e_S_copyFrom_86 : decode (mB I_S_copyFrom) 86 = .ok (.iaload, 1) := by decide +kernel
theorem e_S_copyFrom_87 : decode (mB I_S_copyFrom) 87 = .ok (.iastore, 1) := by decide +kernel
theorem e_S_copyFrom_88 : decode (mB I_S_copyFrom) 88 = .ok (.aload_n 0, 1) := by decide +kernel
theorem e_S_copyFrom_89 : decode (mB I_S_copyFrom) 89 = .ok (.getfield 25, 3) := by decide +kernel
theorem e_S_copyFrom_92 : decode (mB I_S_copyFrom) 92 = .ok (.iload_n 2, 1) := by decide +kernel
theorem e_S_copyFrom_93 : decode (mB I_S_copyFrom) 93 = .ok (.aload_n 1, 1) := by decide +kernel
theorem e_S_copyFrom_94 : decode (mB I_S_copyFrom) 94 = .ok (.getfield 25, 3) := by decide +kernel
theorem e_S_copyFrom_97 : decode (mB I_S_copyFrom) 97 = .ok (.iload_n 2, 1) := by decide +kernel
theorem e_S_copyFrom_98 : decode (mB I_S_copyFrom) 98 = .ok (.iaload, 1) := by decide +kernel
theorem e_S_copyFrom_99 : decode (mB I_S_copyFrom) 99 = .ok (.iastore, 1) := by decide +kernel
theorem e_S_copyFrom_100 : decode (mB I_S_copyFrom) 100 = .ok (.aload_n 0, 1) := by decide +kernel
theorem e_S_copyFrom_101 : decode (mB I_S_copyFrom) 101 = .ok (.getfield 28, 3) := by decide +kernel
theorem e_S_copyFrom_104 : decode (mB I_S_copyFrom) 104 = .ok (.iload_n 2, 1) := by decide +kernel
theorem e_S_copyFrom_105 : decode (mB I_S_copyFrom) 105 = .ok (.aload_n 1, 1) := by decide +kernel
theorem e_S_copyFrom_106 : decode (mB I_S_copyFrom) 106 = .ok (.getfield 28, 3) := by decide +kernel
theorem e_S_copyFrom_109 : decode (mB I_S_copyFrom) 109 = .ok (.iload_n 2, 1) := by decide +kernel
theorem e_S_copyFrom_110 : decode (mB I_S_copyFrom) 110 = .ok (.iaload, 1) := by decide +kernel
theorem e_S_copyFrom_111 : decode (mB I_S_copyFrom) 111 = .ok (.iastore, 1) := by decide +kernel
theorem e_S_copyFrom_112 : decode (mB I_S_copyFrom) 112 = .ok (.aload_n 0, 1) := by decide +kernel
theorem e_S_copyFrom_113 : decode (mB I_S_copyFrom) 113 = .ok (.getfield 31, 3) := by decide +kernel
theorem e_S_copyFrom_116 : decode (mB I_S_copyFrom) 116 = .ok (.iload_n 2, 1) := by decide +kernel
theorem e_S_copyFrom_117 : decode (mB I_S_copyFrom) 117 = .ok (.aload_n 1, 1) := by decide +kernel
theorem e_S_copyFrom_118 : decode (mB I_S_copyFrom) 118 = .ok (.getfield 31, 3) := by decide +kernel
theorem e_S_copyFrom_121 : decode (mB I_S_copyFrom) 121 = .ok (.iload_n 2, 1) := by decide +kernel
theorem e_S_copyFrom_122 : decode (mB I_S_copyFrom) 122 = .ok (.iaload, 1) := by decide +kernel
theorem e_S_copyFrom_123 : decode (mB I_S_copyFrom) 123 = .ok (.iastore, 1) := by decide +kernel
theorem e_S_copyFrom_124 : decode (mB I_S_copyFrom) 124 = .ok (.aload_n 0, 1) := by decide +kernel
theorem e_S_copyFrom_125 : decode (mB I_S_copyFrom) 125 = .ok (.getfield 34, 3) := by decide +kernel
theorem e_S_copyFrom_128 : decode (mB I_S_copyFrom) 128 = .ok (.iload_n 2, 1) := by decide +kernel
theorem e_S_copyFrom_129 : decode (mB I_S_copyFrom) 129 = .ok (.aload_n 1, 1) := by decide +kernel
theorem e_S_copyFrom_130 : decode (mB I_S_copyFrom) 130 = .ok (.getfield 34, 3) := by decide +kernel
theorem e_S_copyFrom_133 : decode (mB I_S_copyFrom) 133 = .ok (.iload_n 2, 1) := by decide +kernel
theorem e_S_copyFrom_134 : decode (mB I_S_copyFrom) 134 = .ok (.iaload, 1) := by decide +kernel
theorem e_S_copyFrom_135 : decode (mB I_S_copyFrom) 135 = .ok (.iastore, 1) := by decide +kernel
theorem e_S_copyFrom_136 : decode (mB I_S_copyFrom) 136 = .ok (.aload_n 0, 1) := by decide +kernel
theorem e_S_copyFrom_137 : decode (mB I_S_copyFrom) 137 = .ok (.getfield 37, 3) := by decide +kernel
theorem e_S_copyFrom_140 : decode (mB I_S_copyFrom) 140 = .ok (.iload_n 2, 1) := by decide +kernel
theorem e_S_copyFrom_141 : decode (mB I_S_copyFrom) 141 = .ok (.aload_n 1, 1) := by decide +kernel
theorem e_S_copyFrom_142 : decode (mB I_S_copyFrom) 142 = .ok (.getfield 37, 3) := by decide +kernel
theorem e_S_copyFrom_145 : decode (mB I_S_copyFrom) 145 = .ok (.iload_n 2, 1) := by decide +kernel
theorem e_S_copyFrom_146 : decode (mB I_S_copyFrom) 146 = .ok (.iaload, 1) := by decide +kernel
theorem e_S_copyFrom_147 : decode (mB I_S_copyFrom) 147 = .ok (.iastore, 1) := by decide +kernel
theorem e_S_copyFrom_148 : decode (mB I_S_copyFrom) 148 = .ok (.iinc 2 1, 3) := by decide +kernel
theorem e_S_copyFrom_151 : decode (mB I_S_copyFrom) 151 = .ok (.goto (-117), 3) := by decide +kernel
theorem e_S_copyFrom_154 : decode (mB I_S_copyFrom) 154 = .ok (.return_, 1) := by decide +kernel
theorem e_S_hasBog_0 : decode (mB I_S_hasBog) 0 = .ok (.iconst 0, 1) := by decide +kernel
theorem e_S_hasBog_1 : decode (mB I_S_hasBog) 1 = .ok (.istore_n 1, 1) := by decide +kernel
theorem e_S_hasBog_2 : decode (mB I_S_hasBog) 2 = .ok (.iload_n 1, 1) := by decide +kernel
theorem e_S_hasBog_3 : decode (mB I_S_hasBog) 3 = .ok (.aload_n 0, 1) := by decide +kernel
theorem e_S_hasBog_4 : decode (mB I_S_hasBog) 4 = .ok (.getfield 44, 3) := by decide +kernel
theorem e_S_hasBog_7 : decode (mB I_S_hasBog) 7 = .ok (.if_icmp .ge 20, 3) := by decide +kernel
theorem e_S_hasBog_10 : decode (mB I_S_hasBog) 10 = .ok (.aload_n 0, 1) := by decide +kernel
theorem e_S_hasBog_11 : decode (mB I_S_hasBog) 11 = .ok (.getfield 18, 3) := by decide +kernel
theorem e_S_hasBog_14 : decode (mB I_S_hasBog) 14 = .ok (.iload_n 1, 1) := by decide +kernel
theorem e_S_hasBog_15 : decode (mB I_S_hasBog) 15 = .ok (.baload, 1) := by decide +kernel
theorem e_S_hasBog_16 : decode (mB I_S_hasBog) 16 = .ok (.ifCond .eq 5, 3) := by decide +kernel
theorem e_S_hasBog_19 : decode (mB I_S_hasBog) 19 = .ok (.iconst 1, 1) := by decide +kernel
theorem e_S_hasBog_20 : decode (mB I_S_hasBog) 20 = .ok (.ireturn, 1) := by decide +kernel
theorem e_S_hasBog_21 : decode (mB I_S_hasBog) 21 = .ok (.iinc 1 1, 3) := by decide +kernel
theorem e_S_hasBog_24 : decode (mB I_S_hasBog) 24 = .ok (.goto (-22), 3) := by decide +kernel
theorem e_S_hasBog_27 : decode (mB I_S_hasBog) 27 = .ok (.iconst 0, 1) := by decide +kernel
theorem e_S_hasBog_28 : decode (mB I_S_hasBog) 28 = .ok (.ireturn, 1) := by decide +kernel
theorem e_S_readUnits_0 : decode (mB I_S_readUnits) 0 = .ok (.aload_n 0, 1) := by decide +kernel
theorem e_S_readUnits_1 : decode (mB I_S_readUnits) 1 = .ok (.getfield 18, 3) := by decide +kernel
theorem e_S_readUnits_4 : decode (mB I_S_readUnits) 4 = .ok (.iload_n 1, 1) := by decide +kernel
theorem e_S_readUnits_5 : decode (mB I_S_readUnits) 5 = .ok (.baload, 1) := by decide +kernel
theorem e_S_readUnits_6 : decode (mB I_S_readUnits) 6 = .ok (.ifCond .eq 15, 3) := by decide +kernel
theorem e_S_readUnits_9 : decode (mB I_S_readUnits) 9 = .ok (.aload_n 0, 1) := by decide +kernel
theorem e_S_readUnits_10 : decode (mB I_S_readUnits) 10 = .ok (.getfield 22, 3) := by decide +kernel
theorem e_S_readUnits_13 : decode (mB I_S_readUnits) 13 = .ok (.iload_n 1, 1) := by decide +kernel
theorem e_S_readUnits_14 : decode (mB I_S_readUnits) 14 = .ok (.iaload, 1) := by decide +kernel
theorem e_S_readUnits_15 : decode (mB I_S_readUnits) 15 = .ok (.aload_n 0, 1) := by decide +kernel
theorem e_S_readUnits_16 : decode (mB I_S_readUnits) 16 = .ok (.getfield 40, 3) := by decide +kernel
theorem e_S_readUnits_19 : decode (mB I_S_readUnits) 19 = .ok (.imul, 1) := by decide +kernel
theorem e_S_readUnits_20 : decode (mB I_S_readUnits) 20 = .ok (.ireturn, 1) := by decide +kernel
theorem e_S_readUnits_21 : decode (mB I_S_readUnits) 21 = .ok (.aload_n 0, 1) := by decide +kernel
theorem e_S_readUnits_22 : decode (mB I_S_readUnits) 22 = .ok (.getfield 25, 3) := by decide +kernel
theorem e_S_readUnits_25 : decode (mB I_S_readUnits) 25 = .ok (.iload_n 1, 1) := by decide +kernel
theorem e_S_readUnits_26 : decode (mB I_S_readUnits) 26 = .ok (.iaload, 1) := by decide +kernel
theorem e_S_readUnits_27 : decode (mB I_S_readUnits) 27 = .ok (.aload_n 0, 1) := by decide +kernel
theorem e_S_readUnits_28 : decode (mB I_S_readUnits) 28 = .ok (.getfield 31, 3) := by decide +kernel
theorem e_S_readUnits_31 : decode (mB I_S_readUnits) 31 = .ok (.iload_n 1, 1) := by decide +kernel
theorem e_S_readUnits_32 : decode (mB I_S_readUnits) 32 = .ok (.iaload, 1) := by decide +kernel
theorem e_S_readUnits_33 : decode (mB I_S_readUnits) 33 = .ok (.iadd, 1) := by decide +kernel
theorem e_S_readUnits_34 : decode (mB I_S_readUnits) 34 = .ok (.sipush 10000, 3) := by decide +kernel
theorem e_S_readUnits_37 : decode (mB I_S_readUnits) 37 = .ok (.imul, 1) := by decide +kernel
theorem e_S_readUnits_38 : decode (mB I_S_readUnits) 38 = .ok (.aload_n 0, 1) := by decide +kernel
theorem e_S_readUnits_39 : decode (mB I_S_readUnits) 39 = .ok (.getfield 28, 3) := by decide +kernel
theorem e_S_readUnits_42 : decode (mB I_S_readUnits) 42 = .ok (.iload_n 1, 1) := by decide +kernel
theorem e_S_readUnits_43 : decode (mB I_S_readUnits) 43 = .ok (.iaload, 1) := by decide +kernel
theorem e_S_readUnits_44 : decode (mB I_S_readUnits) 44 = .ok (.bipush 100, 2) := by decide +kernel
theorem e_S_readUnits_46 : decode (mB I_S_readUnits) 46 = .ok (.imul, 1) := by decide +kernel
theorem e_S_readUnits_47 : decode (mB I_S_readUnits) 47 = .ok (.iadd, 1) := by decide +kernel
theorem e_S_readUnits_48 : decode (mB I_S_readUnits) 48 = .ok (.ireturn, 1) := by decide +kernel
theorem e_S_slopeUnits_0 : decode (mB I_S_slopeUnits) 0 = .ok (.aload_n 0, 1) := by decide +kernel
theorem e_S_slopeUnits_1 : decode (mB I_S_slopeUnits) 1 = .ok (.iload_n 1, 1) := by decide +kernel
theorem e_S_slopeUnits_2 : decode (mB I_S_slopeUnits) 2 = .ok (.invokevirtual 58, 3) := by decide +kernel
theorem e_S_slopeUnits_5 : decode (mB I_S_slopeUnits) 5 = .ok (.i2l, 1) := by decide +kernel
theorem e_S_slopeUnits_6 : decode (mB I_S_slopeUnits) 6 = .ok (.lstore_n 2, 1) := by decide +kernel
theorem e_S_slopeUnits_7 : decode (mB I_S_slopeUnits) 7 = .ok (.aload_n 0, 1) := by decide +kernel
theorem e_S_slopeUnits_8 : decode (mB I_S_slopeUnits) 8 = .ok (.getfield 18, 3) := by decide +kernel
theorem e_S_slopeUnits_11 : decode (mB I_S_slopeUnits) 11 = .ok (.iload_n 1, 1) := by decide +kernel
theorem e_S_slopeUnits_12 : decode (mB I_S_slopeUnits) 12 = .ok (.baload, 1) := by decide +kernel
theorem e_S_slopeUnits_13 : decode (mB I_S_slopeUnits) 13 = .ok (.ifCond .ne 40, 3) := by decide +kernel
theorem e_S_slopeUnits_16 : decode (mB I_S_slopeUnits) 16 = .ok (.lload_n 2, 1) := by decide +kernel
theorem e_S_slopeUnits_17 : decode (mB I_S_slopeUnits) 17 = .ok (.lload_n 2, 1) := by decide +kernel
theorem e_S_slopeUnits_18 : decode (mB I_S_slopeUnits) 18 = .ok (.aload_n 0, 1) := by decide +kernel
theorem e_S_slopeUnits_19 : decode (mB I_S_slopeUnits) 19 = .ok (.getfield 51, 3) := by decide +kernel
theorem e_S_slopeUnits_22 : decode (mB I_S_slopeUnits) 22 = .ok (.i2l, 1) := by decide +kernel
theorem e_S_slopeUnits_23 : decode (mB I_S_slopeUnits) 23 = .ok (.lmul, 1) := by decide +kernel
theorem e_S_slopeUnits_24 : decode (mB I_S_slopeUnits) 24 = .ok (.ldc2_w 62, 3) := by decide +kernel
theorem e_S_slopeUnits_27 : decode (mB I_S_slopeUnits) 27 = .ok (.ldiv, 1) := by decide +kernel
theorem e_S_slopeUnits_28 : decode (mB I_S_slopeUnits) 28 = .ok (.ladd, 1) := by decide +kernel
theorem e_S_slopeUnits_29 : decode (mB I_S_slopeUnits) 29 = .ok (.lstore_n 2, 1) := by decide +kernel
theorem e_S_slopeUnits_30 : decode (mB I_S_slopeUnits) 30 = .ok (.lload_n 2, 1) := by decide +kernel
theorem e_S_slopeUnits_31 : decode (mB I_S_slopeUnits) 31 = .ok (.lload_n 2, 1) := by decide +kernel
theorem e_S_slopeUnits_32 : decode (mB I_S_slopeUnits) 32 = .ok (.aload_n 0, 1) := by decide +kernel
theorem e_S_slopeUnits_33 : decode (mB I_S_slopeUnits) 33 = .ok (.getfield 37, 3) := by decide +kernel
theorem e_S_slopeUnits_36 : decode (mB I_S_slopeUnits) 36 = .ok (.iload_n 1, 1) := by decide +kernel
theorem e_S_slopeUnits_37 : decode (mB I_S_slopeUnits) 37 = .ok (.iaload, 1) := by decide +kernel
theorem e_S_slopeUnits_38 : decode (mB I_S_slopeUnits) 38 = .ok (.bipush 15, 2) := by decide +kernel
theorem e_S_slopeUnits_40 : decode (mB I_S_slopeUnits) 40 = .ok (.isub, 1) := by decide +kernel
theorem e_S_slopeUnits_41 : decode (mB I_S_slopeUnits) 41 = .ok (.i2l, 1) := by decide +kernel
theorem e_S_slopeUnits_42 : decode (mB I_S_slopeUnits) 42 = .ok (.lmul, 1) := by decide +kernel
theorem e_S_slopeUnits_43 : decode (mB I_S_slopeUnits) 43 = .ok (.ldc2_w 64, 3) := by decide +kernel
theorem e_S_slopeUnits_46 : decode (mB I_S_slopeUnits) 46 = .ok (.lmul, 1) := by decide +kernel
theorem e_S_slopeUnits_47 : decode (mB I_S_slopeUnits) 47 = .ok (.ldc2_w 66, 3) := by decide +kernel
theorem e_S_slopeUnits_50 : decode (mB I_S_slopeUnits) 50 = .ok (.ldiv, 1) := by decide +kernel
theorem e_S_slopeUnits_51 : decode (mB I_S_slopeUnits) 51 = .ok (.ladd, 1) := by decide +kernel
theorem e_S_slopeUnits_52 : decode (mB I_S_slopeUnits) 52 = .ok (.lstore_n 2, 1) := by decide +kernel
theorem e_S_slopeUnits_53 : decode (mB I_S_slopeUnits) 53 = .ok (.lload_n 2, 1) := by decide +kernel
theorem e_S_slopeUnits_54 : decode (mB I_S_slopeUnits) 54 = .ok (.l2i, 1) := by decide +kernel
theorem e_S_slopeUnits_55 : decode (mB I_S_slopeUnits) 55 = .ok (.ireturn, 1) := by decide +kernel
theorem e_S_horizontalUnits_0 : decode (mB I_S_horizontalUnits) 0 = .ok (.aload_n 0, 1) := by decide +kernel
theorem e_S_horizontalUnits_1 : decode (mB I_S_horizontalUnits) 1 = .ok (.iload_n 1, 1) := by decide +kernel
theorem e_S_horizontalUnits_2 : decode (mB I_S_horizontalUnits) 2 = .ok (.invokevirtual 68, 3) := by decide +kernel
theorem e_S_horizontalUnits_5 : decode (mB I_S_horizontalUnits) 5 = .ok (.istore_n 2, 1) := by decide +kernel
theorem e_S_horizontalUnits_6 : decode (mB I_S_horizontalUnits) 6 = .ok (.aload_n 0, 1) := by decide +kernel
theorem e_S_horizontalUnits_7 : decode (mB I_S_horizontalUnits) 7 = .ok (.getfield 34, 3) := by decide +kernel
theorem e_S_horizontalUnits_10 : decode (mB I_S_horizontalUnits) 10 = .ok (.iload_n 1, 1) := by decide +kernel
theorem e_S_horizontalUnits_11 : decode (mB I_S_horizontalUnits) 11 = .ok (.iaload, 1) := by decide +kernel
theorem e_S_horizontalUnits_12 : decode (mB I_S_horizontalUnits) 12 = .ok (.ifCond .ne 5, 3) := by decide +kernel
theorem e_S_horizontalUnits_15 : decode (mB I_S_horizontalUnits) 15 = .ok (.iload_n 2, 1) := by decide +kernel
theorem e_S_horizontalUnits_16 : decode (mB I_S_horizontalUnits) 16 = .ok (.ireturn, 1) := by decide +kernel
theorem e_S_horizontalUnits_17 : decode (mB I_S_horizontalUnits) 17 = .ok (.aload_n 0, 1) := by decide +kernel
theorem e_S_horizontalUnits_18 : decode (mB I_S_horizontalUnits) 18 = .ok (.getfield 34, 3) := by decide +kernel
theorem e_S_horizontalUnits_21 : decode (mB I_S_horizontalUnits) 21 = .ok (.iload_n 1, 1) := by decide +kernel
theorem e_S_horizontalUnits_22 : decode (mB I_S_horizontalUnits) 22 = .ok (.iaload, 1) := by decide +kernel
theorem e_S_horizontalUnits_23 : decode (mB I_S_horizontalUnits) 23 = .ok (.bipush 100, 2) := by decide +kernel
theorem e_S_horizontalUnits_25 : decode (mB I_S_horizontalUnits) 25 = .ok (.imul, 1) := by decide +kernel
theorem e_S_horizontalUnits_26 : decode (mB I_S_horizontalUnits) 26 = .ok (.i2l, 1) := by decide +kernel
theorem e_S_horizontalUnits_27 : decode (mB I_S_horizontalUnits) 27 = .ok (.lstore_n 3, 1) := by decide +kernel
theorem e_S_horizontalUnits_28 : decode (mB I_S_horizontalUnits) 28 = .ok (.lload_n 3, 1) := by decide +kernel
theorem e_S_horizontalUnits_29 : decode (mB I_S_horizontalUnits) 29 = .ok (.iload_n 2, 1) := by decide +kernel
theorem e_S_horizontalUnits_30 : decode (mB I_S_horizontalUnits) 30 = .ok (.i2l, 1) := by decide +kernel
theorem e_S_horizontalUnits_31 : decode (mB I_S_horizontalUnits) 31 = .ok (.lcmp, 1) := by decide +kernel
theorem e_S_horizontalUnits_32 : decode (mB I_S_horizontalUnits) 32 = .ok (.ifCond .le 7, 3) := by decide +kernel
theorem e_S_horizontalUnits_35 : decode (mB I_S_horizontalUnits) 35 = .ok (.iconst 0, 1) := by decide +kernel
theorem e_S_horizontalUnits_36 : decode (mB I_S_horizontalUnits) 36 = .ok (.goto 15, 3) := by decide +kernel
theorem e_S_horizontalUnits_39 : decode (mB I_S_horizontalUnits) 39 = .ok (.iload_n 2, 1) := by decide +kernel
theorem e_S_horizontalUnits_40 : decode (mB I_S_horizontalUnits) 40 = .ok (.i2l, 1) := by decide +kernel
theorem e_S_horizontalUnits_41 : decode (mB I_S_horizontalUnits) 41 = .ok (.iload_n 2, 1) := by decide +kernel
theorem e_S_horizontalUnits_42 : decode (mB I_S_horizontalUnits) 42 = .ok (.i2l, 1) := by decide +kernel
theorem e_S_horizontalUnits_43 : decode (mB I_S_horizontalUnits) 43 = .ok (.lmul, 1) := by decide +kernel
theorem e_S_horizontalUnits_44 : decode (mB I_S_horizontalUnits) 44 = .ok (.lload_n 3, 1) := by decide +kernel
theorem e_S_horizontalUnits_45 : decode (mB I_S_horizontalUnits) 45 = .ok (.lload_n 3, 1) := by decide +kernel
theorem e_S_horizontalUnits_46 : decode (mB I_S_horizontalUnits) 46 = .ok (.lmul, 1) := by decide +kernel
theorem e_S_horizontalUnits_47 : decode (mB I_S_horizontalUnits) 47 = .ok (.lsub, 1) := by decide +kernel
theorem e_S_horizontalUnits_48 : decode (mB I_S_horizontalUnits) 48 = .ok (.invokestatic 71, 3) := by decide +kernel
theorem e_S_horizontalUnits_51 : decode (mB I_S_horizontalUnits) 51 = .ok (.ireturn, 1) := by decide +kernel
