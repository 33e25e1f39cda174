/-! decoded instructions -/
theorem e_M_thrown_0 : decode (mB I_M_thrown) 0 = .ok (.aload_n 0, 1) := by decide +kernel
theorem e_M_thrown_1 : decode (mB I_M_thrown) 1 = .ok (.getfield 79, 3) := by decide +kernel
theorem e_M_thrown_4 : decode (mB I_M_thrown) 4 = .ok (.ireturn, 1) := by decide +kernel
theorem e_M_fails_0 : decode (mB I_M_fails) 0 = .ok (.aload_n 0, 1) := by decide +kernel
theorem e_M_fails_1 : decode (mB I_M_fails) 1 = .ok (.iload_n 1, 1) := by decide +kernel
theorem e_M_fails_2 : decode (mB I_M_fails) 2 = .ok (.ifCond .eq 7, 3) := by decide +kernel
theorem e_M_fails_5 : decode (mB I_M_fails) 5 = .ok (.iconst 1, 1) := by decide +kernel
theorem e_M_fails_6 : decode (mB I_M_fails) 6 = .ok (.goto 20, 3) := by decide +kernel
theorem e_M_fails_9 : decode (mB I_M_fails) 9 = .ok (.iload_n 2, 1) := by decide +kernel
theorem e_M_fails_10 : decode (mB I_M_fails) 10 = .ok (.ifCond .eq 7, 3) := by decide +kernel
theorem e_M_fails_13 : decode (mB I_M_fails) 13 = .ok (.iconst 2, 1) := by decide +kernel
theorem e_M_fails_14 : decode (mB I_M_fails) 14 = .ok (.goto 12, 3) := by decide +kernel
theorem e_M_fails_17 : decode (mB I_M_fails) 17 = .ok (.iload_n 3, 1) := by decide +kernel
theorem e_M_fails_18 : decode (mB I_M_fails) 18 = .ok (.ifCond .eq 7, 3) := by decide +kernel
theorem e_M_fails_21 : decode (mB I_M_fails) 21 = .ok (.iconst 3, 1) := by decide +kernel
theorem e_M_fails_22 : decode (mB I_M_fails) 22 = .ok (.goto 4, 3) := by decide +kernel
theorem e_M_fails_25 : decode (mB I_M_fails) 25 = .ok (.iconst 0, 1) := by decide +kernel
theorem e_M_fails_26 : decode (mB I_M_fails) 26 = .ok (.putfield 79, 3) := by decide +kernel
theorem e_M_fails_29 : decode (mB I_M_fails) 29 = .ok (.aload_n 0, 1) := by decide +kernel
theorem e_M_fails_30 : decode (mB I_M_fails) 30 = .ok (.getfield 79, 3) := by decide +kernel
theorem e_M_fails_33 : decode (mB I_M_fails) 33 = .ok (.ifCond .le 7, 3) := by decide +kernel
theorem e_M_fails_36 : decode (mB I_M_fails) 36 = .ok (.iconst 1, 1) := by decide +kernel
theorem e_M_fails_37 : decode (mB I_M_fails) 37 = .ok (.goto 4, 3) := by decide +kernel
theorem e_M_fails_40 : decode (mB I_M_fails) 40 = .ok (.iconst 0, 1) := by decide +kernel
theorem e_M_fails_41 : decode (mB I_M_fails) 41 = .ok (.ireturn, 1) := by decide +kernel
theorem e_M_told_0 : decode (mB I_M_told) 0 = .ok (.aload_n 0, 1) := by decide +kernel
theorem e_M_told_1 : decode (mB I_M_told) 1 = .ok (.iconst 0, 1) := by decide +kernel
theorem e_M_told_2 : decode (mB I_M_told) 2 = .ok (.putfield 79, 3) := by decide +kernel
theorem e_M_told_5 : decode (mB I_M_told) 5 = .ok (.iload_n 1, 1) := by decide +kernel
theorem e_M_told_6 : decode (mB I_M_told) 6 = .ok (.ireturn, 1) := by decide +kernel
theorem e_M_isIn_0 : decode (mB I_M_isIn) 0 = .ok (.iload_n 0, 1) := by decide +kernel
theorem e_M_isIn_1 : decode (mB I_M_isIn) 1 = .ok (.iload_n 1, 1) := by decide +kernel
theorem e_M_isIn_2 : decode (mB I_M_isIn) 2 = .ok (.if_icmp .lt 12, 3) := by decide +kernel
theorem e_M_isIn_5 : decode (mB I_M_isIn) 5 = .ok (.iload_n 0, 1) := by decide +kernel
theorem e_M_isIn_6 : decode (mB I_M_isIn) 6 = .ok (.iload_n 2, 1) := by decide +kernel
theorem e_M_isIn_7 : decode (mB I_M_isIn) 7 = .ok (.if_icmp .gt 7, 3) := by decide +kernel
theorem e_M_isIn_10 : decode (mB I_M_isIn) 10 = .ok (.iconst 1, 1) := by decide +kernel
theorem e_M_isIn_11 : decode (mB I_M_isIn) 11 = .ok (.goto 4, 3) := by decide +kernel
theorem e_M_isIn_14 : decode (mB I_M_isIn) 14 = .ok (.iconst 0, 1) := by decide +kernel
theorem e_M_isIn_15 : decode (mB I_M_isIn) 15 = .ok (.ireturn, 1) := by decide +kernel
theorem e_M_copy_0 : decode (mB I_M_copy) 0 = .ok (.aload_n 0, 1) := by decide +kernel
theorem e_M_copy_1 : decode (mB I_M_copy) 1 = .ok (.iload_n 1, 1) := by decide +kernel
theorem e_M_copy_2 : decode (mB I_M_copy) 2 = .ok (.aload_n 2, 1) := by decide +kernel
theorem e_M_copy_3 : decode (mB I_M_copy) 3 = .ok (.iload_n 3, 1) := by decide +kernel
theorem e_M_copy_4 : decode (mB I_M_copy) 4 = .ok (.sipush 284, 3) := by decide +kernel
theorem e_M_copy_7 : decode (mB I_M_copy) 7 = .ok (.invokestatic 82, 3) := by decide +kernel
theorem e_M_copy_10 : decode (mB I_M_copy) 10 = .ok (.return_, 1) := by decide +kernel
theorem e_M_remember_0 : decode (mB I_M_remember) 0 = .ok (.aload_n 0, 1) := by decide +kernel
theorem e_M_remember_1 : decode (mB I_M_remember) 1 = .ok (.getfield 76, 3) := by decide +kernel
theorem e_M_remember_4 : decode (mB I_M_remember) 4 = .ok (.bipush 8, 2) := by decide +kernel
theorem e_M_remember_6 : decode (mB I_M_remember) 6 = .ok (.if_icmp .ne 31, 3) := by decide +kernel
theorem e_M_remember_9 : decode (mB I_M_remember) 9 = .ok (.aload_n 0, 1) := by decide +kernel
theorem e_M_remember_10 : decode (mB I_M_remember) 10 = .ok (.getfield 16, 3) := by decide +kernel
theorem e_M_remember_13 : decode (mB I_M_remember) 13 = .ok (.sipush 284, 3) := by decide +kernel
theorem e_M_remember_16 : decode (mB I_M_remember) 16 = .ok (.aload_n 0, 1) := by decide +kernel
theorem e_M_remember_17 : decode (mB I_M_remember) 17 = .ok (.getfield 16, 3) := by decide +kernel
theorem e_M_remember_20 : decode (mB I_M_remember) 20 = .ok (.iconst 0, 1) := by decide +kernel
theorem e_M_remember_21 : decode (mB I_M_remember) 21 = .ok (.sipush 1988, 3) := by decide +kernel
theorem e_M_remember_24 : decode (mB I_M_remember) 24 = .ok (.invokestatic 82, 3) := by decide +kernel
theorem e_M_remember_27 : decode (mB I_M_remember) 27 = .ok (.aload_n 0, 1) := by decide +kernel
theorem e_M_remember_28 : decode (mB I_M_remember) 28 = .ok (.dup, 1) := by decide +kernel
theorem e_M_remember_29 : decode (mB I_M_remember) 29 = .ok (.getfield 76, 3) := by decide +kernel
theorem e_M_remember_32 : decode (mB I_M_remember) 32 = .ok (.iconst 1, 1) := by decide +kernel
theorem e_M_remember_33 : decode (mB I_M_remember) 33 = .ok (.isub, 1) := by decide +kernel
theorem e_M_remember_34 : decode (mB I_M_remember) 34 = .ok (.putfield 76, 3) := by decide +kernel
theorem e_M_remember_37 : decode (mB I_M_remember) 37 = .ok (.aload_n 1, 1) := by decide +kernel
theorem e_M_remember_38 : decode (mB I_M_remember) 38 = .ok (.iconst 0, 1) := by decide +kernel
theorem e_M_remember_39 : decode (mB I_M_remember) 39 = .ok (.aload_n 0, 1) := by decide +kernel
theorem e_M_remember_40 : decode (mB I_M_remember) 40 = .ok (.getfield 16, 3) := by decide +kernel
theorem e_M_remember_43 : decode (mB I_M_remember) 43 = .ok (.aload_n 0, 1) := by decide +kernel
theorem e_M_remember_44 : decode (mB I_M_remember) 44 = .ok (.getfield 76, 3) := by decide +kernel
theorem e_M_remember_47 : decode (mB I_M_remember) 47 = .ok (.sipush 284, 3) := by decide +kernel
theorem e_M_remember_50 : decode (mB I_M_remember) 50 = .ok (.imul, 1) := by decide +kernel
theorem e_M_remember_51 : decode (mB I_M_remember) 51 = .ok (.invokestatic 88, 3) := by decide +kernel
theorem e_M_remember_54 : decode (mB I_M_remember) 54 = .ok (.aload_n 0, 1) := by decide +kernel
theorem e_M_remember_55 : decode (mB I_M_remember) 55 = .ok (.dup, 1) := by decide +kernel
theorem e_M_remember_56 : decode (mB I_M_remember) 56 = .ok (.getfield 76, 3) := by decide +kernel
theorem e_M_remember_59 : decode (mB I_M_remember) 59 = .ok (.iconst 1, 1) := by decide +kernel
theorem e_M_remember_60 : decode (mB I_M_remember) 60 = .ok (.iadd, 1) := by decide +kernel
theorem e_M_remember_61 : decode (mB I_M_remember) 61 = .ok (.putfield 76, 3) := by decide +kernel
theorem e_M_remember_64 : decode (mB I_M_remember) 64 = .ok (.return_, 1) := by decide +kernel
theorem e_M_of_0 : decode (mB I_M_of) 0 = .ok (.aload_n 0, 1) := by decide +kernel
theorem e_M_of_1 : decode (mB I_M_of) 1 = .ok (.getfield 9, 3) := by decide +kernel
theorem e_M_of_4 : decode (mB I_M_of) 4 = .ok (.iconst 4, 1) := by decide +kernel
theorem e_M_of_5 : decode (mB I_M_of) 5 = .ok (.bipush 14, 2) := by decide +kernel
theorem e_M_of_7 : decode (mB I_M_of) 7 = .ok (.iload_n 1, 1) := by decide +kernel
theorem e_M_of_8 : decode (mB I_M_of) 8 = .ok (.imul, 1) := by decide +kernel
theorem e_M_of_9 : decode (mB I_M_of) 9 = .ok (.iadd, 1) := by decide +kernel
theorem e_M_of_10 : decode (mB I_M_of) 10 = .ok (.iload_n 2, 1) := by decide +kernel
theorem e_M_of_11 : decode (mB I_M_of) 11 = .ok (.iadd, 1) := by decide +kernel
theorem e_M_of_12 : decode (mB I_M_of) 12 = .ok (.iaload, 1) := by decide +kernel
theorem e_M_of_13 : decode (mB I_M_of) 13 = .ok (.ireturn, 1) := by decide +kernel
theorem e_M_put_0 : decode (mB I_M_put) 0 = .ok (.aload_n 0, 1) := by decide +kernel
theorem e_M_put_1 : decode (mB I_M_put) 1 = .ok (.getfield 9, 3) := by decide +kernel
theorem e_M_put_4 : decode (mB I_M_put) 4 = .ok (.iconst 4, 1) := by decide +kernel
theorem e_M_put_5 : decode (mB I_M_put) 5 = .ok (.bipush 14, 2) := by decide +kernel
theorem e_M_put_7 : decode (mB I_M_put) 7 = .ok (.iload_n 1, 1) := by decide +kernel
theorem e_M_put_8 : decode (mB I_M_put) 8 = .ok (.imul, 1) := by decide +kernel
theorem e_M_put_9 : decode (mB I_M_put) 9 = .ok (.iadd, 1) := by decide +kernel
theorem e_M_put_10 : decode (mB I_M_put) 10 = .ok (.iload_n 2, 1) := by decide +kernel
theorem e_M_put_11 : decode (mB I_M_put) 11 = .ok (.iadd, 1) := by decide +kernel
theorem e_M_put_12 : decode (mB I_M_put) 12 = .ok (.iload_n 3, 1) := by decide +kernel
theorem e_M_put_13 : decode (mB I_M_put) 13 = .ok (.iastore, 1) := by decide +kernel
theorem e_M_put_14 : decode (mB I_M_put) 14 = .ok (.return_, 1) := by decide +kernel
theorem e_M_noLeg_0 : decode (mB I_M_noLeg) 0 = .ok (.iload_n 1, 1) := by decide +kernel
theorem e_M_noLeg_1 : decode (mB I_M_noLeg) 1 = .ok (.iconst 0, 1) := by decide +kernel
theorem e_M_noLeg_2 : decode (mB I_M_noLeg) 2 = .ok (.aload_n 0, 1) := by decide +kernel
theorem e_M_noLeg_3 : decode (mB I_M_noLeg) 3 = .ok (.getfield 9, 3) := by decide +kernel
theorem e_M_noLeg_6 : decode (mB I_M_noLeg) 6 = .ok (.iconst 0, 1) := by decide +kernel
theorem e_M_noLeg_7 : decode (mB I_M_noLeg) 7 = .ok (.iaload, 1) := by decide +kernel
theorem e_M_noLeg_8 : decode (mB I_M_noLeg) 8 = .ok (.iconst 1, 1) := by decide +kernel
theorem e_M_noLeg_9 : decode (mB I_M_noLeg) 9 = .ok (.isub, 1) := by decide +kernel
theorem e_M_noLeg_10 : decode (mB I_M_noLeg) 10 = .ok (.invokestatic 92, 3) := by decide +kernel
theorem e_M_noLeg_13 : decode (mB I_M_noLeg) 13 = .ok (.ifCond .ne 7, 3) := by decide +kernel
theorem e_M_noLeg_16 : decode (mB I_M_noLeg) 16 = .ok (.iconst 1, 1) := by decide +kernel
theorem e_M_noLeg_17 : decode (mB I_M_noLeg) 17 = .ok (.goto 4, 3) := by decide +kernel
theorem e_M_noLeg_20 : decode (mB I_M_noLeg) 20 = .ok (.iconst 0, 1) := by decide +kernel
theorem e_M_noLeg_21 : decode (mB I_M_noLeg) 21 = .ok (.ireturn, 1) := by decide +kernel
theorem e_M_bog_0 : decode (mB I_M_bog) 0 = .ok (.aload_n 0, 1) := by decide +kernel
theorem e_M_bog_1 : decode (mB I_M_bog) 1 = .ok (.iload_n 1, 1) := by decide +kernel
theorem e_M_bog_2 : decode (mB I_M_bog) 2 = .ok (.bipush 6, 2) := by decide +kernel
theorem e_M_bog_4 : decode (mB I_M_bog) 4 = .ok (.invokevirtual 96, 3) := by decide +kernel
theorem e_M_bog_7 : decode (mB I_M_bog) 7 = .ok (.ifCond .le 7, 3) := by decide +kernel
theorem e_M_bog_10 : decode (mB I_M_bog) 10 = .ok (.iconst 1, 1) := by decide +kernel
theorem e_M_bog_11 : decode (mB I_M_bog) 11 = .ok (.goto 4, 3) := by decide +kernel
theorem e_M_bog_14 : decode (mB I_M_bog) 14 = .ok (.iconst 0, 1) := by decide +kernel
theorem e_M_bog_15 : decode (mB I_M_bog) 15 = .ok (.ireturn, 1) := by decide +kernel
theorem e_M_root_0 : decode (mB I_M_root) 0 = .ok (.lconst 0, 1) := by decide +kernel
theorem e_M_root_1 : decode (mB I_M_root) 1 = .ok (.lstore_n 2, 1) := by decide +kernel
theorem e_M_root_2 : decode (mB I_M_root) 2 = .ok (.ldc2_w 100, 3) := by decide +kernel
theorem e_M_root_5 : decode (mB I_M_root) 5 = .ok (.lstore 4, 2) := by decide +kernel
theorem e_M_root_7 : decode (mB I_M_root) 7 = .ok (.lload 4, 2) := by decide +kernel
theorem e_M_root_9 : decode (mB I_M_root) 9 = .ok (.lconst 0, 1) := by decide +kernel
theorem e_M_root_10 : decode (mB I_M_root) 10 = .ok (.lcmp, 1) := by decide +kernel
theorem e_M_root_11 : decode (mB I_M_root) 11 = .ok (.ifCond .le 31, 3) := by decide +kernel
theorem e_M_root_14 : decode (mB I_M_root) 14 = .ok (.lload_n 2, 1) := by decide +kernel
theorem e_M_root_15 : decode (mB I_M_root) 15 = .ok (.lload 4, 2) := by decide +kernel
theorem e_M_root_17 : decode (mB I_M_root) 17 = .ok (.ladd, 1) := by decide +kernel
theorem e_M_root_18 : decode (mB I_M_root) 18 = .ok (.lstore 6, 2) := by decide +kernel
theorem e_M_root_20 : decode (mB I_M_root) 20 = .ok (.lload 6, 2) := by decide +kernel
theorem e_M_root_22 : decode (mB I_M_root) 22 = .ok (.lload 6, 2) := by decide +kernel
theorem e_M_root_24 : decode (mB I_M_root) 24 = .ok (.lmul, 1) := by decide +kernel
theorem e_M_root_25 : decode (mB I_M_root) 25 = .ok (.lload_n 0, 1) := by decide +kernel
theorem e_M_root_26 : decode (mB I_M_root) 26 = .ok (.lcmp, 1) := by decide +kernel
theorem e_M_root_27 : decode (mB I_M_root) 27 = .ok (.ifCond .gt 6, 3) := by decide +kernel
theorem e_M_root_30 : decode (mB I_M_root) 30 = .ok (.lload 6, 2) := by decide +kernel
theorem e_M_root_32 : decode (mB I_M_root) 32 = .ok (.lstore_n 2, 1) := by decide +kernel
theorem e_M_root_33 : decode (mB I_M_root) 33 = .ok (.lload 4, 2) := by decide +kernel
theorem e_M_root_35 : decode (mB I_M_root) 35 = .ok (.iconst 1, 1) := by decide +kernel
theorem e_M_root_36 : decode (mB I_M_root) 36 = .ok (.lshr, 1) := by decide +kernel
theorem e_M_root_37 : decode (mB I_M_root) 37 = .ok (.lstore 4, 2) := by decide +kernel
theorem e_M_root_39 : decode (mB I_M_root) 39 = .ok (.goto (-32), 3) := by decide +kernel
theorem e_M_root_42 : decode (mB I_M_root) 42 = .ok (.lload_n 2, 1) := by decide +kernel
theorem e_M_root_43 : decode (mB I_M_root) 43 = .ok (.lreturn, 1) := by decide +kernel
theorem e_M_read_0 : decode (mB I_M_read) 0 = .ok (.aload_n 0, 1) := by decide +kernel
theorem e_M_read_1 : decode (mB I_M_read) 1 = .ok (.iload_n 1, 1) := by decide +kernel
theorem e_M_read_2 : decode (mB I_M_read) 2 = .ok (.invokevirtual 102, 3) := by decide +kernel
theorem e_M_read_5 : decode (mB I_M_read) 5 = .ok (.ifCond .eq 18, 3) := by decide +kernel
theorem e_M_read_8 : decode (mB I_M_read) 8 = .ok (.aload_n 0, 1) := by decide +kernel
theorem e_M_read_9 : decode (mB I_M_read) 9 = .ok (.iload_n 1, 1) := by decide +kernel
theorem e_M_read_10 : decode (mB I_M_read) 10 = .ok (.bipush 6, 2) := by decide +kernel
theorem e_M_read_12 : decode (mB I_M_read) 12 = .ok (.invokevirtual 96, 3) := by decide +kernel
theorem e_M_read_15 : decode (mB I_M_read) 15 = .ok (.aload_n 0, 1) := by decide +kernel
theorem e_M_read_16 : decode (mB I_M_read) 16 = .ok (.getfield 9, 3) := by decide +kernel
theorem e_M_read_19 : decode (mB I_M_read) 19 = .ok (.iconst 2, 1) := by decide +kernel
theorem e_M_read_20 : decode (mB I_M_read) 20 = .ok (.iaload, 1) := by decide +kernel
theorem e_M_read_21 : decode (mB I_M_read) 21 = .ok (.imul, 1) := by decide +kernel
theorem e_M_read_22 : decode (mB I_M_read) 22 = .ok (.ireturn, 1) := by decide +kernel
theorem e_M_read_23 : decode (mB I_M_read) 23 = .ok (.sipush 10000, 3) := by decide +kernel
theorem e_M_read_26 : decode (mB I_M_read) 26 = .ok (.aload_n 0, 1) := by decide +kernel
theorem e_M_read_27 : decode (mB I_M_read) 27 = .ok (.iload_n 1, 1) := by decide +kernel
theorem e_M_read_28 : decode (mB I_M_read) 28 = .ok (.iconst 1, 1) := by decide +kernel
theorem e_M_read_29 : decode (mB I_M_read) 29 = .ok (.invokevirtual 96, 3) := by decide +kernel
theorem e_M_read_32 : decode (mB I_M_read) 32 = .ok (.aload_n 0, 1) := by decide +kernel
theorem e_M_read_33 : decode (mB I_M_read) 33 = .ok (.iload_n 1, 1) := by decide +kernel
theorem e_M_read_34 : decode (mB I_M_read) 34 = .ok (.iconst 3, 1) := by decide +kernel
theorem e_M_read_35 : decode (mB I_M_read) 35 = .ok (.invokevirtual 96, 3) := by decide +kernel
theorem e_M_read_38 : decode (mB I_M_read) 38 = .ok (.iadd, 1) := by decide +kernel
theorem e_M_read_39 : decode (mB I_M_read) 39 = .ok (.imul, 1) := by decide +kernel
theorem e_M_read_40 : decode (mB I_M_read) 40 = .ok (.bipush 100, 2) := by decide +kernel
theorem e_M_read_42 : decode (mB I_M_read) 42 = .ok (.aload_n 0, 1) := by decide +kernel
theorem e_M_read_43 : decode (mB I_M_read) 43 = .ok (.iload_n 1, 1) := by decide +kernel
theorem e_M_read_44 : decode (mB I_M_read) 44 = .ok (.iconst 2, 1) := by decide +kernel
theorem e_M_read_45 : decode (mB I_M_read) 45 = .ok (.invokevirtual 96, 3) := by decide +kernel
theorem e_M_read_48 : decode (mB I_M_read) 48 = .ok (.imul, 1) := by decide +kernel
theorem e_M_read_49 : decode (mB I_M_read) 49 = .ok (.iadd, 1) := by decide +kernel
theorem e_M_read_50 : decode (mB I_M_read) 50 = .ok (.ireturn, 1) := by decide +kernel
theorem e_M_slope_0 : decode (mB I_M_slope) 0 = .ok (.aload_n 0, 1) := by decide +kernel
theorem e_M_slope_1 : decode (mB I_M_slope) 1 = .ok (.iload_n 1, 1) := by decide +kernel
theorem e_M_slope_2 : decode (mB I_M_slope) 2 = .ok (.invokevirtual 106, 3) := by decide +kernel
theorem e_M_slope_5 : decode (mB I_M_slope) 5 = .ok (.i2l, 1) := by decide +kernel
theorem e_M_slope_6 : decode (mB I_M_slope) 6 = .ok (.lstore_n 2, 1) := by decide +kernel
theorem e_M_slope_7 : decode (mB I_M_slope) 7 = .ok (.aload_n 0, 1) := by decide +kernel
theorem e_M_slope_8 : decode (mB I_M_slope) 8 = .ok (.iload_n 1, 1) := by decide +kernel
theorem e_M_slope_9 : decode (mB I_M_slope) 9 = .ok (.invokevirtual 102, 3) := by decide +kernel
theorem e_M_slope_12 : decode (mB I_M_slope) 12 = .ok (.ifCond .eq 6, 3) := by decide +kernel
theorem e_M_slope_15 : decode (mB I_M_slope) 15 = .ok (.lload_n 2, 1) := by decide +kernel
theorem e_M_slope_16 : decode (mB I_M_slope) 16 = .ok (.l2i, 1) := by decide +kernel
theorem e_M_slope_17 : decode (mB I_M_slope) 17 = .ok (.ireturn, 1) := by decide +kernel
theorem e_M_slope_18 : decode (mB I_M_slope) 18 = .ok (.lload_n 2, 1) := by decide +kernel
theorem e_M_slope_19 : decode (mB I_M_slope) 19 = .ok (.lload_n 2, 1) := by decide +kernel
theorem e_M_slope_20 : decode (mB I_M_slope) 20 = .ok (.aload_n 0, 1) := by decide +kernel
theorem e_M_slope_21 : decode (mB I_M_slope) 21 = .ok (.getfield 9, 3) := by decide +kernel
theorem e_M_slope_24 : decode (mB I_M_slope) 24 = .ok (.iconst 1, 1) := by decide +kernel
theorem e_M_slope_25 : decode (mB I_M_slope) 25 = .ok (.iaload, 1) := by decide +kernel
theorem e_M_slope_26 : decode (mB I_M_slope) 26 = .ok (.i2l, 1) := by decide +kernel
theorem e_M_slope_27 : decode (mB I_M_slope) 27 = .ok (.lmul, 1) := by decide +kernel
theorem e_M_slope_28 : decode (mB I_M_slope) 28 = .ok (.ldc2_w 110, 3) := by decide +kernel
theorem e_M_slope_31 : decode (mB I_M_slope) 31 = .ok (.ldiv, 1) := by decide +kernel
theorem e_M_slope_32 : decode (mB I_M_slope) 32 = .ok (.ladd, 1) := by decide +kernel
theorem e_M_slope_33 : decode (mB I_M_slope) 33 = .ok (.lstore 4, 2) := by decide +kernel
theorem e_M_slope_35 : decode (mB I_M_slope) 35 = .ok (.lload 4, 2) := by decide +kernel
theorem e_M_slope_37 : decode (mB I_M_slope) 37 = .ok (.lload 4, 2) := by decide +kernel
theorem e_M_slope_39 : decode (mB I_M_slope) 39 = .ok (.aload_n 0, 1) := by decide +kernel
theorem e_M_slope_40 : decode (mB I_M_slope) 40 = .ok (.iload_n 1, 1) := by decide +kernel
theorem e_M_slope_41 : decode (mB I_M_slope) 41 = .ok (.iconst 5, 1) := by decide +kernel
theorem e_M_slope_42 : decode (mB I_M_slope) 42 = .ok (.invokevirtual 96, 3) := by decide +kernel
theorem e_M_slope_45 : decode (mB I_M_slope) 45 = .ok (.bipush 15, 2) := by decide +kernel
theorem e_M_slope_47 : decode (mB I_M_slope) 47 = .ok (.isub, 1) := by decide +kernel
theorem e_M_slope_48 : decode (mB I_M_slope) 48 = .ok (.i2l, 1) := by decide +kernel
theorem e_M_slope_49 : decode (mB I_M_slope) 49 = .ok (.lmul, 1) := by decide +kernel
theorem e_M_slope_50 : decode (mB I_M_slope) 50 = .ok (.ldc2_w 112, 3) := by decide +kernel
theorem e_M_slope_53 : decode (mB I_M_slope) 53 = .ok (.lmul, 1) := by decide +kernel
theorem e_M_slope_54 : decode (mB I_M_slope) 54 = .ok (.ldc2_w 114, 3) := by decide +kernel
theorem e_M_slope_57 : decode (mB I_M_slope) 57 = .ok (.ldiv, 1) := by decide +kernel
theorem e_M_slope_58 : decode (mB I_M_slope) 58 = .ok (.ladd, 1) := by decide +kernel
theorem e_M_slope_59 : decode (mB I_M_slope) 59 = .ok (.l2i, 1) := by decide +kernel
theorem e_M_slope_60 : decode (mB I_M_slope) 60 = .ok (.ireturn, 1) := by decide +kernel
theorem e_M_flat_0 : decode (mB I_M_flat) 0 = .ok (.aload_n 0, 1) := by decide +kernel
theorem e_M_flat_1 : decode (mB I_M_flat) 1 = .ok (.iload_n 1, 1) := by decide +kernel
theorem e_M_flat_2 : decode (mB I_M_flat) 2 = .ok (.invokevirtual 116, 3) := by decide +kernel
theorem e_M_flat_5 : decode (mB I_M_flat) 5 = .ok (.i2l, 1) := by decide +kernel
theorem e_M_flat_6 : decode (mB I_M_flat) 6 = .ok (.lstore_n 2, 1) := by decide +kernel
theorem e_M_flat_7 : decode (mB I_M_flat) 7 = .ok (.aload_n 0, 1) := by decide +kernel
theorem e_M_flat_8 : decode (mB I_M_flat) 8 = .ok (.iload_n 1, 1) := by decide +kernel
theorem e_M_flat_9 : decode (mB I_M_flat) 9 = .ok (.invokevirtual 102, 3) := by decide +kernel
theorem e_M_flat_12 : decode (mB I_M_flat) 12 = .ok (.ifCond .eq 6, 3) := by decide +kernel
theorem e_M_flat_15 : decode (mB I_M_flat) 15 = .ok (.lload_n 2, 1) := by decide +kernel
theorem e_M_flat_16 : decode (mB I_M_flat) 16 = .ok (.l2i, 1) := by decide +kernel
theorem e_M_flat_17 : decode (mB I_M_flat) 17 = .ok (.ireturn, 1) := by decide +kernel
theorem e_M_flat_18 : decode (mB I_M_flat) 18 = .ok (.ldc2_w 119, 3) := by decide +kernel
theorem e_M_flat_21 : decode (mB I_M_flat) 21 = .ok (.aload_n 0, 1) := by decide +kernel
theorem e_M_flat_22 : decode (mB I_M_flat) 22 = .ok (.iload_n 1, 1) := by decide +kernel
theorem e_M_flat_23 : decode (mB I_M_flat) 23 = .ok (.iconst 4, 1) := by decide +kernel
theorem e_M_flat_24 : decode (mB I_M_flat) 24 = .ok (.invokevirtual 96, 3) := by decide +kernel
theorem e_M_flat_27 : decode (mB I_M_flat) 27 = .ok (.i2l, 1) := by decide +kernel
theorem e_M_flat_28 : decode (mB I_M_flat) 28 = .ok (.lmul, 1) := by decide +kernel
theorem e_M_flat_29 : decode (mB I_M_flat) 29 = .ok (.lstore 4, 2) := by decide +kernel
theorem e_M_flat_31 : decode (mB I_M_flat) 31 = .ok (.lload 4, 2) := by decide +kernel
theorem e_M_flat_33 : decode (mB I_M_flat) 33 = .ok (.lload_n 2, 1) := by decide +kernel
theorem e_M_flat_34 : decode (mB I_M_flat) 34 = .ok (.lcmp, 1) := by decide +kernel
theorem e_M_flat_35 : decode (mB I_M_flat) 35 = .ok (.ifCond .le 7, 3) := by decide +kernel
theorem e_M_flat_38 : decode (mB I_M_flat) 38 = .ok (.iconst 0, 1) := by decide +kernel
theorem e_M_flat_39 : decode (mB I_M_flat) 39 = .ok (.goto 16, 3) := by decide +kernel
theorem e_M_flat_42 : decode (mB I_M_flat) 42 = .ok (.lload_n 2, 1) := by decide +kernel
theorem e_M_flat_43 : decode (mB I_M_flat) 43 = .ok (.lload_n 2, 1) := by decide +kernel
theorem e_M_flat_44 : decode (mB I_M_flat) 44 = .ok (.lmul, 1) := by decide +kernel
theorem e_M_flat_45 : decode (mB I_M_flat) 45 = .ok (.lload 4, 2) := by decide +kernel
theorem e_M_flat_47 : decode (mB I_M_flat) 47 = .ok (.lload 4, 2) := by decide +kernel
theorem e_M_flat_49 : decode (mB I_M_flat) 49 = .ok (.lmul, 1) := by decide +kernel
theorem e_M_flat_50 : decode (mB I_M_flat) 50 = .ok (.lsub, 1) := by decide +kernel
theorem e_M_flat_51 : decode (mB I_M_flat) 51 = .ok (.invokestatic 121, 3) := by decide +kernel
theorem e_M_flat_54 : decode (mB I_M_flat) 54 = .ok (.l2i, 1) := by decide +kernel
theorem e_M_flat_55 : decode (mB I_M_flat) 55 = .ok (.ireturn, 1) := by decide +kernel
theorem e_M_cosine_0 : decode (mB I_M_cosine) 0 = .ok (.iload_n 1, 1) := by decide +kernel
theorem e_M_cosine_1 : decode (mB I_M_cosine) 1 = .ok (.bipush 24, 2) := by decide +kernel
theorem e_M_cosine_3 : decode (mB I_M_cosine) 3 = .ok (.irem, 1) := by decide +kernel
theorem e_M_cosine_4 : decode (mB I_M_cosine) 4 = .ok (.istore_n 2, 1) := by decide +kernel
theorem e_M_cosine_5 : decode (mB I_M_cosine) 5 = .ok (.iload_n 2, 1) := by decide +kernel
theorem e_M_cosine_6 : decode (mB I_M_cosine) 6 = .ok (.bipush 12, 2) := by decide +kernel
theorem e_M_cosine_8 : decode (mB I_M_cosine) 8 = .ok (.if_icmp .le 8, 3) := by decide +kernel
theorem e_M_cosine_11 : decode (mB I_M_cosine) 11 = .ok (.bipush 24, 2) := by decide +kernel
theorem e_M_cosine_13 : decode (mB I_M_cosine) 13 = .ok (.iload_n 2, 1) := by decide +kernel
theorem e_M_cosine_14 : decode (mB I_M_cosine) 14 = .ok (.isub, 1) := by decide +kernel
theorem e_M_cosine_15 : decode (mB I_M_cosine) 15 = .ok (.istore_n 2, 1) := by decide +kernel
theorem e_M_cosine_16 : decode (mB I_M_cosine) 16 = .ok (.iload_n 2, 1) := by decide +kernel
theorem e_M_cosine_17 : decode (mB I_M_cosine) 17 = .ok (.bipush 6, 2) := by decide +kernel
theorem e_M_cosine_19 : decode (mB I_M_cosine) 19 = .ok (.if_icmp .gt 12, 3) := by decide +kernel
theorem e_M_cosine_22 : decode (mB I_M_cosine) 22 = .ok (.aload_n 0, 1) := by decide +kernel
theorem e_M_cosine_23 : decode (mB I_M_cosine) 23 = .ok (.getfield 44, 3) := by decide +kernel
theorem e_M_cosine_26 : decode (mB I_M_cosine) 26 = .ok (.iload_n 2, 1) := by decide +kernel
theorem e_M_cosine_27 : decode (mB I_M_cosine) 27 = .ok (.iaload, 1) := by decide +kernel
theorem e_M_cosine_28 : decode (mB I_M_cosine) 28 = .ok (.goto 13, 3) := by decide +kernel
theorem e_M_cosine_31 : decode (mB I_M_cosine) 31 = .ok (.aload_n 0, 1) := by decide +kernel
theorem e_M_cosine_32 : decode (mB I_M_cosine) 32 = .ok (.getfield 44, 3) := by decide +kernel
theorem e_M_cosine_35 : decode (mB I_M_cosine) 35 = .ok (.bipush 12, 2) := by decide +kernel
theorem e_M_cosine_37 : decode (mB I_M_cosine) 37 = .ok (.iload_n 2, 1) := by decide +kernel
theorem e_M_cosine_38 : decode (mB I_M_cosine) 38 = .ok (.isub, 1) := by decide +kernel
theorem e_M_cosine_39 : decode (mB I_M_cosine) 39 = .ok (.iaload, 1) := by decide +kernel
theorem e_M_cosine_40 : decode (mB I_M_cosine) 40 = .ok (.ineg, 1) := by decide +kernel
theorem e_M_cosine_41 : decode (mB I_M_cosine) 41 = .ok (.ireturn, 1) := by decide +kernel
theorem e_M_step_0 : decode (mB I_M_step) 0 = .ok (.aload_n 0, 1) := by decide +kernel
theorem e_M_step_1 : decode (mB I_M_step) 1 = .ok (.iload_n 1, 1) := by decide +kernel
theorem e_M_step_2 : decode (mB I_M_step) 2 = .ok (.iconst 0, 1) := by decide +kernel
theorem e_M_step_3 : decode (mB I_M_step) 3 = .ok (.invokevirtual 96, 3) := by decide +kernel
theorem e_M_step_6 : decode (mB I_M_step) 6 = .ok (.bipush 15, 2) := by decide +kernel
theorem e_M_step_8 : decode (mB I_M_step) 8 = .ok (.idiv, 1) := by decide +kernel
theorem e_M_step_9 : decode (mB I_M_step) 9 = .ok (.istore_n 3, 1) := by decide +kernel
theorem e_M_step_10 : decode (mB I_M_step) 10 = .ok (.aload_n 0, 1) := by decide +kernel
theorem e_M_step_11 : decode (mB I_M_step) 11 = .ok (.iload_n 1, 1) := by decide +kernel
theorem e_M_step_12 : decode (mB I_M_step) 12 = .ok (.invokevirtual 125, 3) := by decide +kernel
theorem e_M_step_15 : decode (mB I_M_step) 15 = .ok (.i2l, 1) := by decide +kernel
theorem e_M_step_16 : decode (mB I_M_step) 16 = .ok (.aload_n 0, 1) := by decide +kernel
theorem e_M_step_17 : decode (mB I_M_step) 17 = .ok (.iload_n 2, 1) := by decide +kernel
theorem e_M_step_18 : decode (mB I_M_step) 18 = .ok (.ifCond .eq 10, 3) := by decide +kernel
theorem e_M_step_21 : decode (mB I_M_step) 21 = .ok (.iload_n 3, 1) := by decide +kernel
theorem e_M_step_22 : decode (mB I_M_step) 22 = .ok (.bipush 18, 2) := by decide +kernel
theorem e_M_step_24 : decode (mB I_M_step) 24 = .ok (.iadd, 1) := by decide +kernel
theorem e_M_step_25 : decode (mB I_M_step) 25 = .ok (.goto 4, 3) := by decide +kernel
theorem e_M_step_28 : decode (mB I_M_step) 28 = .ok (.iload_n 3, 1) := by decide +kernel
theorem e_M_step_29 : decode (mB I_M_step) 29 = .ok (.invokevirtual 128, 3) := by decide +kernel
theorem e_M_step_32 : decode (mB I_M_step) 32 = .ok (.i2l, 1) := by decide +kernel
theorem e_M_step_33 : decode (mB I_M_step) 33 = .ok (.lmul, 1) := by decide +kernel
theorem e_M_step_34 : decode (mB I_M_step) 34 = .ok (.lstore 4, 2) := by decide +kernel
theorem e_M_step_36 : decode (mB I_M_step) 36 = .ok (.lload 4, 2) := by decide +kernel
theorem e_M_step_38 : decode (mB I_M_step) 38 = .ok (.ldc2_w 110, 3) := by decide +kernel
theorem e_M_step_41 : decode (mB I_M_step) 41 = .ok (.ldiv, 1) := by decide +kernel
theorem e_M_step_42 : decode (mB I_M_step) 42 = .ok (.l2i, 1) := by decide +kernel
theorem e_M_step_43 : decode (mB I_M_step) 43 = .ok (.ireturn, 1) := by decide +kernel
theorem e_M_findRaw_0 : decode (mB I_M_findRaw) 0 = .ok (.aload_n 0, 1) := by decide +kernel
theorem e_M_findRaw_1 : decode (mB I_M_findRaw) 1 = .ok (.getfield 35, 3) := by decide +kernel
theorem e_M_findRaw_4 : decode (mB I_M_findRaw) 4 = .ok (.iconst 0, 1) := by decide +kernel
theorem e_M_findRaw_5 : decode (mB I_M_findRaw) 5 = .ok (.iconst 0, 1) := by decide +kernel
theorem e_M_findRaw_6 : decode (mB I_M_findRaw) 6 = .ok (.iastore, 1) := by decide +kernel
theorem e_M_findRaw_7 : decode (mB I_M_findRaw) 7 = .ok (.aload_n 0, 1) := by decide +kernel
theorem e_M_findRaw_8 : decode (mB I_M_findRaw) 8 = .ok (.getfield 38, 3) := by decide +kernel
theorem e_M_findRaw_11 : decode (mB I_M_findRaw) 11 = .ok (.iconst 0, 1) := by decide +kernel
theorem e_M_findRaw_12 : decode (mB I_M_findRaw) 12 = .ok (.iconst 0, 1) := by decide +kernel
theorem e_M_findRaw_13 : decode (mB I_M_findRaw) 13 = .ok (.iastore, 1) := by decide +kernel
theorem e_M_findRaw_14 : decode (mB I_M_findRaw) 14 = .ok (.aload_n 0, 1) := by decide +kernel
theorem e_M_findRaw_15 : decode (mB I_M_findRaw) 15 = .ok (.getfield 41, 3) := by decide +kernel
theorem e_M_findRaw_18 : decode (mB I_M_findRaw) 18 = .ok (.iconst 0, 1) := by decide +kernel
theorem e_M_findRaw_19 : decode (mB I_M_findRaw) 19 = .ok (.iconst 0, 1) := by decide +kernel
theorem e_M_findRaw_20 : decode (mB I_M_findRaw) 20 = .ok (.iastore, 1) := by decide +kernel
theorem e_M_findRaw_21 : decode (mB I_M_findRaw) 21 = .ok (.iconst 0, 1) := by decide +kernel
theorem e_M_findRaw_22 : decode (mB I_M_findRaw) 22 = .ok (.istore_n 1, 1) := by decide +kernel
theorem e_M_findRaw_23 : decode (mB I_M_findRaw) 23 = .ok (.iload_n 1, 1) := by decide +kernel
theorem e_M_findRaw_24 : decode (mB I_M_findRaw) 24 = .ok (.aload_n 0, 1) := by decide +kernel
theorem e_M_findRaw_25 : decode (mB I_M_findRaw) 25 = .ok (.getfield 9, 3) := by decide +kernel
theorem e_M_findRaw_28 : decode (mB I_M_findRaw) 28 = .ok (.iconst 0, 1) := by decide +kernel
theorem e_M_findRaw_29 : decode (mB I_M_findRaw) 29 = .ok (.iaload, 1) := by decide +kernel
theorem e_M_findRaw_30 : decode (mB I_M_findRaw) 30 = .ok (.if_icmp .ge 71, 3) := by decide +kernel
theorem e_M_findRaw_33 : decode (mB I_M_findRaw) 33 = .ok (.aload_n 0, 1) := by decide +kernel
theorem e_M_findRaw_34 : decode (mB I_M_findRaw) 34 = .ok (.getfield 35, 3) := by decide +kernel
theorem e_M_findRaw_37 : decode (mB I_M_findRaw) 37 = .ok (.iload_n 1, 1) := by decide +kernel
theorem e_M_findRaw_38 : decode (mB I_M_findRaw) 38 = .ok (.iconst 1, 1) := by decide +kernel
theorem e_M_findRaw_39 : decode (mB I_M_findRaw) 39 = .ok (.iadd, 1) := by decide +kernel
theorem e_M_findRaw_40 : decode (mB I_M_findRaw) 40 = .ok (.aload_n 0, 1) := by decide +kernel
theorem e_M_findRaw_41 : decode (mB I_M_findRaw) 41 = .ok (.getfield 35, 3) := by decide +kernel
theorem e_M_findRaw_44 : decode (mB I_M_findRaw) 44 = .ok (.iload_n 1, 1) := by decide +kernel
theorem e_M_findRaw_45 : decode (mB I_M_findRaw) 45 = .ok (.iaload, 1) := by decide +kernel
theorem e_M_findRaw_46 : decode (mB I_M_findRaw) 46 = .ok (.aload_n 0, 1) := by decide +kernel
theorem e_M_findRaw_47 : decode (mB I_M_findRaw) 47 = .ok (.iload_n 1, 1) := by decide +kernel
theorem e_M_findRaw_48 : decode (mB I_M_findRaw) 48 = .ok (.iconst 1, 1) := by decide +kernel
theorem e_M_findRaw_49 : decode (mB I_M_findRaw) 49 = .ok (.invokevirtual 131, 3) := by decide +kernel
theorem e_M_findRaw_52 : decode (mB I_M_findRaw) 52 = .ok (.iadd, 1) := by decide +kernel
theorem e_M_findRaw_53 : decode (mB I_M_findRaw) 53 = .ok (.iastore, 1) := by decide +kernel
theorem e_M_findRaw_54 : decode (mB I_M_findRaw) 54 = .ok (.aload_n 0, 1) := by decide +kernel
theorem e_M_findRaw_55 : decode (mB I_M_findRaw) 55 = .ok (.getfield 38, 3) := by decide +kernel
theorem e_M_findRaw_58 : decode (mB I_M_findRaw) 58 = .ok (.iload_n 1, 1) := by decide +kernel
theorem e_M_findRaw_59 : decode (mB I_M_findRaw) 59 = .ok (.iconst 1, 1) := by decide +kernel
theorem e_M_findRaw_60 : decode (mB I_M_findRaw) 60 = .ok (.iadd, 1) := by decide +kernel
theorem e_M_findRaw_61 : decode (mB I_M_findRaw) 61 = .ok (.aload_n 0, 1) := by decide +kernel
theorem e_M_findRaw_62 : decode (mB I_M_findRaw) 62 = .ok (.getfield 38, 3) := by decide +kernel
theorem e_M_findRaw_65 : decode (mB I_M_findRaw) 65 = .ok (.iload_n 1, 1) := by decide +kernel
theorem e_M_findRaw_66 : decode (mB I_M_findRaw) 66 = .ok (.iaload, 1) := by decide +kernel
theorem e_M_findRaw_67 : decode (mB I_M_findRaw) 67 = .ok (.aload_n 0, 1) := by decide +kernel
theorem e_M_findRaw_68 : decode (mB I_M_findRaw) 68 = .ok (.iload_n 1, 1) := by decide +kernel
theorem e_M_findRaw_69 : decode (mB I_M_findRaw) 69 = .ok (.iconst 0, 1) := by decide +kernel
theorem e_M_findRaw_70 : decode (mB I_M_findRaw) 70 = .ok (.invokevirtual 131, 3) := by decide +kernel
theorem e_M_findRaw_73 : decode (mB I_M_findRaw) 73 = .ok (.iadd, 1) := by decide +kernel
theorem e_M_findRaw_74 : decode (mB I_M_findRaw) 74 = .ok (.iastore, 1) := by decide +kernel
theorem e_M_findRaw_75 : decode (mB I_M_findRaw) 75 = .ok (.aload_n 0, 1) := by decide +kernel
theorem e_M_findRaw_76 : decode (mB I_M_findRaw) 76 = .ok (.getfield 41, 3) := by decide +kernel
theorem e_M_findRaw_79 : decode (mB I_M_findRaw) 79 = .ok (.iload_n 1, 1) := by decide +kernel
theorem e_M_findRaw_80 : decode (mB I_M_findRaw) 80 = .ok (.iconst 1, 1) := by decide +kernel
theorem e_M_findRaw_81 : decode (mB I_M_findRaw) 81 = .ok (.iadd, 1) := by decide +kernel
theorem e_M_findRaw_82 : decode (mB I_M_findRaw) 82 = .ok (.aload_n 0, 1) := by decide +kernel
theorem e_M_findRaw_83 : decode (mB I_M_findRaw) 83 = .ok (.getfield 41, 3) := by decide +kernel
theorem e_M_findRaw_86 : decode (mB I_M_findRaw) 86 = .ok (.iload_n 1, 1) := by decide +kernel
theorem e_M_findRaw_87 : decode (mB I_M_findRaw) 87 = .ok (.iaload, 1) := by decide +kernel
theorem e_M_findRaw_88 : decode (mB I_M_findRaw) 88 = .ok (.aload_n 0, 1) := by decide +kernel
theorem e_M_findRaw_89 : decode (mB I_M_findRaw) 89 = .ok (.iload_n 1, 1) := by decide +kernel
theorem e_M_findRaw_90 : decode (mB I_M_findRaw) 90 = .ok (.invokevirtual 125, 3) := by decide +kernel
theorem e_M_findRaw_93 : decode (mB I_M_findRaw) 93 = .ok (.iadd, 1) := by decide +kernel
theorem e_M_findRaw_94 : decode (mB I_M_findRaw) 94 = .ok (.iastore, 1) := by decide +kernel
theorem e_M_findRaw_95 : decode (mB I_M_findRaw) 95 = .ok (.iinc 1 1, 3) := by decide +kernel
theorem e_M_findRaw_98 : decode (mB I_M_findRaw) 98 = .ok (.goto (-75), 3) := by decide +kernel
theorem e_M_findRaw_101 : decode (mB I_M_findRaw) 101 = .ok (.return_, 1) := by decide +kernel
theorem e_M_around_0 : decode (mB I_M_around) 0 = .ok (.aload_n 0, 1) := by decide +kernel
theorem e_M_around_1 : decode (mB I_M_around) 1 = .ok (.getfield 41, 3) := by decide +kernel
theorem e_M_around_4 : decode (mB I_M_around) 4 = .ok (.aload_n 0, 1) := by decide +kernel
theorem e_M_around_5 : decode (mB I_M_around) 5 = .ok (.getfield 9, 3) := by decide +kernel
theorem e_M_around_8 : decode (mB I_M_around) 8 = .ok (.iconst 0, 1) := by decide +kernel
theorem e_M_around_9 : decode (mB I_M_around) 9 = .ok (.iaload, 1) := by decide +kernel
theorem e_M_around_10 : decode (mB I_M_around) 10 = .ok (.iaload, 1) := by decide +kernel
theorem e_M_around_11 : decode (mB I_M_around) 11 = .ok (.ireturn, 1) := by decide +kernel
theorem e_M_part_0 : decode (mB I_M_part) 0 = .ok (.iload_n 2, 1) := by decide +kernel
theorem e_M_part_1 : decode (mB I_M_part) 1 = .ok (.ifCond .ne 7, 3) := by decide +kernel
theorem e_M_part_4 : decode (mB I_M_part) 4 = .ok (.iconst 0, 1) := by decide +kernel
theorem e_M_part_5 : decode (mB I_M_part) 5 = .ok (.goto 12, 3) := by decide +kernel
theorem e_M_part_8 : decode (mB I_M_part) 8 = .ok (.iload_n 0, 1) := by decide +kernel
theorem e_M_part_9 : decode (mB I_M_part) 9 = .ok (.i2l, 1) := by decide +kernel
theorem e_M_part_10 : decode (mB I_M_part) 10 = .ok (.iload_n 1, 1) := by decide +kernel
theorem e_M_part_11 : decode (mB I_M_part) 11 = .ok (.i2l, 1) := by decide +kernel
theorem e_M_part_12 : decode (mB I_M_part) 12 = .ok (.lmul, 1) := by decide +kernel
theorem e_M_part_13 : decode (mB I_M_part) 13 = .ok (.iload_n 2, 1) := by decide +kernel
theorem e_M_part_14 : decode (mB I_M_part) 14 = .ok (.i2l, 1) := by decide +kernel
theorem e_M_part_15 : decode (mB I_M_part) 15 = .ok (.ldiv, 1) := by decide +kernel
theorem e_M_part_16 : decode (mB I_M_part) 16 = .ok (.l2i, 1) := by decide +kernel
theorem e_M_part_17 : decode (mB I_M_part) 17 = .ok (.ireturn, 1) := by decide +kernel
theorem e_M_findStations_0 : decode (mB I_M_findStations) 0 = .ok (.aload_n 0, 1) := by decide +kernel
theorem e_M_findStations_1 : decode (mB I_M_findStations) 1 = .ok (.invokevirtual 135, 3) := by decide +kernel
theorem e_M_findStations_4 : decode (mB I_M_findStations) 4 = .ok (.aload_n 0, 1) := by decide +kernel
theorem e_M_findStations_5 : decode (mB I_M_findStations) 5 = .ok (.getfield 9, 3) := by decide +kernel
theorem e_M_findStations_8 : decode (mB I_M_findStations) 8 = .ok (.iconst 3, 1) := by decide +kernel
theorem e_M_findStations_9 : decode (mB I_M_findStations) 9 = .ok (.iaload, 1) := by decide +kernel
theorem e_M_findStations_10 : decode (mB I_M_findStations) 10 = .ok (.ifCond .ne 4, 3) := by decide +kernel
theorem e_M_findStations_13 : decode (mB I_M_findStations) 13 = .ok (.return_, 1) := by decide +kernel
theorem e_M_findStations_14 : decode (mB I_M_findStations) 14 = .ok (.aload_n 0, 1) := by decide +kernel
theorem e_M_findStations_15 : decode (mB I_M_findStations) 15 = .ok (.getfield 35, 3) := by decide +kernel
theorem e_M_findStations_18 : decode (mB I_M_findStations) 18 = .ok (.aload_n 0, 1) := by decide +kernel
theorem e_M_findStations_19 : decode (mB I_M_findStations) 19 = .ok (.getfield 9, 3) := by decide +kernel
theorem e_M_findStations_22 : decode (mB I_M_findStations) 22 = .ok (.iconst 0, 1) := by decide +kernel
theorem e_M_findStations_23 : decode (mB I_M_findStations) 23 = .ok (.iaload, 1) := by decide +kernel
theorem e_M_findStations_24 : decode (mB I_M_findStations) 24 = .ok (.iaload, 1) := by decide +kernel
theorem e_M_findStations_25 : decode (mB I_M_findStations) 25 = .ok (.istore_n 1, 1) := by decide +kernel
theorem e_M_findStations_26 : decode (mB I_M_findStations) 26 = .ok (.aload_n 0, 1) := by decide +kernel
theorem e_M_findStations_27 : decode (mB I_M_findStations) 27 = .ok (.getfield 38, 3) := by decide +kernel
theorem e_M_findStations_30 : decode (mB I_M_findStations) 30 = .ok (.aload_n 0, 1) := by decide +kernel
theorem e_M_findStations_31 : decode (mB I_M_findStations) 31 = .ok (.getfield 9, 3) := by decide +kernel
theorem e_M_findStations_34 : decode (mB I_M_findStations) 34 = .ok (.iconst 0, 1) := by decide +kernel
theorem e_M_findStations_35 : decode (mB I_M_findStations) 35 = .ok (.iaload, 1) := by decide +kernel
theorem e_M_findStations_36 : decode (mB I_M_findStations) 36 = .ok (.iaload, 1) := by decide +kernel
theorem e_M_findStations_37 : decode (mB I_M_findStations) 37 = .ok (.istore_n 2, 1) := by decide +kernel
theorem e_M_findStations_38 : decode (mB I_M_findStations) 38 = .ok (.iconst 0, 1) := by decide +kernel
theorem e_M_findStations_39 : decode (mB I_M_findStations) 39 = .ok (.istore_n 3, 1) := by decide +kernel
theorem e_M_findStations_40 : decode (mB I_M_findStations) 40 = .ok (.iload_n 3, 1) := by decide +kernel
theorem e_M_findStations_41 : decode (mB I_M_findStations) 41 = .ok (.aload_n 0, 1) := by decide +kernel
theorem e_M_findStations_42 : decode (mB I_M_findStations) 42 = .ok (.getfield 9, 3) := by decide +kernel
theorem e_M_findStations_45 : decode (mB I_M_findStations) 45 = .ok (.iconst 0, 1) := by decide +kernel
theorem e_M_findStations_46 : decode (mB I_M_findStations) 46 = .ok (.iaload, 1) := by decide +kernel
theorem e_M_findStations_47 : decode (mB I_M_findStations) 47 = .ok (.if_icmp .gt 55, 3) := by decide +kernel
theorem e_M_findStations_50 : decode (mB I_M_findStations) 50 = .ok (.aload_n 0, 1) := by decide +kernel
theorem e_M_findStations_51 : decode (mB I_M_findStations) 51 = .ok (.getfield 35, 3) := by decide +kernel
theorem e_M_findStations_54 : decode (mB I_M_findStations) 54 = .ok (.iload_n 3, 1) := by decide +kernel
theorem e_M_findStations_55 : decode (mB I_M_findStations) 55 = .ok (.dup2, 1) := by decide +kernel
theorem e_M_findStations_56 : decode (mB I_M_findStations) 56 = .ok (.iaload, 1) := by decide +kernel
theorem e_M_findStations_57 : decode (mB I_M_findStations) 57 = .ok (.iload_n 1, 1) := by decide +kernel
theorem e_M_findStations_58 : decode (mB I_M_findStations) 58 = .ok (.aload_n 0, 1) := by decide +kernel
theorem e_M_findStations_59 : decode (mB I_M_findStations) 59 = .ok (.getfield 41, 3) := by decide +kernel
theorem e_M_findStations_62 : decode (mB I_M_findStations) 62 = .ok (.iload_n 3, 1) := by decide +kernel
theorem e_M_findStations_63 : decode (mB I_M_findStations) 63 = .ok (.iaload, 1) := by decide +kernel
theorem e_M_findStations_64 : decode (mB I_M_findStations) 64 = .ok (.aload_n 0, 1) := by decide +kernel
theorem e_M_findStations_65 : decode (mB I_M_findStations) 65 = .ok (.invokevirtual 138, 3) := by decide +kernel
theorem e_M_findStations_68 : decode (mB I_M_findStations) 68 = .ok (.invokestatic 141, 3) := by decide +kernel
theorem e_M_findStations_71 : decode (mB I_M_findStations) 71 = .ok (.isub, 1) := by decide +kernel
theorem e_M_findStations_72 : decode (mB I_M_findStations) 72 = .ok (.iastore, 1) := by decide +kernel
theorem e_M_findStations_73 : decode (mB I_M_findStations) 73 = .ok (.aload_n 0, 1) := by decide +kernel
theorem e_M_findStations_74 : decode (mB I_M_findStations) 74 = .ok (.getfield 38, 3) := by decide +kernel
theorem e_M_findStations_77 : decode (mB I_M_findStations) 77 = .ok (.iload_n 3, 1) := by decide +kernel
theorem e_M_findStations_78 : decode (mB I_M_findStations) 78 = .ok (.dup2, 1) := by decide +kernel
theorem e_M_findStations_79 : decode (mB I_M_findStations) 79 = .ok (.iaload, 1) := by decide +kernel
theorem e_M_findStations_80 : decode (mB I_M_findStations) 80 = .ok (.iload_n 2, 1) := by decide +kernel
theorem e_M_findStations_81 : decode (mB I_M_findStations) 81 = .ok (.aload_n 0, 1) := by decide +kernel
theorem e_M_findStations_82 : decode (mB I_M_findStations) 82 = .ok (.getfield 41, 3) := by decide +kernel
theorem e_M_findStations_85 : decode (mB I_M_findStations) 85 = .ok (.iload_n 3, 1) := by decide +kernel
theorem e_M_findStations_86 : decode (mB I_M_findStations) 86 = .ok (.iaload, 1) := by decide +kernel
theorem e_M_findStations_87 : decode (mB I_M_findStations) 87 = .ok (.aload_n 0, 1) := by decide +kernel
theorem e_M_findStations_88 : decode (mB I_M_findStations) 88 = .ok (.invokevirtual 138, 3) := by decide +kernel
theorem e_M_findStations_91 : decode (mB I_M_findStations) 91 = .ok (.invokestatic 141, 3) := by decide +kernel
theorem e_M_findStations_94 : decode (mB I_M_findStations) 94 = .ok (.isub, 1) := by decide +kernel
theorem e_M_findStations_95 : decode (mB I_M_findStations) 95 = .ok (.iastore, 1) := by decide +kernel
theorem e_M_findStations_96 : decode (mB I_M_findStations) 96 = .ok (.iinc 3 1, 3) := by decide +kernel
theorem e_M_findStations_99 : decode (mB I_M_findStations) 99 = .ok (.goto (-59), 3) := by decide +kernel
theorem e_M_findStations_102 : decode (mB I_M_findStations) 102 = .ok (.return_, 1) := by decide +kernel
theorem e_M_far_0 : decode (mB I_M_far) 0 = .ok (.lload_n 0, 1) := by decide +kernel
theorem e_M_far_1 : decode (mB I_M_far) 1 = .ok (.lload_n 0, 1) := by decide +kernel
theorem e_M_far_2 : decode (mB I_M_far) 2 = .ok (.lmul, 1) := by decide +kernel
theorem e_M_far_3 : decode (mB I_M_far) 3 = .ok (.lload_n 2, 1) := by decide +kernel
theorem e_M_far_4 : decode (mB I_M_far) 4 = .ok (.lload_n 2, 1) := by decide +kernel
theorem e_M_far_5 : decode (mB I_M_far) 5 = .ok (.lmul, 1) := by decide +kernel
theorem e_M_far_6 : decode (mB I_M_far) 6 = .ok (.ladd, 1) := by decide +kernel
theorem e_M_far_7 : decode (mB I_M_far) 7 = .ok (.invokestatic 121, 3) := by decide +kernel
theorem e_M_far_10 : decode (mB I_M_far) 10 = .ok (.l2i, 1) := by decide +kernel
theorem e_M_far_11 : decode (mB I_M_far) 11 = .ok (.ireturn, 1) := by decide +kernel
theorem e_M_miss_0 : decode (mB I_M_miss) 0 = .ok (.aload_n 0, 1) := by decide +kernel
theorem e_M_miss_1 : decode (mB I_M_miss) 1 = .ok (.invokevirtual 135, 3) := by decide +kernel
theorem e_M_miss_4 : decode (mB I_M_miss) 4 = .ok (.aload_n 0, 1) := by decide +kernel
theorem e_M_miss_5 : decode (mB I_M_miss) 5 = .ok (.getfield 35, 3) := by decide +kernel
theorem e_M_miss_8 : decode (mB I_M_miss) 8 = .ok (.aload_n 0, 1) := by decide +kernel
theorem e_M_miss_9 : decode (mB I_M_miss) 9 = .ok (.getfield 9, 3) := by decide +kernel
theorem e_M_miss_12 : decode (mB I_M_miss) 12 = .ok (.iconst 0, 1) := by decide +kernel
theorem e_M_miss_13 : decode (mB I_M_miss) 13 = .ok (.iaload, 1) := by decide +kernel
theorem e_M_miss_14 : decode (mB I_M_miss) 14 = .ok (.iaload, 1) := by decide +kernel
theorem e_M_miss_15 : decode (mB I_M_miss) 15 = .ok (.i2l, 1) := by decide +kernel
theorem e_M_miss_16 : decode (mB I_M_miss) 16 = .ok (.aload_n 0, 1) := by decide +kernel
theorem e_M_miss_17 : decode (mB I_M_miss) 17 = .ok (.getfield 38, 3) := by decide +kernel
theorem e_M_miss_20 : decode (mB I_M_miss) 20 = .ok (.aload_n 0, 1) := by decide +kernel
theorem e_M_miss_21 : decode (mB I_M_miss) 21 = .ok (.getfield 9, 3) := by decide +kernel
theorem e_M_miss_24 : decode (mB I_M_miss) 24 = .ok (.iconst 0, 1) := by decide +kernel
theorem e_M_miss_25 : decode (mB I_M_miss) 25 = .ok (.iaload, 1) := by decide +kernel
theorem e_M_miss_26 : decode (mB I_M_miss) 26 = .ok (.iaload, 1) := by decide +kernel
theorem e_M_miss_27 : decode (mB I_M_miss) 27 = .ok (.i2l, 1) := by decide +kernel
theorem e_M_miss_28 : decode (mB I_M_miss) 28 = .ok (.invokestatic 145, 3) := by decide +kernel
theorem e_M_miss_31 : decode (mB I_M_miss) 31 = .ok (.ireturn, 1) := by decide +kernel
theorem e_M_mayDrop_0 : decode (mB I_M_mayDrop) 0 = .ok (.aload_n 0, 1) := by decide +kernel
theorem e_M_mayDrop_1 : decode (mB I_M_mayDrop) 1 = .ok (.iload_n 1, 1) := by decide +kernel
theorem e_M_mayDrop_2 : decode (mB I_M_mayDrop) 2 = .ok (.invokevirtual 102, 3) := by decide +kernel
theorem e_M_mayDrop_5 : decode (mB I_M_mayDrop) 5 = .ok (.ifCond .ne 18, 3) := by decide +kernel
theorem e_M_mayDrop_8 : decode (mB I_M_mayDrop) 8 = .ok (.aload_n 0, 1) := by decide +kernel
theorem e_M_mayDrop_9 : decode (mB I_M_mayDrop) 9 = .ok (.iload_n 1, 1) := by decide +kernel
theorem e_M_mayDrop_10 : decode (mB I_M_mayDrop) 10 = .ok (.iconst 3, 1) := by decide +kernel
theorem e_M_mayDrop_11 : decode (mB I_M_mayDrop) 11 = .ok (.invokevirtual 96, 3) := by decide +kernel
theorem e_M_mayDrop_14 : decode (mB I_M_mayDrop) 14 = .ok (.bipush 9, 2) := by decide +kernel
theorem e_M_mayDrop_16 : decode (mB I_M_mayDrop) 16 = .ok (.if_icmp .ge 7, 3) := by decide +kernel
theorem e_M_mayDrop_19 : decode (mB I_M_mayDrop) 19 = .ok (.iconst 1, 1) := by decide +kernel
theorem e_M_mayDrop_20 : decode (mB I_M_mayDrop) 20 = .ok (.goto 4, 3) := by decide +kernel
theorem e_M_mayDrop_23 : decode (mB I_M_mayDrop) 23 = .ok (.iconst 0, 1) := by decide +kernel
theorem e_M_mayDrop_24 : decode (mB I_M_mayDrop) 24 = .ok (.ireturn, 1) := by decide +kernel
theorem e_M_drops_0 : decode (mB I_M_drops) 0 = .ok (.aload_n 0, 1) := by decide +kernel
theorem e_M_drops_1 : decode (mB I_M_drops) 1 = .ok (.iload_n 1, 1) := by decide +kernel
theorem e_M_drops_2 : decode (mB I_M_drops) 2 = .ok (.iconst 3, 1) := by decide +kernel
theorem e_M_drops_3 : decode (mB I_M_drops) 3 = .ok (.aload_n 0, 1) := by decide +kernel
theorem e_M_drops_4 : decode (mB I_M_drops) 4 = .ok (.iload_n 1, 1) := by decide +kernel
theorem e_M_drops_5 : decode (mB I_M_drops) 5 = .ok (.iconst 3, 1) := by decide +kernel
theorem e_M_drops_6 : decode (mB I_M_drops) 6 = .ok (.invokevirtual 96, 3) := by decide +kernel
theorem e_M_drops_9 : decode (mB I_M_drops) 9 = .ok (.iload_n 2, 1) := by decide +kernel
theorem e_M_drops_10 : decode (mB I_M_drops) 10 = .ok (.iadd, 1) := by decide +kernel
theorem e_M_drops_11 : decode (mB I_M_drops) 11 = .ok (.invokevirtual 149, 3) := by decide +kernel
theorem e_M_drops_14 : decode (mB I_M_drops) 14 = .ok (.aload_n 0, 1) := by decide +kernel
theorem e_M_drops_15 : decode (mB I_M_drops) 15 = .ok (.iload_n 1, 1) := by decide +kernel
theorem e_M_drops_16 : decode (mB I_M_drops) 16 = .ok (.iconst 3, 1) := by decide +kernel
theorem e_M_drops_17 : decode (mB I_M_drops) 17 = .ok (.invokevirtual 96, 3) := by decide +kernel
theorem e_M_drops_20 : decode (mB I_M_drops) 20 = .ok (.ireturn, 1) := by decide +kernel
theorem e_M_removes_0 : decode (mB I_M_removes) 0 = .ok (.aload_n 0, 1) := by decide +kernel
theorem e_M_removes_1 : decode (mB I_M_removes) 1 = .ok (.getfield 9, 3) := by decide +kernel
theorem e_M_removes_4 : decode (mB I_M_removes) 4 = .ok (.iconst 0, 1) := by decide +kernel
theorem e_M_removes_5 : decode (mB I_M_removes) 5 = .ok (.dup2, 1) := by decide +kernel
theorem e_M_removes_6 : decode (mB I_M_removes) 6 = .ok (.iaload, 1) := by decide +kernel
theorem e_M_removes_7 : decode (mB I_M_removes) 7 = .ok (.iconst 1, 1) := by decide +kernel
theorem e_M_removes_8 : decode (mB I_M_removes) 8 = .ok (.isub, 1) := by decide +kernel
theorem e_M_removes_9 : decode (mB I_M_removes) 9 = .ok (.iastore, 1) := by decide +kernel
theorem e_M_removes_10 : decode (mB I_M_removes) 10 = .ok (.iconst 0, 1) := by decide +kernel
theorem e_M_removes_11 : decode (mB I_M_removes) 11 = .ok (.istore_n 1, 1) := by decide +kernel
theorem e_M_removes_12 : decode (mB I_M_removes) 12 = .ok (.iload_n 1, 1) := by decide +kernel
theorem e_M_removes_13 : decode (mB I_M_removes) 13 = .ok (.bipush 14, 2) := by decide +kernel
theorem e_M_removes_15 : decode (mB I_M_removes) 15 = .ok (.if_icmp .ge 21, 3) := by decide +kernel
theorem e_M_removes_18 : decode (mB I_M_removes) 18 = .ok (.aload_n 0, 1) := by decide +kernel
theorem e_M_removes_19 : decode (mB I_M_removes) 19 = .ok (.aload_n 0, 1) := by decide +kernel
theorem e_M_removes_20 : decode (mB I_M_removes) 20 = .ok (.getfield 9, 3) := by decide +kernel
theorem e_M_removes_23 : decode (mB I_M_removes) 23 = .ok (.iconst 0, 1) := by decide +kernel
theorem e_M_removes_24 : decode (mB I_M_removes) 24 = .ok (.iaload, 1) := by decide +kernel
theorem e_M_removes_25 : decode (mB I_M_removes) 25 = .ok (.iload_n 1, 1) := by decide +kernel
theorem e_M_removes_26 : decode (mB I_M_removes) 26 = .ok (.iconst 0, 1) := by decide +kernel
theorem e_M_removes_27 : decode (mB I_M_removes) 27 = .ok (.invokevirtual 149, 3) := by decide +kernel
theorem e_M_removes_30 : decode (mB I_M_removes) 30 = .ok (.iinc 1 1, 3) := by decide +kernel
theorem e_M_removes_33 : decode (mB I_M_removes) 33 = .ok (.goto (-21), 3) := by decide +kernel
theorem e_M_removes_36 : decode (mB I_M_removes) 36 = .ok (.aload_n 0, 1) := by decide +kernel
theorem e_M_removes_37 : decode (mB I_M_removes) 37 = .ok (.getfield 9, 3) := by decide +kernel
theorem e_M_removes_40 : decode (mB I_M_removes) 40 = .ok (.iconst 0, 1) := by decide +kernel
theorem e_M_removes_41 : decode (mB I_M_removes) 41 = .ok (.iaload, 1) := by decide +kernel
theorem e_M_removes_42 : decode (mB I_M_removes) 42 = .ok (.ireturn, 1) := by decide +kernel
theorem e_M_sets_0 : decode (mB I_M_sets) 0 = .ok (.aload_n 0, 1) := by decide +kernel
theorem e_M_sets_1 : decode (mB I_M_sets) 1 = .ok (.getfield 9, 3) := by decide +kernel
theorem e_M_sets_4 : decode (mB I_M_sets) 4 = .ok (.iload_n 1, 1) := by decide +kernel
theorem e_M_sets_5 : decode (mB I_M_sets) 5 = .ok (.iaload, 1) := by decide +kernel
theorem e_M_sets_6 : decode (mB I_M_sets) 6 = .ok (.istore_n 3, 1) := by decide +kernel
theorem e_M_sets_7 : decode (mB I_M_sets) 7 = .ok (.aload_n 0, 1) := by decide +kernel
theorem e_M_sets_8 : decode (mB I_M_sets) 8 = .ok (.getfield 9, 3) := by decide +kernel
theorem e_M_sets_11 : decode (mB I_M_sets) 11 = .ok (.iload_n 1, 1) := by decide +kernel
theorem e_M_sets_12 : decode (mB I_M_sets) 12 = .ok (.iload_n 2, 1) := by decide +kernel
theorem e_M_sets_13 : decode (mB I_M_sets) 13 = .ok (.iastore, 1) := by decide +kernel
theorem e_M_sets_14 : decode (mB I_M_sets) 14 = .ok (.iload_n 3, 1) := by decide +kernel
theorem e_M_sets_15 : decode (mB I_M_sets) 15 = .ok (.ireturn, 1) := by decide +kernel
theorem e_M_named_0 : decode (mB I_M_named) 0 = .ok (.iconst 0, 1) := by decide +kernel
theorem e_M_named_1 : decode (mB I_M_named) 1 = .ok (.istore_n 1, 1) := by decide +kernel
theorem e_M_named_2 : decode (mB I_M_named) 2 = .ok (.iload_n 1, 1) := by decide +kernel
theorem e_M_named_3 : decode (mB I_M_named) 3 = .ok (.aload_n 0, 1) := by decide +kernel
theorem e_M_named_4 : decode (mB I_M_named) 4 = .ok (.getfield 9, 3) := by decide +kernel
theorem e_M_named_7 : decode (mB I_M_named) 7 = .ok (.iconst 0, 1) := by decide +kernel
theorem e_M_named_8 : decode (mB I_M_named) 8 = .ok (.iaload, 1) := by decide +kernel
theorem e_M_named_9 : decode (mB I_M_named) 9 = .ok (.if_icmp .ge 93, 3) := by decide +kernel
theorem e_M_named_12 : decode (mB I_M_named) 12 = .ok (.iconst 4, 1) := by decide +kernel
theorem e_M_named_13 : decode (mB I_M_named) 13 = .ok (.bipush 14, 2) := by decide +kernel
theorem e_M_named_15 : decode (mB I_M_named) 15 = .ok (.iload_n 1, 1) := by decide +kernel
theorem e_M_named_16 : decode (mB I_M_named) 16 = .ok (.imul, 1) := by decide +kernel
theorem e_M_named_17 : decode (mB I_M_named) 17 = .ok (.iadd, 1) := by decide +kernel
theorem e_M_named_18 : decode (mB I_M_named) 18 = .ok (.bipush 7, 2) := by decide +kernel
theorem e_M_named_20 : decode (mB I_M_named) 20 = .ok (.iadd, 1) := by decide +kernel
theorem e_M_named_21 : decode (mB I_M_named) 21 = .ok (.istore_n 2, 1) := by decide +kernel
theorem e_M_named_22 : decode (mB I_M_named) 22 = .ok (.aload_n 0, 1) := by decide +kernel
theorem e_M_named_23 : decode (mB I_M_named) 23 = .ok (.getfield 9, 3) := by decide +kernel
theorem e_M_named_26 : decode (mB I_M_named) 26 = .ok (.iload_n 2, 1) := by decide +kernel
theorem e_M_named_27 : decode (mB I_M_named) 27 = .ok (.iaload, 1) := by decide +kernel
theorem e_M_named_28 : decode (mB I_M_named) 28 = .ok (.aload_n 0, 1) := by decide +kernel
theorem e_M_named_29 : decode (mB I_M_named) 29 = .ok (.getfield 153, 3) := by decide +kernel
theorem e_M_named_32 : decode (mB I_M_named) 32 = .ok (.if_icmp .ne 7, 3) := by decide +kernel
theorem e_M_named_35 : decode (mB I_M_named) 35 = .ok (.iconst 1, 1) := by decide +kernel
theorem e_M_named_36 : decode (mB I_M_named) 36 = .ok (.goto 4, 3) := by decide +kernel
theorem e_M_named_39 : decode (mB I_M_named) 39 = .ok (.iconst 0, 1) := by decide +kernel
theorem e_M_named_40 : decode (mB I_M_named) 40 = .ok (.istore_n 3, 1) := by decide +kernel
theorem e_M_named_41 : decode (mB I_M_named) 41 = .ok (.iconst 0, 1) := by decide +kernel
theorem e_M_named_42 : decode (mB I_M_named) 42 = .ok (.istore 4, 2) := by decide +kernel
theorem e_M_named_44 : decode (mB I_M_named) 44 = .ok (.iload_n 3, 1) := by decide +kernel
theorem e_M_named_45 : decode (mB I_M_named) 45 = .ok (.ifCond .eq 45, 3) := by decide +kernel
theorem e_M_named_48 : decode (mB I_M_named) 48 = .ok (.iload 4, 2) := by decide +kernel
theorem e_M_named_50 : decode (mB I_M_named) 50 = .ok (.aload_n 0, 1) := by decide +kernel
theorem e_M_named_51 : decode (mB I_M_named) 51 = .ok (.getfield 153, 3) := by decide +kernel
theorem e_M_named_54 : decode (mB I_M_named) 54 = .ok (.if_icmp .ge 36, 3) := by decide +kernel
theorem e_M_named_57 : decode (mB I_M_named) 57 = .ok (.aload_n 0, 1) := by decide +kernel
theorem e_M_named_58 : decode (mB I_M_named) 58 = .ok (.getfield 9, 3) := by decide +kernel
theorem e_M_named_61 : decode (mB I_M_named) 61 = .ok (.iload_n 2, 1) := by decide +kernel
theorem e_M_named_62 : decode (mB I_M_named) 62 = .ok (.iload 4, 2) := by decide +kernel
theorem e_M_named_64 : decode (mB I_M_named) 64 = .ok (.iadd, 1) := by decide +kernel
theorem e_M_named_65 : decode (mB I_M_named) 65 = .ok (.iconst 1, 1) := by decide +kernel
theorem e_M_named_66 : decode (mB I_M_named) 66 = .ok (.iadd, 1) := by decide +kernel
theorem e_M_named_67 : decode (mB I_M_named) 67 = .ok (.iaload, 1) := by decide +kernel
theorem e_M_named_68 : decode (mB I_M_named) 68 = .ok (.aload_n 0, 1) := by decide +kernel
theorem e_M_named_69 : decode (mB I_M_named) 69 = .ok (.getfield 51, 3) := by decide +kernel
theorem e_M_named_72 : decode (mB I_M_named) 72 = .ok (.iload 4, 2) := by decide +kernel
theorem e_M_named_74 : decode (mB I_M_named) 74 = .ok (.iaload, 1) := by decide +kernel
theorem e_M_named_75 : decode (mB I_M_named) 75 = .ok (.if_icmp .ne 7, 3) := by decide +kernel
theorem e_M_named_78 : decode (mB I_M_named) 78 = .ok (.iconst 1, 1) := by decide +kernel
theorem e_M_named_79 : decode (mB I_M_named) 79 = .ok (.goto 4, 3) := by decide +kernel
theorem e_M_named_82 : decode (mB I_M_named) 82 = .ok (.iconst 0, 1) := by decide +kernel
theorem e_M_named_83 : decode (mB I_M_named) 83 = .ok (.istore_n 3, 1) := by decide +kernel
theorem e_M_named_84 : decode (mB I_M_named) 84 = .ok (.iinc 4 1, 3) := by decide +kernel
theorem e_M_named_87 : decode (mB I_M_named) 87 = .ok (.goto (-43), 3) := by decide +kernel
theorem e_M_named_90 : decode (mB I_M_named) 90 = .ok (.iload_n 3, 1) := by decide +kernel
theorem e_M_named_91 : decode (mB I_M_named) 91 = .ok (.ifCond .eq 5, 3) := by decide +kernel
theorem e_M_named_94 : decode (mB I_M_named) 94 = .ok (.iload_n 1, 1) := by decide +kernel
theorem e_M_named_95 : decode (mB I_M_named) 95 = .ok (.ireturn, 1) := by decide +kernel
theorem e_M_named_96 : decode (mB I_M_named) 96 = .ok (.iinc 1 1, 3) := by decide +kernel
theorem e_M_named_99 : decode (mB I_M_named) 99 = .ok (.goto (-97), 3) := by decide +kernel
theorem e_M_named_102 : decode (mB I_M_named) 102 = .ok (.iconst (-1), 1) := by decide +kernel
theorem e_M_named_103 : decode (mB I_M_named) 103 = .ok (.ireturn, 1) := by decide +kernel
theorem e_M_layName_0 : decode (mB I_M_layName) 0 = .ok (.aload_n 0, 1) := by decide +kernel
theorem e_M_layName_1 : decode (mB I_M_layName) 1 = .ok (.aload_n 0, 1) := by decide +kernel
theorem e_M_layName_2 : decode (mB I_M_layName) 2 = .ok (.getfield 9, 3) := by decide +kernel
theorem e_M_layName_5 : decode (mB I_M_layName) 5 = .ok (.iconst 0, 1) := by decide +kernel
theorem e_M_layName_6 : decode (mB I_M_layName) 6 = .ok (.iaload, 1) := by decide +kernel
theorem e_M_layName_7 : decode (mB I_M_layName) 7 = .ok (.bipush 7, 2) := by decide +kernel
theorem e_M_layName_9 : decode (mB I_M_layName) 9 = .ok (.aload_n 0, 1) := by decide +kernel
theorem e_M_layName_10 : decode (mB I_M_layName) 10 = .ok (.getfield 153, 3) := by decide +kernel
theorem e_M_layName_13 : decode (mB I_M_layName) 13 = .ok (.invokevirtual 149, 3) := by decide +kernel
theorem e_M_layName_16 : decode (mB I_M_layName) 16 = .ok (.iconst 0, 1) := by decide +kernel
theorem e_M_layName_17 : decode (mB I_M_layName) 17 = .ok (.istore_n 1, 1) := by decide +kernel
theorem e_M_layName_18 : decode (mB I_M_layName) 18 = .ok (.iload_n 1, 1) := by decide +kernel
theorem e_M_layName_19 : decode (mB I_M_layName) 19 = .ok (.aload_n 0, 1) := by decide +kernel
theorem e_M_layName_20 : decode (mB I_M_layName) 20 = .ok (.getfield 153, 3) := by decide +kernel
theorem e_M_layName_23 : decode (mB I_M_layName) 23 = .ok (.if_icmp .ge 29, 3) := by decide +kernel
theorem e_M_layName_26 : decode (mB I_M_layName) 26 = .ok (.aload_n 0, 1) := by decide +kernel
theorem e_M_layName_27 : decode (mB I_M_layName) 27 = .ok (.aload_n 0, 1) := by decide +kernel
theorem e_M_layName_28 : decode (mB I_M_layName) 28 = .ok (.getfield 9, 3) := by decide +kernel
theorem e_M_layName_31 : decode (mB I_M_layName) 31 = .ok (.iconst 0, 1) := by decide +kernel
theorem e_M_layName_32 : decode (mB I_M_layName) 32 = .ok (.iaload, 1) := by decide +kernel
theorem e_M_layName_33 : decode (mB I_M_layName) 33 = .ok (.bipush 8, 2) := by decide +kernel
theorem e_M_layName_35 : decode (mB I_M_layName) 35 = .ok (.iload_n 1, 1) := by decide +kernel
theorem e_M_layName_36 : decode (mB I_M_layName) 36 = .ok (.iadd, 1) := by decide +kernel
theorem e_M_layName_37 : decode (mB I_M_layName) 37 = .ok (.aload_n 0, 1) := by decide +kernel
theorem e_M_layName_38 : decode (mB I_M_layName) 38 = .ok (.getfield 51, 3) := by decide +kernel
theorem e_M_layName_41 : decode (mB I_M_layName) 41 = .ok (.iload_n 1, 1) := by decide +kernel
theorem e_M_layName_42 : decode (mB I_M_layName) 42 = .ok (.iaload, 1) := by decide +kernel
theorem e_M_layName_43 : decode (mB I_M_layName) 43 = .ok (.invokevirtual 149, 3) := by decide +kernel
theorem e_M_layName_46 : decode (mB I_M_layName) 46 = .ok (.iinc 1 1, 3) := by decide +kernel
theorem e_M_layName_49 : decode (mB I_M_layName) 49 = .ok (.goto (-31), 3) := by decide +kernel
theorem e_M_layName_52 : decode (mB I_M_layName) 52 = .ok (.return_, 1) := by decide +kernel
theorem e_M_four_0 : decode (mB I_M_four) 0 = .ok (.bipush 24, 2) := by decide +kernel
theorem e_M_four_2 : decode (mB I_M_four) 2 = .ok (.istore_n 2, 1) := by decide +kernel
theorem e_M_four_3 : decode (mB I_M_four) 3 = .ok (.iload_n 2, 1) := by decide +kernel
theorem e_M_four_4 : decode (mB I_M_four) 4 = .ok (.ifCond .lt 35, 3) := by decide +kernel
theorem e_M_four_7 : decode (mB I_M_four) 7 = .ok (.aload_n 0, 1) := by decide +kernel
theorem e_M_four_8 : decode (mB I_M_four) 8 = .ok (.getfield 29, 3) := by decide +kernel
theorem e_M_four_11 : decode (mB I_M_four) 11 = .ok (.aload_n 0, 1) := by decide +kernel
theorem e_M_four_12 : decode (mB I_M_four) 12 = .ok (.getfield 66, 3) := by decide +kernel
theorem e_M_four_15 : decode (mB I_M_four) 15 = .ok (.iload_n 1, 1) := by decide +kernel
theorem e_M_four_16 : decode (mB I_M_four) 16 = .ok (.iload_n 2, 1) := by decide +kernel
theorem e_M_four_17 : decode (mB I_M_four) 17 = .ok (.ishr, 1) := by decide +kernel
theorem e_M_four_18 : decode (mB I_M_four) 18 = .ok (.sipush 255, 3) := by decide +kernel
theorem e_M_four_21 : decode (mB I_M_four) 21 = .ok (.iand, 1) := by decide +kernel
theorem e_M_four_22 : decode (mB I_M_four) 22 = .ok (.iastore, 1) := by decide +kernel
theorem e_M_four_23 : decode (mB I_M_four) 23 = .ok (.aload_n 0, 1) := by decide +kernel
theorem e_M_four_24 : decode (mB I_M_four) 24 = .ok (.dup, 1) := by decide +kernel
theorem e_M_four_25 : decode (mB I_M_four) 25 = .ok (.getfield 66, 3) := by decide +kernel
theorem e_M_four_28 : decode (mB I_M_four) 28 = .ok (.iconst 1, 1) := by decide +kernel
theorem e_M_four_29 : decode (mB I_M_four) 29 = .ok (.iadd, 1) := by decide +kernel
theorem e_M_four_30 : decode (mB I_M_four) 30 = .ok (.putfield 66, 3) := by decide +kernel
theorem e_M_four_33 : decode (mB I_M_four) 33 = .ok (.iinc 2 (-8), 3) := by decide +kernel
theorem e_M_four_36 : decode (mB I_M_four) 36 = .ok (.goto (-33), 3) := by decide +kernel
theorem e_M_four_39 : decode (mB I_M_four) 39 = .ok (.return_, 1) := by decide +kernel
theorem e_M_append_0 : decode (mB I_M_append) 0 = .ok (.aload_n 0, 1) := by decide +kernel
theorem e_M_append_1 : decode (mB I_M_append) 1 = .ok (.iconst 0, 1) := by decide +kernel
theorem e_M_append_2 : decode (mB I_M_append) 2 = .ok (.putfield 79, 3) := by decide +kernel
theorem e_M_append_5 : decode (mB I_M_append) 5 = .ok (.aload_n 0, 1) := by decide +kernel
theorem e_M_append_6 : decode (mB I_M_append) 6 = .ok (.getfield 66, 3) := by decide +kernel
theorem e_M_append_9 : decode (mB I_M_append) 9 = .ok (.bipush 20, 2) := by decide +kernel
theorem e_M_append_11 : decode (mB I_M_append) 11 = .ok (.iadd, 1) := by decide +kernel
theorem e_M_append_12 : decode (mB I_M_append) 12 = .ok (.sipush 900, 3) := by decide +kernel
theorem e_M_append_15 : decode (mB I_M_append) 15 = .ok (.if_icmp .le 5, 3) := by decide +kernel
theorem e_M_append_18 : decode (mB I_M_append) 18 = .ok (.iconst (-1), 1) := by decide +kernel
theorem e_M_append_19 : decode (mB I_M_append) 19 = .ok (.ireturn, 1) := by decide +kernel
theorem e_M_append_20 : decode (mB I_M_append) 20 = .ok (.aload_n 0, 1) := by decide +kernel
theorem e_M_append_21 : decode (mB I_M_append) 21 = .ok (.iload_n 1, 1) := by decide +kernel
theorem e_M_append_22 : decode (mB I_M_append) 22 = .ok (.invokevirtual 156, 3) := by decide +kernel
theorem e_M_append_25 : decode (mB I_M_append) 25 = .ok (.aload_n 0, 1) := by decide +kernel
theorem e_M_append_26 : decode (mB I_M_append) 26 = .ok (.iload_n 2, 1) := by decide +kernel
theorem e_M_append_27 : decode (mB I_M_append) 27 = .ok (.invokevirtual 156, 3) := by decide +kernel
theorem e_M_append_30 : decode (mB I_M_append) 30 = .ok (.aload_n 0, 1) := by decide +kernel
theorem e_M_append_31 : decode (mB I_M_append) 31 = .ok (.iload_n 3, 1) := by decide +kernel
theorem e_M_append_32 : decode (mB I_M_append) 32 = .ok (.invokevirtual 156, 3) := by decide +kernel
theorem e_M_append_35 : decode (mB I_M_append) 35 = .ok (.aload_n 0, 1) := by decide +kernel
theorem e_M_append_36 : decode (mB I_M_append) 36 = .ok (.iload 4, 2) := by decide +kernel
theorem e_M_append_38 : decode (mB I_M_append) 38 = .ok (.invokevirtual 156, 3) := by decide +kernel
theorem e_M_append_41 : decode (mB I_M_append) 41 = .ok (.aload_n 0, 1) := by decide +kernel
theorem e_M_append_42 : decode (mB I_M_append) 42 = .ok (.iload 5, 2) := by decide +kernel
theorem e_M_append_44 : decode (mB I_M_append) 44 = .ok (.invokevirtual 156, 3) := by decide +kernel
theorem e_M_append_47 : decode (mB I_M_append) 47 = .ok (.aload_n 0, 1) := by decide +kernel
theorem e_M_append_48 : decode (mB I_M_append) 48 = .ok (.getfield 66, 3) := by decide +kernel
theorem e_M_append_51 : decode (mB I_M_append) 51 = .ok (.ireturn, 1) := by decide +kernel
theorem e_M_truncateInput_0 : decode (mB I_M_truncateInput) 0 = .ok (.aload_n 0, 1) := by decide +kernel
theorem e_M_truncateInput_1 : decode (mB I_M_truncateInput) 1 = .ok (.iload_n 1, 1) := by decide +kernel
theorem e_M_truncateInput_2 : decode (mB I_M_truncateInput) 2 = .ok (.iconst 0, 1) := by decide +kernel
theorem e_M_truncateInput_3 : decode (mB I_M_truncateInput) 3 = .ok (.aload_n 0, 1) := by decide +kernel
theorem e_M_truncateInput_4 : decode (mB I_M_truncateInput) 4 = .ok (.getfield 66, 3) := by decide +kernel
theorem e_M_truncateInput_7 : decode (mB I_M_truncateInput) 7 = .ok (.invokestatic 92, 3) := by decide +kernel
theorem e_M_truncateInput_10 : decode (mB I_M_truncateInput) 10 = .ok (.ifCond .ne 7, 3) := by decide +kernel
theorem e_M_truncateInput_13 : decode (mB I_M_truncateInput) 13 = .ok (.iconst 1, 1) := by decide +kernel
theorem e_M_truncateInput_14 : decode (mB I_M_truncateInput) 14 = .ok (.goto 4, 3) := by decide +kernel
theorem e_M_truncateInput_17 : decode (mB I_M_truncateInput) 17 = .ok (.iconst 0, 1) := by decide +kernel
theorem e_M_truncateInput_18 : decode (mB I_M_truncateInput) 18 = .ok (.iconst 0, 1) := by decide +kernel
theorem e_M_truncateInput_19 : decode (mB I_M_truncateInput) 19 = .ok (.iconst 0, 1) := by decide +kernel
theorem e_M_truncateInput_20 : decode (mB I_M_truncateInput) 20 = .ok (.invokevirtual 160, 3) := by decide +kernel
theorem e_M_truncateInput_23 : decode (mB I_M_truncateInput) 23 = .ok (.ifCond .eq 5, 3) := by decide +kernel
theorem e_M_truncateInput_26 : decode (mB I_M_truncateInput) 26 = .ok (.iconst 0, 1) := by decide +kernel
theorem e_M_truncateInput_27 : decode (mB I_M_truncateInput) 27 = .ok (.ireturn, 1) := by decide +kernel
theorem e_M_truncateInput_28 : decode (mB I_M_truncateInput) 28 = .ok (.aload_n 0, 1) := by decide +kernel
theorem e_M_truncateInput_29 : decode (mB I_M_truncateInput) 29 = .ok (.iload_n 1, 1) := by decide +kernel
theorem e_M_truncateInput_30 : decode (mB I_M_truncateInput) 30 = .ok (.putfield 66, 3) := by decide +kernel
theorem e_M_truncateInput_33 : decode (mB I_M_truncateInput) 33 = .ok (.iload_n 1, 1) := by decide +kernel
theorem e_M_truncateInput_34 : decode (mB I_M_truncateInput) 34 = .ok (.ireturn, 1) := by decide +kernel
theorem e_M_isLetter_0 : decode (mB I_M_isLetter) 0 = .ok (.iload_n 1, 1) := by decide +kernel
theorem e_M_isLetter_1 : decode (mB I_M_isLetter) 1 = .ok (.aload_n 0, 1) := by decide +kernel
theorem e_M_isLetter_2 : decode (mB I_M_isLetter) 2 = .ok (.getfield 66, 3) := by decide +kernel
theorem e_M_isLetter_5 : decode (mB I_M_isLetter) 5 = .ok (.if_icmp .ge 23, 3) := by decide +kernel
theorem e_M_isLetter_8 : decode (mB I_M_isLetter) 8 = .ok (.aload_n 0, 1) := by decide +kernel
theorem e_M_isLetter_9 : decode (mB I_M_isLetter) 9 = .ok (.getfield 29, 3) := by decide +kernel
theorem e_M_isLetter_12 : decode (mB I_M_isLetter) 12 = .ok (.iload_n 1, 1) := by decide +kernel
theorem e_M_isLetter_13 : decode (mB I_M_isLetter) 13 = .ok (.iaload, 1) := by decide +kernel
theorem e_M_isLetter_14 : decode (mB I_M_isLetter) 14 = .ok (.bipush 97, 2) := by decide +kernel
theorem e_M_isLetter_16 : decode (mB I_M_isLetter) 16 = .ok (.bipush 122, 2) := by decide +kernel
theorem e_M_isLetter_18 : decode (mB I_M_isLetter) 18 = .ok (.invokestatic 92, 3) := by decide +kernel
theorem e_M_isLetter_21 : decode (mB I_M_isLetter) 21 = .ok (.ifCond .eq 7, 3) := by decide +kernel
theorem e_M_isLetter_24 : decode (mB I_M_isLetter) 24 = .ok (.iconst 1, 1) := by decide +kernel
theorem e_M_isLetter_25 : decode (mB I_M_isLetter) 25 = .ok (.goto 4, 3) := by decide +kernel
theorem e_M_isLetter_28 : decode (mB I_M_isLetter) 28 = .ok (.iconst 0, 1) := by decide +kernel
theorem e_M_isLetter_29 : decode (mB I_M_isLetter) 29 = .ok (.ireturn, 1) := by decide +kernel
theorem e_M_isDigit_0 : decode (mB I_M_isDigit) 0 = .ok (.iload_n 1, 1) := by decide +kernel
theorem e_M_isDigit_1 : decode (mB I_M_isDigit) 1 = .ok (.aload_n 0, 1) := by decide +kernel
theorem e_M_isDigit_2 : decode (mB I_M_isDigit) 2 = .ok (.getfield 66, 3) := by decide +kernel
theorem e_M_isDigit_5 : decode (mB I_M_isDigit) 5 = .ok (.if_icmp .ge 23, 3) := by decide +kernel
theorem e_M_isDigit_8 : decode (mB I_M_isDigit) 8 = .ok (.aload_n 0, 1) := by decide +kernel
theorem e_M_isDigit_9 : decode (mB I_M_isDigit) 9 = .ok (.getfield 29, 3) := by decide +kernel
theorem e_M_isDigit_12 : decode (mB I_M_isDigit) 12 = .ok (.iload_n 1, 1) := by decide +kernel
theorem e_M_isDigit_13 : decode (mB I_M_isDigit) 13 = .ok (.iaload, 1) := by decide +kernel
theorem e_M_isDigit_14 : decode (mB I_M_isDigit) 14 = .ok (.bipush 48, 2) := by decide +kernel
theorem e_M_isDigit_16 : decode (mB I_M_isDigit) 16 = .ok (.bipush 57, 2) := by decide +kernel
theorem e_M_isDigit_18 : decode (mB I_M_isDigit) 18 = .ok (.invokestatic 92, 3) := by decide +kernel
theorem e_M_isDigit_21 : decode (mB I_M_isDigit) 21 = .ok (.ifCond .eq 7, 3) := by decide +kernel
theorem e_M_isDigit_24 : decode (mB I_M_isDigit) 24 = .ok (.iconst 1, 1) := by decide +kernel
theorem e_M_isDigit_25 : decode (mB I_M_isDigit) 25 = .ok (.goto 4, 3) := by decide +kernel
theorem e_M_isDigit_28 : decode (mB I_M_isDigit) 28 = .ok (.iconst 0, 1) := by decide +kernel
theorem e_M_isDigit_29 : decode (mB I_M_isDigit) 29 = .ok (.ireturn, 1) := by decide +kernel
theorem e_M_next_0 : decode (mB I_M_next) 0 = .ok (.aload_n 0, 1) := by decide +kernel
theorem e_M_next_1 : decode (mB I_M_next) 1 = .ok (.getfield 164, 3) := by decide +kernel
theorem e_M_next_4 : decode (mB I_M_next) 4 = .ok (.aload_n 0, 1) := by decide +kernel
theorem e_M_next_5 : decode (mB I_M_next) 5 = .ok (.getfield 66, 3) := by decide +kernel
theorem e_M_next_8 : decode (mB I_M_next) 8 = .ok (.if_icmp .ge 30, 3) := by decide +kernel
theorem e_M_next_11 : decode (mB I_M_next) 11 = .ok (.aload_n 0, 1) := by decide +kernel
theorem e_M_next_12 : decode (mB I_M_next) 12 = .ok (.getfield 29, 3) := by decide +kernel
theorem e_M_next_15 : decode (mB I_M_next) 15 = .ok (.aload_n 0, 1) := by decide +kernel
theorem e_M_next_16 : decode (mB I_M_next) 16 = .ok (.getfield 164, 3) := by decide +kernel
theorem e_M_next_19 : decode (mB I_M_next) 19 = .ok (.iaload, 1) := by decide +kernel
theorem e_M_next_20 : decode (mB I_M_next) 20 = .ok (.bipush 32, 2) := by decide +kernel
theorem e_M_next_22 : decode (mB I_M_next) 22 = .ok (.if_icmp .ne 16, 3) := by decide +kernel
theorem e_M_next_25 : decode (mB I_M_next) 25 = .ok (.aload_n 0, 1) := by decide +kernel
theorem e_M_next_26 : decode (mB I_M_next) 26 = .ok (.dup, 1) := by decide +kernel
theorem e_M_next_27 : decode (mB I_M_next) 27 = .ok (.getfield 164, 3) := by decide +kernel
theorem e_M_next_30 : decode (mB I_M_next) 30 = .ok (.iconst 1, 1) := by decide +kernel
theorem e_M_next_31 : decode (mB I_M_next) 31 = .ok (.iadd, 1) := by decide +kernel
theorem e_M_next_32 : decode (mB I_M_next) 32 = .ok (.putfield 164, 3) := by decide +kernel
theorem e_M_next_35 : decode (mB I_M_next) 35 = .ok (.goto (-35), 3) := by decide +kernel
theorem e_M_next_38 : decode (mB I_M_next) 38 = .ok (.aload_n 0, 1) := by decide +kernel
theorem e_M_next_39 : decode (mB I_M_next) 39 = .ok (.aload_n 0, 1) := by decide +kernel
theorem e_M_next_40 : decode (mB I_M_next) 40 = .ok (.getfield 164, 3) := by decide +kernel
theorem e_M_next_43 : decode (mB I_M_next) 43 = .ok (.putfield 167, 3) := by decide +kernel
theorem e_M_next_46 : decode (mB I_M_next) 46 = .ok (.aload_n 0, 1) := by decide +kernel
theorem e_M_next_47 : decode (mB I_M_next) 47 = .ok (.getfield 164, 3) := by decide +kernel
theorem e_M_next_50 : decode (mB I_M_next) 50 = .ok (.aload_n 0, 1) := by decide +kernel
theorem e_M_next_51 : decode (mB I_M_next) 51 = .ok (.getfield 66, 3) := by decide +kernel
theorem e_M_next_54 : decode (mB I_M_next) 54 = .ok (.if_icmp .ne 11, 3) := by decide +kernel
theorem e_M_next_57 : decode (mB I_M_next) 57 = .ok (.aload_n 0, 1) := by decide +kernel
theorem e_M_next_58 : decode (mB I_M_next) 58 = .ok (.iconst 0, 1) := by decide +kernel
theorem e_M_next_59 : decode (mB I_M_next) 59 = .ok (.putfield 170, 3) := by decide +kernel
theorem e_M_next_62 : decode (mB I_M_next) 62 = .ok (.goto 150, 3) := by decide +kernel
theorem e_M_next_65 : decode (mB I_M_next) 65 = .ok (.aload_n 0, 1) := by decide +kernel
theorem e_M_next_66 : decode (mB I_M_next) 66 = .ok (.aload_n 0, 1) := by decide +kernel
theorem e_M_next_67 : decode (mB I_M_next) 67 = .ok (.getfield 164, 3) := by decide +kernel
theorem e_M_next_70 : decode (mB I_M_next) 70 = .ok (.invokevirtual 173, 3) := by decide +kernel
theorem e_M_next_73 : decode (mB I_M_next) 73 = .ok (.ifCond .eq 32, 3) := by decide +kernel
theorem e_M_next_76 : decode (mB I_M_next) 76 = .ok (.aload_n 0, 1) := by decide +kernel
theorem e_M_next_77 : decode (mB I_M_next) 77 = .ok (.iconst 1, 1) := by decide +kernel
theorem e_M_next_78 : decode (mB I_M_next) 78 = .ok (.putfield 170, 3) := by decide +kernel
theorem e_M_next_81 : decode (mB I_M_next) 81 = .ok (.aload_n 0, 1) := by decide +kernel
theorem e_M_next_82 : decode (mB I_M_next) 82 = .ok (.aload_n 0, 1) := by decide +kernel
theorem e_M_next_83 : decode (mB I_M_next) 83 = .ok (.getfield 164, 3) := by decide +kernel
theorem e_M_next_86 : decode (mB I_M_next) 86 = .ok (.invokevirtual 173, 3) := by decide +kernel
theorem e_M_next_89 : decode (mB I_M_next) 89 = .ok (.ifCond .eq 123, 3) := by decide +kernel
theorem e_M_next_92 : decode (mB I_M_next) 92 = .ok (.aload_n 0, 1) := by decide +kernel
theorem e_M_next_93 : decode (mB I_M_next) 93 = .ok (.dup, 1) := by decide +kernel
theorem e_M_next_94 : decode (mB I_M_next) 94 = .ok (.getfield 164, 3) := by decide +kernel
theorem e_M_next_97 : decode (mB I_M_next) 97 = .ok (.iconst 1, 1) := by decide +kernel
theorem e_M_next_98 : decode (mB I_M_next) 98 = .ok (.iadd, 1) := by decide +kernel
theorem e_M_next_99 : decode (mB I_M_next) 99 = .ok (.putfield 164, 3) := by decide +kernel
theorem e_M_next_102 : decode (mB I_M_next) 102 = .ok (.goto (-21), 3) := by decide +kernel
theorem e_M_next_105 : decode (mB I_M_next) 105 = .ok (.aload_n 0, 1) := by decide +kernel
theorem e_M_next_106 : decode (mB I_M_next) 106 = .ok (.aload_n 0, 1) := by decide +kernel
theorem e_M_next_107 : decode (mB I_M_next) 107 = .ok (.getfield 164, 3) := by decide +kernel
theorem e_M_next_110 : decode (mB I_M_next) 110 = .ok (.invokevirtual 176, 3) := by decide +kernel
theorem e_M_next_113 : decode (mB I_M_next) 113 = .ok (.ifCond .eq 66, 3) := by decide +kernel
theorem e_M_next_116 : decode (mB I_M_next) 116 = .ok (.aload_n 0, 1) := by decide +kernel
theorem e_M_next_117 : decode (mB I_M_next) 117 = .ok (.iconst 2, 1) := by decide +kernel
theorem e_M_next_118 : decode (mB I_M_next) 118 = .ok (.putfield 170, 3) := by decide +kernel
theorem e_M_next_121 : decode (mB I_M_next) 121 = .ok (.aload_n 0, 1) := by decide +kernel
theorem e_M_next_122 : decode (mB I_M_next) 122 = .ok (.iconst 0, 1) := by decide +kernel
theorem e_M_next_123 : decode (mB I_M_next) 123 = .ok (.putfield 179, 3) := by decide +kernel
theorem e_M_next_126 : decode (mB I_M_next) 126 = .ok (.aload_n 0, 1) := by decide +kernel
theorem e_M_next_127 : decode (mB I_M_next) 127 = .ok (.aload_n 0, 1) := by decide +kernel
theorem e_M_next_128 : decode (mB I_M_next) 128 = .ok (.getfield 164, 3) := by decide +kernel
theorem e_M_next_131 : decode (mB I_M_next) 131 = .ok (.invokevirtual 176, 3) := by decide +kernel
theorem e_M_next_134 : decode (mB I_M_next) 134 = .ok (.ifCond .eq 78, 3) := by decide +kernel
theorem e_M_next_137 : decode (mB I_M_next) 137 = .ok (.aload_n 0, 1) := by decide +kernel
theorem e_M_next_138 : decode (mB I_M_next) 138 = .ok (.ldc 182, 2) := by decide +kernel
theorem e_M_next_140 : decode (mB I_M_next) 140 = .ok (.aload_n 0, 1) := by decide +kernel
theorem e_M_next_141 : decode (mB I_M_next) 141 = .ok (.getfield 179, 3) := by decide +kernel
theorem e_M_next_144 : decode (mB I_M_next) 144 = .ok (.bipush 10, 2) := by decide +kernel
theorem e_M_next_146 : decode (mB I_M_next) 146 = .ok (.imul, 1) := by decide +kernel
theorem e_M_next_147 : decode (mB I_M_next) 147 = .ok (.aload_n 0, 1) := by decide +kernel
theorem e_M_next_148 : decode (mB I_M_next) 148 = .ok (.getfield 29, 3) := by decide +kernel
theorem e_M_next_151 : decode (mB I_M_next) 151 = .ok (.aload_n 0, 1) := by decide +kernel
theorem e_M_next_152 : decode (mB I_M_next) 152 = .ok (.getfield 164, 3) := by decide +kernel
theorem e_M_next_155 : decode (mB I_M_next) 155 = .ok (.iaload, 1) := by decide +kernel
theorem e_M_next_156 : decode (mB I_M_next) 156 = .ok (.iadd, 1) := by decide +kernel
theorem e_M_next_157 : decode (mB I_M_next) 157 = .ok (.bipush 48, 2) := by decide +kernel
theorem e_M_next_159 : decode (mB I_M_next) 159 = .ok (.isub, 1) := by decide +kernel
theorem e_M_next_160 : decode (mB I_M_next) 160 = .ok (.invokestatic 183, 3) := by decide +kernel
theorem e_M_next_163 : decode (mB I_M_next) 163 = .ok (.putfield 179, 3) := by decide +kernel
theorem e_M_next_166 : decode (mB I_M_next) 166 = .ok (.aload_n 0, 1) := by decide +kernel
theorem e_M_next_167 : decode (mB I_M_next) 167 = .ok (.dup, 1) := by decide +kernel
theorem e_M_next_168 : decode (mB I_M_next) 168 = .ok (.getfield 164, 3) := by decide +kernel
theorem e_M_next_171 : decode (mB I_M_next) 171 = .ok (.iconst 1, 1) := by decide +kernel
theorem e_M_next_172 : decode (mB I_M_next) 172 = .ok (.iadd, 1) := by decide +kernel
theorem e_M_next_173 : decode (mB I_M_next) 173 = .ok (.putfield 164, 3) := by decide +kernel
theorem e_M_next_176 : decode (mB I_M_next) 176 = .ok (.goto (-50), 3) := by decide +kernel
theorem e_M_next_179 : decode (mB I_M_next) 179 = .ok (.aload_n 0, 1) := by decide +kernel
theorem e_M_next_180 : decode (mB I_M_next) 180 = .ok (.aload_n 0, 1) := by decide +kernel
theorem e_M_next_181 : decode (mB I_M_next) 181 = .ok (.getfield 29, 3) := by decide +kernel
theorem e_M_next_184 : decode (mB I_M_next) 184 = .ok (.aload_n 0, 1) := by decide +kernel
theorem e_M_next_185 : decode (mB I_M_next) 185 = .ok (.getfield 164, 3) := by decide +kernel
theorem e_M_next_188 : decode (mB I_M_next) 188 = .ok (.iaload, 1) := by decide +kernel
theorem e_M_next_189 : decode (mB I_M_next) 189 = .ok (.bipush 59, 2) := by decide +kernel
theorem e_M_next_191 : decode (mB I_M_next) 191 = .ok (.if_icmp .ne 7, 3) := by decide +kernel
theorem e_M_next_194 : decode (mB I_M_next) 194 = .ok (.iconst 3, 1) := by decide +kernel
theorem e_M_next_195 : decode (mB I_M_next) 195 = .ok (.goto 4, 3) := by decide +kernel
theorem e_M_next_198 : decode (mB I_M_next) 198 = .ok (.iconst 4, 1) := by decide +kernel
theorem e_M_next_199 : decode (mB I_M_next) 199 = .ok (.putfield 170, 3) := by decide +kernel
theorem e_M_next_202 : decode (mB I_M_next) 202 = .ok (.aload_n 0, 1) := by decide +kernel
theorem e_M_next_203 : decode (mB I_M_next) 203 = .ok (.dup, 1) := by decide +kernel
theorem e_M_next_204 : decode (mB I_M_next) 204 = .ok (.getfield 164, 3) := by decide +kernel
theorem e_M_next_207 : decode (mB I_M_next) 207 = .ok (.iconst 1, 1) := by decide +kernel
theorem e_M_next_208 : decode (mB I_M_next) 208 = .ok (.iadd, 1) := by decide +kernel
theorem e_M_next_209 : decode (mB I_M_next) 209 = .ok (.putfield 164, 3) := by decide +kernel
theorem e_M_next_212 : decode (mB I_M_next) 212 = .ok (.return_, 1) := by decide +kernel
theorem e_M_is_0 : decode (mB I_M_is) 0 = .ok (.aload_n 0, 1) := by decide +kernel
theorem e_M_is_1 : decode (mB I_M_is) 1 = .ok (.getfield 188, 3) := by decide +kernel
theorem e_M_is_4 : decode (mB I_M_is) 4 = .ok (.ifCond .ne 27, 3) := by decide +kernel
theorem e_M_is_7 : decode (mB I_M_is) 7 = .ok (.aload_n 0, 1) := by decide +kernel
theorem e_M_is_8 : decode (mB I_M_is) 8 = .ok (.getfield 170, 3) := by decide +kernel
theorem e_M_is_11 : decode (mB I_M_is) 11 = .ok (.iconst 1, 1) := by decide +kernel
theorem e_M_is_12 : decode (mB I_M_is) 12 = .ok (.if_icmp .ne 19, 3) := by decide +kernel
theorem e_M_is_15 : decode (mB I_M_is) 15 = .ok (.aload_n 0, 1) := by decide +kernel
theorem e_M_is_16 : decode (mB I_M_is) 16 = .ok (.getfield 164, 3) := by decide +kernel
theorem e_M_is_19 : decode (mB I_M_is) 19 = .ok (.aload_n 0, 1) := by decide +kernel
theorem e_M_is_20 : decode (mB I_M_is) 20 = .ok (.getfield 167, 3) := by decide +kernel
theorem e_M_is_23 : decode (mB I_M_is) 23 = .ok (.isub, 1) := by decide +kernel
theorem e_M_is_24 : decode (mB I_M_is) 24 = .ok (.aload_n 1, 1) := by decide +kernel
theorem e_M_is_25 : decode (mB I_M_is) 25 = .ok (.invokevirtual 60, 3) := by decide +kernel
theorem e_M_is_28 : decode (mB I_M_is) 28 = .ok (.if_icmp .eq 5, 3) := by decide +kernel
theorem e_M_is_31 : decode (mB I_M_is) 31 = .ok (.iconst 0, 1) := by decide +kernel
theorem e_M_is_32 : decode (mB I_M_is) 32 = .ok (.ireturn, 1) := by decide +kernel
theorem e_M_is_33 : decode (mB I_M_is) 33 = .ok (.iconst 0, 1) := by decide +kernel
theorem e_M_is_34 : decode (mB I_M_is) 34 = .ok (.istore_n 2, 1) := by decide +kernel
theorem e_M_is_35 : decode (mB I_M_is) 35 = .ok (.iload_n 2, 1) := by decide +kernel
theorem e_M_is_36 : decode (mB I_M_is) 36 = .ok (.aload_n 1, 1) := by decide +kernel
theorem e_M_is_37 : decode (mB I_M_is) 37 = .ok (.invokevirtual 60, 3) := by decide +kernel
theorem e_M_is_40 : decode (mB I_M_is) 40 = .ok (.if_icmp .ge 30, 3) := by decide +kernel
theorem e_M_is_43 : decode (mB I_M_is) 43 = .ok (.aload_n 0, 1) := by decide +kernel
theorem e_M_is_44 : decode (mB I_M_is) 44 = .ok (.getfield 29, 3) := by decide +kernel
theorem e_M_is_47 : decode (mB I_M_is) 47 = .ok (.aload_n 0, 1) := by decide +kernel
theorem e_M_is_48 : decode (mB I_M_is) 48 = .ok (.getfield 167, 3) := by decide +kernel
theorem e_M_is_51 : decode (mB I_M_is) 51 = .ok (.iload_n 2, 1) := by decide +kernel
theorem e_M_is_52 : decode (mB I_M_is) 52 = .ok (.iadd, 1) := by decide +kernel
theorem e_M_is_53 : decode (mB I_M_is) 53 = .ok (.iaload, 1) := by decide +kernel
theorem e_M_is_54 : decode (mB I_M_is) 54 = .ok (.aload_n 1, 1) := by decide +kernel
theorem e_M_is_55 : decode (mB I_M_is) 55 = .ok (.iload_n 2, 1) := by decide +kernel
theorem e_M_is_56 : decode (mB I_M_is) 56 = .ok (.invokevirtual 69, 3) := by decide +kernel
theorem e_M_is_59 : decode (mB I_M_is) 59 = .ok (.if_icmp .eq 5, 3) := by decide +kernel
theorem e_M_is_62 : decode (mB I_M_is) 62 = .ok (.iconst 0, 1) := by decide +kernel
theorem e_M_is_63 : decode (mB I_M_is) 63 = .ok (.ireturn, 1) := by decide +kernel
theorem e_M_is_64 : decode (mB I_M_is) 64 = .ok (.iinc 2 1, 3) := by decide +kernel
theorem e_M_is_67 : decode (mB I_M_is) 67 = .ok (.goto (-32), 3) := by decide +kernel
theorem e_M_is_70 : decode (mB I_M_is) 70 = .ok (.iconst 1, 1) := by decide +kernel
theorem e_M_is_71 : decode (mB I_M_is) 71 = .ok (.ireturn, 1) := by decide +kernel
theorem e_M_wrong_0 : decode (mB I_M_wrong) 0 = .ok (.aload_n 0, 1) := by decide +kernel
theorem e_M_wrong_1 : decode (mB I_M_wrong) 1 = .ok (.getfield 188, 3) := by decide +kernel
theorem e_M_wrong_4 : decode (mB I_M_wrong) 4 = .ok (.ifCond .ne 7, 3) := by decide +kernel
theorem e_M_wrong_7 : decode (mB I_M_wrong) 7 = .ok (.iload_n 1, 1) := by decide +kernel
theorem e_M_wrong_8 : decode (mB I_M_wrong) 8 = .ok (.ifCond .ne 4, 3) := by decide +kernel
theorem e_M_wrong_11 : decode (mB I_M_wrong) 11 = .ok (.return_, 1) := by decide +kernel
theorem e_M_wrong_12 : decode (mB I_M_wrong) 12 = .ok (.aload_n 0, 1) := by decide +kernel
theorem e_M_wrong_13 : decode (mB I_M_wrong) 13 = .ok (.iconst 1, 1) := by decide +kernel
theorem e_M_wrong_14 : decode (mB I_M_wrong) 14 = .ok (.putfield 188, 3) := by decide +kernel
theorem e_M_wrong_17 : decode (mB I_M_wrong) 17 = .ok (.aload_n 0, 1) := by decide +kernel
theorem e_M_wrong_18 : decode (mB I_M_wrong) 18 = .ok (.iload_n 2, 1) := by decide +kernel
theorem e_M_wrong_19 : decode (mB I_M_wrong) 19 = .ok (.putfield 192, 3) := by decide +kernel
theorem e_M_wrong_22 : decode (mB I_M_wrong) 22 = .ok (.aload_n 0, 1) := by decide +kernel
theorem e_M_wrong_23 : decode (mB I_M_wrong) 23 = .ok (.aload_n 0, 1) := by decide +kernel
theorem e_M_wrong_24 : decode (mB I_M_wrong) 24 = .ok (.getfield 167, 3) := by decide +kernel
theorem e_M_wrong_27 : decode (mB I_M_wrong) 27 = .ok (.putfield 47, 3) := by decide +kernel
theorem e_M_wrong_30 : decode (mB I_M_wrong) 30 = .ok (.return_, 1) := by decide +kernel
theorem e_M_go_0 : decode (mB I_M_go) 0 = .ok (.aload_n 0, 1) := by decide +kernel
theorem e_M_go_1 : decode (mB I_M_go) 1 = .ok (.getfield 188, 3) := by decide +kernel
theorem e_M_go_4 : decode (mB I_M_go) 4 = .ok (.ifCond .ne 7, 3) := by decide +kernel
theorem e_M_go_7 : decode (mB I_M_go) 7 = .ok (.aload_n 0, 1) := by decide +kernel
theorem e_M_go_8 : decode (mB I_M_go) 8 = .ok (.invokevirtual 195, 3) := by decide +kernel
theorem e_M_go_11 : decode (mB I_M_go) 11 = .ok (.return_, 1) := by decide +kernel
theorem e_M_number_0 : decode (mB I_M_number) 0 = .ok (.aload_n 0, 1) := by decide +kernel
theorem e_M_number_1 : decode (mB I_M_number) 1 = .ok (.aload_n 0, 1) := by decide +kernel
theorem e_M_number_2 : decode (mB I_M_number) 2 = .ok (.getfield 170, 3) := by decide +kernel
theorem e_M_number_5 : decode (mB I_M_number) 5 = .ok (.iconst 2, 1) := by decide +kernel
theorem e_M_number_6 : decode (mB I_M_number) 6 = .ok (.if_icmp .eq 7, 3) := by decide +kernel
theorem e_M_number_9 : decode (mB I_M_number) 9 = .ok (.iconst 1, 1) := by decide +kernel
theorem e_M_number_10 : decode (mB I_M_number) 10 = .ok (.goto 4, 3) := by decide +kernel
theorem e_M_number_13 : decode (mB I_M_number) 13 = .ok (.iconst 0, 1) := by decide +kernel
theorem e_M_number_14 : decode (mB I_M_number) 14 = .ok (.iconst 1, 1) := by decide +kernel
theorem e_M_number_15 : decode (mB I_M_number) 15 = .ok (.invokevirtual 198, 3) := by decide +kernel
theorem e_M_number_18 : decode (mB I_M_number) 18 = .ok (.aload_n 0, 1) := by decide +kernel
theorem e_M_number_19 : decode (mB I_M_number) 19 = .ok (.aload_n 0, 1) := by decide +kernel
theorem e_M_number_20 : decode (mB I_M_number) 20 = .ok (.getfield 188, 3) := by decide +kernel
theorem e_M_number_23 : decode (mB I_M_number) 23 = .ok (.ifCond .ne 19, 3) := by decide +kernel
theorem e_M_number_26 : decode (mB I_M_number) 26 = .ok (.aload_n 0, 1) := by decide +kernel
theorem e_M_number_27 : decode (mB I_M_number) 27 = .ok (.getfield 179, 3) := by decide +kernel
theorem e_M_number_30 : decode (mB I_M_number) 30 = .ok (.iload_n 1, 1) := by decide +kernel
theorem e_M_number_31 : decode (mB I_M_number) 31 = .ok (.iload_n 2, 1) := by decide +kernel
theorem e_M_number_32 : decode (mB I_M_number) 32 = .ok (.invokestatic 92, 3) := by decide +kernel
theorem e_M_number_35 : decode (mB I_M_number) 35 = .ok (.ifCond .ne 7, 3) := by decide +kernel
theorem e_M_number_38 : decode (mB I_M_number) 38 = .ok (.iconst 1, 1) := by decide +kernel
theorem e_M_number_39 : decode (mB I_M_number) 39 = .ok (.goto 4, 3) := by decide +kernel
theorem e_M_number_42 : decode (mB I_M_number) 42 = .ok (.iconst 0, 1) := by decide +kernel
theorem e_M_number_43 : decode (mB I_M_number) 43 = .ok (.iconst 2, 1) := by decide +kernel
theorem e_M_number_44 : decode (mB I_M_number) 44 = .ok (.invokevirtual 198, 3) := by decide +kernel
theorem e_M_number_47 : decode (mB I_M_number) 47 = .ok (.aload_n 0, 1) := by decide +kernel
theorem e_M_number_48 : decode (mB I_M_number) 48 = .ok (.getfield 188, 3) := by decide +kernel
theorem e_M_number_51 : decode (mB I_M_number) 51 = .ok (.ifCond .eq 7, 3) := by decide +kernel
theorem e_M_number_54 : decode (mB I_M_number) 54 = .ok (.iload_n 1, 1) := by decide +kernel
theorem e_M_number_55 : decode (mB I_M_number) 55 = .ok (.goto 7, 3) := by decide +kernel
theorem e_M_number_58 : decode (mB I_M_number) 58 = .ok (.aload_n 0, 1) := by decide +kernel
theorem e_M_number_59 : decode (mB I_M_number) 59 = .ok (.getfield 179, 3) := by decide +kernel
theorem e_M_number_62 : decode (mB I_M_number) 62 = .ok (.istore_n 3, 1) := by decide +kernel
theorem e_M_number_63 : decode (mB I_M_number) 63 = .ok (.aload_n 0, 1) := by decide +kernel
theorem e_M_number_64 : decode (mB I_M_number) 64 = .ok (.invokevirtual 202, 3) := by decide +kernel
theorem e_M_number_67 : decode (mB I_M_number) 67 = .ok (.iload_n 3, 1) := by decide +kernel
theorem e_M_number_68 : decode (mB I_M_number) 68 = .ok (.ireturn, 1) := by decide +kernel
theorem e_M_bearingHere_0 : decode (mB I_M_bearingHere) 0 = .ok (.aload_n 0, 1) := by decide +kernel
theorem e_M_bearingHere_1 : decode (mB I_M_bearingHere) 1 = .ok (.aload_n 0, 1) := by decide +kernel
theorem e_M_bearingHere_2 : decode (mB I_M_bearingHere) 2 = .ok (.getfield 170, 3) := by decide +kernel
theorem e_M_bearingHere_5 : decode (mB I_M_bearingHere) 5 = .ok (.iconst 2, 1) := by decide +kernel
theorem e_M_bearingHere_6 : decode (mB I_M_bearingHere) 6 = .ok (.if_icmp .ne 17, 3) := by decide +kernel
theorem e_M_bearingHere_9 : decode (mB I_M_bearingHere) 9 = .ok (.aload_n 0, 1) := by decide +kernel
theorem e_M_bearingHere_10 : decode (mB I_M_bearingHere) 10 = .ok (.getfield 179, 3) := by decide +kernel
theorem e_M_bearingHere_13 : decode (mB I_M_bearingHere) 13 = .ok (.bipush 15, 2) := by decide +kernel
theorem e_M_bearingHere_15 : decode (mB I_M_bearingHere) 15 = .ok (.irem, 1) := by decide +kernel
theorem e_M_bearingHere_16 : decode (mB I_M_bearingHere) 16 = .ok (.ifCond .eq 7, 3) := by decide +kernel
theorem e_M_bearingHere_19 : decode (mB I_M_bearingHere) 19 = .ok (.iconst 1, 1) := by decide +kernel
theorem e_M_bearingHere_20 : decode (mB I_M_bearingHere) 20 = .ok (.goto 4, 3) := by decide +kernel
theorem e_M_bearingHere_23 : decode (mB I_M_bearingHere) 23 = .ok (.iconst 0, 1) := by decide +kernel
theorem e_M_bearingHere_24 : decode (mB I_M_bearingHere) 24 = .ok (.iconst 2, 1) := by decide +kernel
theorem e_M_bearingHere_25 : decode (mB I_M_bearingHere) 25 = .ok (.invokevirtual 198, 3) := by decide +kernel
theorem e_M_bearingHere_28 : decode (mB I_M_bearingHere) 28 = .ok (.aload_n 0, 1) := by decide +kernel
theorem e_M_bearingHere_29 : decode (mB I_M_bearingHere) 29 = .ok (.iconst 0, 1) := by decide +kernel
theorem e_M_bearingHere_30 : decode (mB I_M_bearingHere) 30 = .ok (.sipush 345, 3) := by decide +kernel
theorem e_M_bearingHere_33 : decode (mB I_M_bearingHere) 33 = .ok (.invokevirtual 205, 3) := by decide +kernel
theorem e_M_bearingHere_36 : decode (mB I_M_bearingHere) 36 = .ok (.ireturn, 1) := by decide +kernel
theorem e_M_nameHere_0 : decode (mB I_M_nameHere) 0 = .ok (.aload_n 0, 1) := by decide +kernel
theorem e_M_nameHere_1 : decode (mB I_M_nameHere) 1 = .ok (.aload_n 0, 1) := by decide +kernel
theorem e_M_nameHere_2 : decode (mB I_M_nameHere) 2 = .ok (.getfield 170, 3) := by decide +kernel
theorem e_M_nameHere_5 : decode (mB I_M_nameHere) 5 = .ok (.iconst 1, 1) := by decide +kernel
theorem e_M_nameHere_6 : decode (mB I_M_nameHere) 6 = .ok (.if_icmp .ne 17, 3) := by decide +kernel
theorem e_M_nameHere_9 : decode (mB I_M_nameHere) 9 = .ok (.aload_n 0, 1) := by decide +kernel
theorem e_M_nameHere_10 : decode (mB I_M_nameHere) 10 = .ok (.getfield 164, 3) := by decide +kernel
theorem e_M_nameHere_13 : decode (mB I_M_nameHere) 13 = .ok (.aload_n 0, 1) := by decide +kernel
theorem e_M_nameHere_14 : decode (mB I_M_nameHere) 14 = .ok (.getfield 167, 3) := by decide +kernel
theorem e_M_nameHere_17 : decode (mB I_M_nameHere) 17 = .ok (.isub, 1) := by decide +kernel
theorem e_M_nameHere_18 : decode (mB I_M_nameHere) 18 = .ok (.bipush 6, 2) := by decide +kernel
theorem e_M_nameHere_20 : decode (mB I_M_nameHere) 20 = .ok (.if_icmp .le 7, 3) := by decide +kernel
theorem e_M_nameHere_23 : decode (mB I_M_nameHere) 23 = .ok (.iconst 1, 1) := by decide +kernel
theorem e_M_nameHere_24 : decode (mB I_M_nameHere) 24 = .ok (.goto 4, 3) := by decide +kernel
theorem e_M_nameHere_27 : decode (mB I_M_nameHere) 27 = .ok (.iconst 0, 1) := by decide +kernel
theorem e_M_nameHere_28 : decode (mB I_M_nameHere) 28 = .ok (.iconst 1, 1) := by decide +kernel
theorem e_M_nameHere_29 : decode (mB I_M_nameHere) 29 = .ok (.invokevirtual 198, 3) := by decide +kernel
theorem e_M_nameHere_32 : decode (mB I_M_nameHere) 32 = .ok (.aload_n 0, 1) := by decide +kernel
theorem e_M_nameHere_33 : decode (mB I_M_nameHere) 33 = .ok (.getfield 188, 3) := by decide +kernel
theorem e_M_nameHere_36 : decode (mB I_M_nameHere) 36 = .ok (.ifCond .eq 4, 3) := by decide +kernel
theorem e_M_nameHere_39 : decode (mB I_M_nameHere) 39 = .ok (.return_, 1) := by decide +kernel
theorem e_M_nameHere_40 : decode (mB I_M_nameHere) 40 = .ok (.aload_n 0, 1) := by decide +kernel
theorem e_M_nameHere_41 : decode (mB I_M_nameHere) 41 = .ok (.aload_n 0, 1) := by decide +kernel
theorem e_M_nameHere_42 : decode (mB I_M_nameHere) 42 = .ok (.getfield 164, 3) := by decide +kernel
theorem e_M_nameHere_45 : decode (mB I_M_nameHere) 45 = .ok (.aload_n 0, 1) := by decide +kernel
theorem e_M_nameHere_46 : decode (mB I_M_nameHere) 46 = .ok (.getfield 167, 3) := by decide +kernel
theorem e_M_nameHere_49 : decode (mB I_M_nameHere) 49 = .ok (.isub, 1) := by decide +kernel
theorem e_M_nameHere_50 : decode (mB I_M_nameHere) 50 = .ok (.putfield 153, 3) := by decide +kernel
theorem e_M_nameHere_53 : decode (mB I_M_nameHere) 53 = .ok (.iconst 0, 1) := by decide +kernel
theorem e_M_nameHere_54 : decode (mB I_M_nameHere) 54 = .ok (.istore_n 1, 1) := by decide +kernel
theorem e_M_nameHere_55 : decode (mB I_M_nameHere) 55 = .ok (.iload_n 1, 1) := by decide +kernel
theorem e_M_nameHere_56 : decode (mB I_M_nameHere) 56 = .ok (.aload_n 0, 1) := by decide +kernel
theorem e_M_nameHere_57 : decode (mB I_M_nameHere) 57 = .ok (.getfield 153, 3) := by decide +kernel
theorem e_M_nameHere_60 : decode (mB I_M_nameHere) 60 = .ok (.if_icmp .ge 26, 3) := by decide +kernel
theorem e_M_nameHere_63 : decode (mB I_M_nameHere) 63 = .ok (.aload_n 0, 1) := by decide +kernel
theorem e_M_nameHere_64 : decode (mB I_M_nameHere) 64 = .ok (.getfield 51, 3) := by decide +kernel
theorem e_M_nameHere_67 : decode (mB I_M_nameHere) 67 = .ok (.iload_n 1, 1) := by decide +kernel
theorem e_M_nameHere_68 : decode (mB I_M_nameHere) 68 = .ok (.aload_n 0, 1) := by decide +kernel
theorem e_M_nameHere_69 : decode (mB I_M_nameHere) 69 = .ok (.getfield 29, 3) := by decide +kernel
theorem e_M_nameHere_72 : decode (mB I_M_nameHere) 72 = .ok (.aload_n 0, 1) := by decide +kernel
theorem e_M_nameHere_73 : decode (mB I_M_nameHere) 73 = .ok (.getfield 167, 3) := by decide +kernel
theorem e_M_nameHere_76 : decode (mB I_M_nameHere) 76 = .ok (.iload_n 1, 1) := by decide +kernel
theorem e_M_nameHere_77 : decode (mB I_M_nameHere) 77 = .ok (.iadd, 1) := by decide +kernel
theorem e_M_nameHere_78 : decode (mB I_M_nameHere) 78 = .ok (.iaload, 1) := by decide +kernel
theorem e_M_nameHere_79 : decode (mB I_M_nameHere) 79 = .ok (.iastore, 1) := by decide +kernel
theorem e_M_nameHere_80 : decode (mB I_M_nameHere) 80 = .ok (.iinc 1 1, 3) := by decide +kernel
theorem e_M_nameHere_83 : decode (mB I_M_nameHere) 83 = .ok (.goto (-28), 3) := by decide +kernel
theorem e_M_nameHere_86 : decode (mB I_M_nameHere) 86 = .ok (.return_, 1) := by decide +kernel
theorem e_M_legHere_0 : decode (mB I_M_legHere) 0 = .ok (.aload_n 0, 1) := by decide +kernel
theorem e_M_legHere_1 : decode (mB I_M_legHere) 1 = .ok (.invokevirtual 208, 3) := by decide +kernel
theorem e_M_legHere_4 : decode (mB I_M_legHere) 4 = .ok (.aload_n 0, 1) := by decide +kernel
theorem e_M_legHere_5 : decode (mB I_M_legHere) 5 = .ok (.getfield 188, 3) := by decide +kernel
theorem e_M_legHere_8 : decode (mB I_M_legHere) 8 = .ok (.ifCond .eq 7, 3) := by decide +kernel
theorem e_M_legHere_11 : decode (mB I_M_legHere) 11 = .ok (.iconst 0, 1) := by decide +kernel
theorem e_M_legHere_12 : decode (mB I_M_legHere) 12 = .ok (.goto 7, 3) := by decide +kernel
theorem e_M_legHere_15 : decode (mB I_M_legHere) 15 = .ok (.aload_n 0, 1) := by decide +kernel
theorem e_M_legHere_16 : decode (mB I_M_legHere) 16 = .ok (.invokevirtual 211, 3) := by decide +kernel
theorem e_M_legHere_19 : decode (mB I_M_legHere) 19 = .ok (.istore_n 1, 1) := by decide +kernel
theorem e_M_legHere_20 : decode (mB I_M_legHere) 20 = .ok (.aload_n 0, 1) := by decide +kernel
theorem e_M_legHere_21 : decode (mB I_M_legHere) 21 = .ok (.aload_n 0, 1) := by decide +kernel
theorem e_M_legHere_22 : decode (mB I_M_legHere) 22 = .ok (.getfield 188, 3) := by decide +kernel
theorem e_M_legHere_25 : decode (mB I_M_legHere) 25 = .ok (.ifCond .ne 12, 3) := by decide +kernel
theorem e_M_legHere_28 : decode (mB I_M_legHere) 28 = .ok (.iload_n 1, 1) := by decide +kernel
theorem e_M_legHere_29 : decode (mB I_M_legHere) 29 = .ok (.iconst (-1), 1) := by decide +kernel
theorem e_M_legHere_30 : decode (mB I_M_legHere) 30 = .ok (.if_icmp .ne 7, 3) := by decide +kernel
theorem e_M_legHere_33 : decode (mB I_M_legHere) 33 = .ok (.iconst 1, 1) := by decide +kernel
theorem e_M_legHere_34 : decode (mB I_M_legHere) 34 = .ok (.goto 4, 3) := by decide +kernel
theorem e_M_legHere_37 : decode (mB I_M_legHere) 37 = .ok (.iconst 0, 1) := by decide +kernel
theorem e_M_legHere_38 : decode (mB I_M_legHere) 38 = .ok (.iconst 3, 1) := by decide +kernel
theorem e_M_legHere_39 : decode (mB I_M_legHere) 39 = .ok (.invokevirtual 198, 3) := by decide +kernel
theorem e_M_legHere_42 : decode (mB I_M_legHere) 42 = .ok (.aload_n 0, 1) := by decide +kernel
theorem e_M_legHere_43 : decode (mB I_M_legHere) 43 = .ok (.invokevirtual 202, 3) := by decide +kernel
theorem e_M_legHere_46 : decode (mB I_M_legHere) 46 = .ok (.iload_n 1, 1) := by decide +kernel
theorem e_M_legHere_47 : decode (mB I_M_legHere) 47 = .ok (.ireturn, 1) := by decide +kernel
theorem e_M_ends_0 : decode (mB I_M_ends) 0 = .ok (.aload_n 0, 1) := by decide +kernel
theorem e_M_ends_1 : decode (mB I_M_ends) 1 = .ok (.aload_n 0, 1) := by decide +kernel
theorem e_M_ends_2 : decode (mB I_M_ends) 2 = .ok (.getfield 170, 3) := by decide +kernel
theorem e_M_ends_5 : decode (mB I_M_ends) 5 = .ok (.iconst 3, 1) := by decide +kernel
theorem e_M_ends_6 : decode (mB I_M_ends) 6 = .ok (.if_icmp .eq 7, 3) := by decide +kernel
theorem e_M_ends_9 : decode (mB I_M_ends) 9 = .ok (.iconst 1, 1) := by decide +kernel
theorem e_M_ends_10 : decode (mB I_M_ends) 10 = .ok (.goto 4, 3) := by decide +kernel
theorem e_M_ends_13 : decode (mB I_M_ends) 13 = .ok (.iconst 0, 1) := by decide +kernel
theorem e_M_ends_14 : decode (mB I_M_ends) 14 = .ok (.iconst 1, 1) := by decide +kernel
theorem e_M_ends_15 : decode (mB I_M_ends) 15 = .ok (.invokevirtual 198, 3) := by decide +kernel
theorem e_M_ends_18 : decode (mB I_M_ends) 18 = .ok (.aload_n 0, 1) := by decide +kernel
theorem e_M_ends_19 : decode (mB I_M_ends) 19 = .ok (.aload_n 0, 1) := by decide +kernel
theorem e_M_ends_20 : decode (mB I_M_ends) 20 = .ok (.getfield 188, 3) := by decide +kernel
theorem e_M_ends_23 : decode (mB I_M_ends) 23 = .ok (.ifCond .ne 11, 3) := by decide +kernel
theorem e_M_ends_26 : decode (mB I_M_ends) 26 = .ok (.iload_n 1, 1) := by decide +kernel
theorem e_M_ends_27 : decode (mB I_M_ends) 27 = .ok (.ifCond .ne 7, 3) := by decide +kernel
theorem e_M_ends_30 : decode (mB I_M_ends) 30 = .ok (.iconst 1, 1) := by decide +kernel
theorem e_M_ends_31 : decode (mB I_M_ends) 31 = .ok (.goto 4, 3) := by decide +kernel
theorem e_M_ends_34 : decode (mB I_M_ends) 34 = .ok (.iconst 0, 1) := by decide +kernel
theorem e_M_ends_35 : decode (mB I_M_ends) 35 = .ok (.bipush 6, 2) := by decide +kernel
theorem e_M_ends_37 : decode (mB I_M_ends) 37 = .ok (.invokevirtual 198, 3) := by decide +kernel
theorem e_M_ends_40 : decode (mB I_M_ends) 40 = .ok (.aload_n 0, 1) := by decide +kernel
theorem e_M_ends_41 : decode (mB I_M_ends) 41 = .ok (.getfield 188, 3) := by decide +kernel
theorem e_M_ends_44 : decode (mB I_M_ends) 44 = .ok (.ifCond .ne 7, 3) := by decide +kernel
theorem e_M_ends_47 : decode (mB I_M_ends) 47 = .ok (.iconst 1, 1) := by decide +kernel
theorem e_M_ends_48 : decode (mB I_M_ends) 48 = .ok (.goto 4, 3) := by decide +kernel
theorem e_M_ends_51 : decode (mB I_M_ends) 51 = .ok (.iconst 0, 1) := by decide +kernel
theorem e_M_ends_52 : decode (mB I_M_ends) 52 = .ok (.ireturn, 1) := by decide +kernel
theorem e_M_option_0 : decode (mB I_M_option) 0 = .ok (.aload_n 0, 1) := by decide +kernel
theorem e_M_option_1 : decode (mB I_M_option) 1 = .ok (.aload_n 1, 1) := by decide +kernel
theorem e_M_option_2 : decode (mB I_M_option) 2 = .ok (.invokevirtual 214, 3) := by decide +kernel
theorem e_M_option_5 : decode (mB I_M_option) 5 = .ok (.ifCond .ne 5, 3) := by decide +kernel
theorem e_M_option_8 : decode (mB I_M_option) 8 = .ok (.iload_n 3, 1) := by decide +kernel
theorem e_M_option_9 : decode (mB I_M_option) 9 = .ok (.ireturn, 1) := by decide +kernel
theorem e_M_option_10 : decode (mB I_M_option) 10 = .ok (.aload_n 0, 1) := by decide +kernel
theorem e_M_option_11 : decode (mB I_M_option) 11 = .ok (.invokevirtual 202, 3) := by decide +kernel
theorem e_M_option_14 : decode (mB I_M_option) 14 = .ok (.aload_n 0, 1) := by decide +kernel
theorem e_M_option_15 : decode (mB I_M_option) 15 = .ok (.iconst 0, 1) := by decide +kernel
theorem e_M_option_16 : decode (mB I_M_option) 16 = .ok (.iload_n 2, 1) := by decide +kernel
theorem e_M_option_17 : decode (mB I_M_option) 17 = .ok (.invokevirtual 205, 3) := by decide +kernel
theorem e_M_option_20 : decode (mB I_M_option) 20 = .ok (.ireturn, 1) := by decide +kernel
theorem e_M_legTold_0 : decode (mB I_M_legTold) 0 = .ok (.aload_n 0, 1) := by decide +kernel
theorem e_M_legTold_1 : decode (mB I_M_legTold) 1 = .ok (.aload_n 0, 1) := by decide +kernel
theorem e_M_legTold_2 : decode (mB I_M_legTold) 2 = .ok (.getfield 9, 3) := by decide +kernel
theorem e_M_legTold_5 : decode (mB I_M_legTold) 5 = .ok (.iconst 0, 1) := by decide +kernel
theorem e_M_legTold_6 : decode (mB I_M_legTold) 6 = .ok (.iaload, 1) := by decide +kernel
theorem e_M_legTold_7 : decode (mB I_M_legTold) 7 = .ok (.bipush 20, 2) := by decide +kernel
theorem e_M_legTold_9 : decode (mB I_M_legTold) 9 = .ok (.if_icmp .ne 7, 3) := by decide +kernel
theorem e_M_legTold_12 : decode (mB I_M_legTold) 12 = .ok (.iconst 1, 1) := by decide +kernel
theorem e_M_legTold_13 : decode (mB I_M_legTold) 13 = .ok (.goto 4, 3) := by decide +kernel
theorem e_M_legTold_16 : decode (mB I_M_legTold) 16 = .ok (.iconst 0, 1) := by decide +kernel
theorem e_M_legTold_17 : decode (mB I_M_legTold) 17 = .ok (.iconst 5, 1) := by decide +kernel
theorem e_M_legTold_18 : decode (mB I_M_legTold) 18 = .ok (.invokevirtual 198, 3) := by decide +kernel
theorem e_M_legTold_21 : decode (mB I_M_legTold) 21 = .ok (.aload_n 0, 1) := by decide +kernel
theorem e_M_legTold_22 : decode (mB I_M_legTold) 22 = .ok (.invokevirtual 202, 3) := by decide +kernel
theorem e_M_legTold_25 : decode (mB I_M_legTold) 25 = .ok (.aload_n 0, 1) := by decide +kernel
theorem e_M_legTold_26 : decode (mB I_M_legTold) 26 = .ok (.invokevirtual 208, 3) := by decide +kernel
theorem e_M_legTold_29 : decode (mB I_M_legTold) 29 = .ok (.aload_n 0, 1) := by decide +kernel
theorem e_M_legTold_30 : decode (mB I_M_legTold) 30 = .ok (.aload_n 0, 1) := by decide +kernel
theorem e_M_legTold_31 : decode (mB I_M_legTold) 31 = .ok (.getfield 188, 3) := by decide +kernel
theorem e_M_legTold_34 : decode (mB I_M_legTold) 34 = .ok (.ifCond .ne 15, 3) := by decide +kernel
theorem e_M_legTold_37 : decode (mB I_M_legTold) 37 = .ok (.aload_n 0, 1) := by decide +kernel
theorem e_M_legTold_38 : decode (mB I_M_legTold) 38 = .ok (.invokevirtual 211, 3) := by decide +kernel
theorem e_M_legTold_41 : decode (mB I_M_legTold) 41 = .ok (.iconst (-1), 1) := by decide +kernel
theorem e_M_legTold_42 : decode (mB I_M_legTold) 42 = .ok (.if_icmp .eq 7, 3) := by decide +kernel
theorem e_M_legTold_45 : decode (mB I_M_legTold) 45 = .ok (.iconst 1, 1) := by decide +kernel
theorem e_M_legTold_46 : decode (mB I_M_legTold) 46 = .ok (.goto 4, 3) := by decide +kernel
theorem e_M_legTold_49 : decode (mB I_M_legTold) 49 = .ok (.iconst 0, 1) := by decide +kernel
theorem e_M_legTold_50 : decode (mB I_M_legTold) 50 = .ok (.iconst 4, 1) := by decide +kernel
theorem e_M_legTold_51 : decode (mB I_M_legTold) 51 = .ok (.invokevirtual 198, 3) := by decide +kernel
theorem e_M_legTold_54 : decode (mB I_M_legTold) 54 = .ok (.aload_n 0, 1) := by decide +kernel
theorem e_M_legTold_55 : decode (mB I_M_legTold) 55 = .ok (.invokevirtual 202, 3) := by decide +kernel
theorem e_M_legTold_58 : decode (mB I_M_legTold) 58 = .ok (.aload_n 0, 1) := by decide +kernel
theorem e_M_legTold_59 : decode (mB I_M_legTold) 59 = .ok (.getfield 188, 3) := by decide +kernel
theorem e_M_legTold_62 : decode (mB I_M_legTold) 62 = .ok (.ifCond .eq 4, 3) := by decide +kernel
theorem e_M_legTold_65 : decode (mB I_M_legTold) 65 = .ok (.return_, 1) := by decide +kernel
theorem e_M_legTold_66 : decode (mB I_M_legTold) 66 = .ok (.aload_n 0, 1) := by decide +kernel
theorem e_M_legTold_67 : decode (mB I_M_legTold) 67 = .ok (.invokevirtual 218, 3) := by decide +kernel
theorem e_M_legTold_70 : decode (mB I_M_legTold) 70 = .ok (.aload_n 0, 1) := by decide +kernel
theorem e_M_legTold_71 : decode (mB I_M_legTold) 71 = .ok (.getfield 9, 3) := by decide +kernel
theorem e_M_legTold_74 : decode (mB I_M_legTold) 74 = .ok (.iconst 0, 1) := by decide +kernel
theorem e_M_legTold_75 : decode (mB I_M_legTold) 75 = .ok (.iaload, 1) := by decide +kernel
theorem e_M_legTold_76 : decode (mB I_M_legTold) 76 = .ok (.istore_n 2, 1) := by decide +kernel
theorem e_M_legTold_77 : decode (mB I_M_legTold) 77 = .ok (.aload_n 0, 1) := by decide +kernel
theorem e_M_legTold_78 : decode (mB I_M_legTold) 78 = .ok (.iload_n 2, 1) := by decide +kernel
theorem e_M_legTold_79 : decode (mB I_M_legTold) 79 = .ok (.iconst 0, 1) := by decide +kernel
theorem e_M_legTold_80 : decode (mB I_M_legTold) 80 = .ok (.aload_n 0, 1) := by decide +kernel
theorem e_M_legTold_81 : decode (mB I_M_legTold) 81 = .ok (.invokevirtual 221, 3) := by decide +kernel
theorem e_M_legTold_84 : decode (mB I_M_legTold) 84 = .ok (.invokevirtual 149, 3) := by decide +kernel
theorem e_M_legTold_87 : decode (mB I_M_legTold) 87 = .ok (.aload_n 0, 1) := by decide +kernel
theorem e_M_legTold_88 : decode (mB I_M_legTold) 88 = .ok (.iload_n 2, 1) := by decide +kernel
theorem e_M_legTold_89 : decode (mB I_M_legTold) 89 = .ok (.iconst 1, 1) := by decide +kernel
theorem e_M_legTold_90 : decode (mB I_M_legTold) 90 = .ok (.iload_n 1, 1) := by decide +kernel
theorem e_M_legTold_91 : decode (mB I_M_legTold) 91 = .ok (.ifCond .eq 7, 3) := by decide +kernel
theorem e_M_legTold_94 : decode (mB I_M_legTold) 94 = .ok (.iconst 0, 1) := by decide +kernel
theorem e_M_legTold_95 : decode (mB I_M_legTold) 95 = .ok (.goto 10, 3) := by decide +kernel
theorem e_M_legTold_98 : decode (mB I_M_legTold) 98 = .ok (.aload_n 0, 1) := by decide +kernel
theorem e_M_legTold_99 : decode (mB I_M_legTold) 99 = .ok (.iconst 0, 1) := by decide +kernel
theorem e_M_legTold_100 : decode (mB I_M_legTold) 100 = .ok (.bipush 99, 2) := by decide +kernel
theorem e_M_legTold_102 : decode (mB I_M_legTold) 102 = .ok (.invokevirtual 205, 3) := by decide +kernel
theorem e_M_legTold_105 : decode (mB I_M_legTold) 105 = .ok (.invokevirtual 149, 3) := by decide +kernel
theorem e_M_legTold_108 : decode (mB I_M_legTold) 108 = .ok (.aload_n 0, 1) := by decide +kernel
theorem e_M_legTold_109 : decode (mB I_M_legTold) 109 = .ok (.iload_n 2, 1) := by decide +kernel
theorem e_M_legTold_110 : decode (mB I_M_legTold) 110 = .ok (.iconst 2, 1) := by decide +kernel
theorem e_M_legTold_111 : decode (mB I_M_legTold) 111 = .ok (.iload_n 1, 1) := by decide +kernel
theorem e_M_legTold_112 : decode (mB I_M_legTold) 112 = .ok (.ifCond .eq 7, 3) := by decide +kernel
theorem e_M_legTold_115 : decode (mB I_M_legTold) 115 = .ok (.iconst 0, 1) := by decide +kernel
theorem e_M_legTold_116 : decode (mB I_M_legTold) 116 = .ok (.goto 10, 3) := by decide +kernel
theorem e_M_legTold_119 : decode (mB I_M_legTold) 119 = .ok (.aload_n 0, 1) := by decide +kernel
theorem e_M_legTold_120 : decode (mB I_M_legTold) 120 = .ok (.iconst 0, 1) := by decide +kernel
theorem e_M_legTold_121 : decode (mB I_M_legTold) 121 = .ok (.bipush 99, 2) := by decide +kernel
theorem e_M_legTold_123 : decode (mB I_M_legTold) 123 = .ok (.invokevirtual 205, 3) := by decide +kernel
theorem e_M_legTold_126 : decode (mB I_M_legTold) 126 = .ok (.invokevirtual 149, 3) := by decide +kernel
theorem e_M_legTold_129 : decode (mB I_M_legTold) 129 = .ok (.aload_n 0, 1) := by decide +kernel
theorem e_M_legTold_130 : decode (mB I_M_legTold) 130 = .ok (.iload_n 2, 1) := by decide +kernel
theorem e_M_legTold_131 : decode (mB I_M_legTold) 131 = .ok (.bipush 6, 2) := by decide +kernel
theorem e_M_legTold_133 : decode (mB I_M_legTold) 133 = .ok (.iload_n 1, 1) := by decide +kernel
theorem e_M_legTold_134 : decode (mB I_M_legTold) 134 = .ok (.ifCond .eq 14, 3) := by decide +kernel
theorem e_M_legTold_137 : decode (mB I_M_legTold) 137 = .ok (.aload_n 0, 1) := by decide +kernel
theorem e_M_legTold_138 : decode (mB I_M_legTold) 138 = .ok (.iconst 1, 1) := by decide +kernel
theorem e_M_legTold_139 : decode (mB I_M_legTold) 139 = .ok (.sipush 999, 3) := by decide +kernel
theorem e_M_legTold_142 : decode (mB I_M_legTold) 142 = .ok (.invokevirtual 205, 3) := by decide +kernel
theorem e_M_legTold_145 : decode (mB I_M_legTold) 145 = .ok (.goto 4, 3) := by decide +kernel
theorem e_M_legTold_148 : decode (mB I_M_legTold) 148 = .ok (.iconst 0, 1) := by decide +kernel
theorem e_M_legTold_149 : decode (mB I_M_legTold) 149 = .ok (.invokevirtual 149, 3) := by decide +kernel
theorem e_M_legTold_152 : decode (mB I_M_legTold) 152 = .ok (.aload_n 0, 1) := by decide +kernel
theorem e_M_legTold_153 : decode (mB I_M_legTold) 153 = .ok (.iload_n 2, 1) := by decide +kernel
theorem e_M_legTold_154 : decode (mB I_M_legTold) 154 = .ok (.iconst 3, 1) := by decide +kernel
theorem e_M_legTold_155 : decode (mB I_M_legTold) 155 = .ok (.iload_n 1, 1) := by decide +kernel
theorem e_M_legTold_156 : decode (mB I_M_legTold) 156 = .ok (.ifCond .eq 7, 3) := by decide +kernel
theorem e_M_legTold_159 : decode (mB I_M_legTold) 159 = .ok (.iconst 0, 1) := by decide +kernel
theorem e_M_legTold_160 : decode (mB I_M_legTold) 160 = .ok (.goto 12, 3) := by decide +kernel
theorem e_M_legTold_163 : decode (mB I_M_legTold) 163 = .ok (.aload_n 0, 1) := by decide +kernel
theorem e_M_legTold_164 : decode (mB I_M_legTold) 164 = .ok (.ldc 224, 2) := by decide +kernel
theorem e_M_legTold_166 : decode (mB I_M_legTold) 166 = .ok (.bipush 9, 2) := by decide +kernel
theorem e_M_legTold_168 : decode (mB I_M_legTold) 168 = .ok (.iconst 0, 1) := by decide +kernel
theorem e_M_legTold_169 : decode (mB I_M_legTold) 169 = .ok (.invokevirtual 226, 3) := by decide +kernel
theorem e_M_legTold_172 : decode (mB I_M_legTold) 172 = .ok (.invokevirtual 149, 3) := by decide +kernel
theorem e_M_legTold_175 : decode (mB I_M_legTold) 175 = .ok (.aload_n 0, 1) := by decide +kernel
theorem e_M_legTold_176 : decode (mB I_M_legTold) 176 = .ok (.iload_n 2, 1) := by decide +kernel
theorem e_M_legTold_177 : decode (mB I_M_legTold) 177 = .ok (.iconst 4, 1) := by decide +kernel
theorem e_M_legTold_178 : decode (mB I_M_legTold) 178 = .ok (.iload_n 1, 1) := by decide +kernel
theorem e_M_legTold_179 : decode (mB I_M_legTold) 179 = .ok (.ifCond .eq 7, 3) := by decide +kernel
theorem e_M_legTold_182 : decode (mB I_M_legTold) 182 = .ok (.iconst 0, 1) := by decide +kernel
theorem e_M_legTold_183 : decode (mB I_M_legTold) 183 = .ok (.goto 13, 3) := by decide +kernel
theorem e_M_legTold_186 : decode (mB I_M_legTold) 186 = .ok (.aload_n 0, 1) := by decide +kernel
theorem e_M_legTold_187 : decode (mB I_M_legTold) 187 = .ok (.ldc 230, 2) := by decide +kernel
theorem e_M_legTold_189 : decode (mB I_M_legTold) 189 = .ok (.sipush 9999, 3) := by decide +kernel
theorem e_M_legTold_192 : decode (mB I_M_legTold) 192 = .ok (.iconst 0, 1) := by decide +kernel
theorem e_M_legTold_193 : decode (mB I_M_legTold) 193 = .ok (.invokevirtual 226, 3) := by decide +kernel
theorem e_M_legTold_196 : decode (mB I_M_legTold) 196 = .ok (.invokevirtual 149, 3) := by decide +kernel
theorem e_M_legTold_199 : decode (mB I_M_legTold) 199 = .ok (.aload_n 0, 1) := by decide +kernel
theorem e_M_legTold_200 : decode (mB I_M_legTold) 200 = .ok (.iload_n 2, 1) := by decide +kernel
theorem e_M_legTold_201 : decode (mB I_M_legTold) 201 = .ok (.iconst 5, 1) := by decide +kernel
theorem e_M_legTold_202 : decode (mB I_M_legTold) 202 = .ok (.iload_n 1, 1) := by decide +kernel
theorem e_M_legTold_203 : decode (mB I_M_legTold) 203 = .ok (.ifCond .eq 7, 3) := by decide +kernel
theorem e_M_legTold_206 : decode (mB I_M_legTold) 206 = .ok (.iconst 0, 1) := by decide +kernel
theorem e_M_legTold_207 : decode (mB I_M_legTold) 207 = .ok (.goto 13, 3) := by decide +kernel
theorem e_M_legTold_210 : decode (mB I_M_legTold) 210 = .ok (.aload_n 0, 1) := by decide +kernel
theorem e_M_legTold_211 : decode (mB I_M_legTold) 211 = .ok (.ldc 232, 2) := by decide +kernel
theorem e_M_legTold_213 : decode (mB I_M_legTold) 213 = .ok (.bipush 50, 2) := by decide +kernel
theorem e_M_legTold_215 : decode (mB I_M_legTold) 215 = .ok (.bipush 15, 2) := by decide +kernel
theorem e_M_legTold_217 : decode (mB I_M_legTold) 217 = .ok (.invokevirtual 226, 3) := by decide +kernel
theorem e_M_legTold_220 : decode (mB I_M_legTold) 220 = .ok (.invokevirtual 149, 3) := by decide +kernel
theorem e_M_legTold_223 : decode (mB I_M_legTold) 223 = .ok (.aload_n 0, 1) := by decide +kernel
theorem e_M_legTold_224 : decode (mB I_M_legTold) 224 = .ok (.iconst 1, 1) := by decide +kernel
theorem e_M_legTold_225 : decode (mB I_M_legTold) 225 = .ok (.invokevirtual 234, 3) := by decide +kernel
theorem e_M_legTold_228 : decode (mB I_M_legTold) 228 = .ok (.ifCond .eq 13, 3) := by decide +kernel
theorem e_M_legTold_231 : decode (mB I_M_legTold) 231 = .ok (.aload_n 0, 1) := by decide +kernel
theorem e_M_legTold_232 : decode (mB I_M_legTold) 232 = .ok (.getfield 9, 3) := by decide +kernel
theorem e_M_legTold_235 : decode (mB I_M_legTold) 235 = .ok (.iconst 0, 1) := by decide +kernel
theorem e_M_legTold_236 : decode (mB I_M_legTold) 236 = .ok (.dup2, 1) := by decide +kernel
theorem e_M_legTold_237 : decode (mB I_M_legTold) 237 = .ok (.iaload, 1) := by decide +kernel
theorem e_M_legTold_238 : decode (mB I_M_legTold) 238 = .ok (.iconst 1, 1) := by decide +kernel
theorem e_M_legTold_239 : decode (mB I_M_legTold) 239 = .ok (.iadd, 1) := by decide +kernel
theorem e_M_legTold_240 : decode (mB I_M_legTold) 240 = .ok (.iastore, 1) := by decide +kernel
theorem e_M_legTold_241 : decode (mB I_M_legTold) 241 = .ok (.return_, 1) := by decide +kernel
theorem e_M_command_0 : decode (mB I_M_command) 0 = .ok (.aload_n 0, 1) := by decide +kernel
theorem e_M_command_1 : decode (mB I_M_command) 1 = .ok (.ldc 238, 2) := by decide +kernel
theorem e_M_command_3 : decode (mB I_M_command) 3 = .ok (.invokevirtual 214, 3) := by decide +kernel
theorem e_M_command_6 : decode (mB I_M_command) 6 = .ok (.ifCond .eq 11, 3) := by decide +kernel
theorem e_M_command_9 : decode (mB I_M_command) 9 = .ok (.aload_n 0, 1) := by decide +kernel
theorem e_M_command_10 : decode (mB I_M_command) 10 = .ok (.iconst 0, 1) := by decide +kernel
theorem e_M_command_11 : decode (mB I_M_command) 11 = .ok (.invokevirtual 240, 3) := by decide +kernel
theorem e_M_command_14 : decode (mB I_M_command) 14 = .ok (.goto 335, 3) := by decide +kernel
theorem e_M_command_17 : decode (mB I_M_command) 17 = .ok (.aload_n 0, 1) := by decide +kernel
theorem e_M_command_18 : decode (mB I_M_command) 18 = .ok (.ldc 244, 2) := by decide +kernel
theorem e_M_command_20 : decode (mB I_M_command) 20 = .ok (.invokevirtual 214, 3) := by decide +kernel
theorem e_M_command_23 : decode (mB I_M_command) 23 = .ok (.ifCond .eq 11, 3) := by decide +kernel
theorem e_M_command_26 : decode (mB I_M_command) 26 = .ok (.aload_n 0, 1) := by decide +kernel
theorem e_M_command_27 : decode (mB I_M_command) 27 = .ok (.iconst 1, 1) := by decide +kernel
theorem e_M_command_28 : decode (mB I_M_command) 28 = .ok (.invokevirtual 240, 3) := by decide +kernel
theorem e_M_command_31 : decode (mB I_M_command) 31 = .ok (.goto 318, 3) := by decide +kernel
theorem e_M_command_34 : decode (mB I_M_command) 34 = .ok (.aload_n 0, 1) := by decide +kernel
theorem e_M_command_35 : decode (mB I_M_command) 35 = .ok (.ldc 245, 2) := by decide +kernel
theorem e_M_command_37 : decode (mB I_M_command) 37 = .ok (.invokevirtual 214, 3) := by decide +kernel
theorem e_M_command_40 : decode (mB I_M_command) 40 = .ok (.ifCond .eq 52, 3) := by decide +kernel
theorem e_M_command_43 : decode (mB I_M_command) 43 = .ok (.aload_n 0, 1) := by decide +kernel
theorem e_M_command_44 : decode (mB I_M_command) 44 = .ok (.invokevirtual 202, 3) := by decide +kernel
theorem e_M_command_47 : decode (mB I_M_command) 47 = .ok (.aload_n 0, 1) := by decide +kernel
theorem e_M_command_48 : decode (mB I_M_command) 48 = .ok (.invokevirtual 247, 3) := by decide +kernel
theorem e_M_command_51 : decode (mB I_M_command) 51 = .ok (.istore_n 1, 1) := by decide +kernel
theorem e_M_command_52 : decode (mB I_M_command) 52 = .ok (.aload_n 0, 1) := by decide +kernel
theorem e_M_command_53 : decode (mB I_M_command) 53 = .ok (.aload_n 0, 1) := by decide +kernel
theorem e_M_command_54 : decode (mB I_M_command) 54 = .ok (.getfield 188, 3) := by decide +kernel
theorem e_M_command_57 : decode (mB I_M_command) 57 = .ok (.ifCond .ne 11, 3) := by decide +kernel
theorem e_M_command_60 : decode (mB I_M_command) 60 = .ok (.aload_n 0, 1) := by decide +kernel
theorem e_M_command_61 : decode (mB I_M_command) 61 = .ok (.iload_n 1, 1) := by decide +kernel
theorem e_M_command_62 : decode (mB I_M_command) 62 = .ok (.invokevirtual 250, 3) := by decide +kernel
theorem e_M_command_65 : decode (mB I_M_command) 65 = .ok (.ifCond .eq 7, 3) := by decide +kernel
theorem e_M_command_68 : decode (mB I_M_command) 68 = .ok (.iconst 1, 1) := by decide +kernel
theorem e_M_command_69 : decode (mB I_M_command) 69 = .ok (.goto 4, 3) := by decide +kernel
theorem e_M_command_72 : decode (mB I_M_command) 72 = .ok (.iconst 0, 1) := by decide +kernel
theorem e_M_command_73 : decode (mB I_M_command) 73 = .ok (.invokevirtual 234, 3) := by decide +kernel
theorem e_M_command_76 : decode (mB I_M_command) 76 = .ok (.ifCond .eq 13, 3) := by decide +kernel
theorem e_M_command_79 : decode (mB I_M_command) 79 = .ok (.aload_n 0, 1) := by decide +kernel
theorem e_M_command_80 : decode (mB I_M_command) 80 = .ok (.aload_n 0, 1) := by decide +kernel
theorem e_M_command_81 : decode (mB I_M_command) 81 = .ok (.iload_n 1, 1) := by decide +kernel
theorem e_M_command_82 : decode (mB I_M_command) 82 = .ok (.iconst 1, 1) := by decide +kernel
theorem e_M_command_83 : decode (mB I_M_command) 83 = .ok (.invokevirtual 253, 3) := by decide +kernel
theorem e_M_command_86 : decode (mB I_M_command) 86 = .ok (.putfield 256, 3) := by decide +kernel
theorem e_M_command_89 : decode (mB I_M_command) 89 = .ok (.goto 260, 3) := by decide +kernel
theorem e_M_command_92 : decode (mB I_M_command) 92 = .ok (.aload_n 0, 1) := by decide +kernel
theorem e_M_command_93 : decode (mB I_M_command) 93 = .ok (.ldc_w 259, 3) := by decide +kernel
theorem e_M_command_96 : decode (mB I_M_command) 96 = .ok (.invokevirtual 214, 3) := by decide +kernel
theorem e_M_command_99 : decode (mB I_M_command) 99 = .ok (.ifCond .eq 53, 3) := by decide +kernel
theorem e_M_command_102 : decode (mB I_M_command) 102 = .ok (.aload_n 0, 1) := by decide +kernel
theorem e_M_command_103 : decode (mB I_M_command) 103 = .ok (.invokevirtual 202, 3) := by decide +kernel
theorem e_M_command_106 : decode (mB I_M_command) 106 = .ok (.aload_n 0, 1) := by decide +kernel
theorem e_M_command_107 : decode (mB I_M_command) 107 = .ok (.invokevirtual 247, 3) := by decide +kernel
theorem e_M_command_110 : decode (mB I_M_command) 110 = .ok (.istore_n 1, 1) := by decide +kernel
theorem e_M_command_111 : decode (mB I_M_command) 111 = .ok (.aload_n 0, 1) := by decide +kernel
theorem e_M_command_112 : decode (mB I_M_command) 112 = .ok (.aload_n 0, 1) := by decide +kernel
theorem e_M_command_113 : decode (mB I_M_command) 113 = .ok (.getfield 188, 3) := by decide +kernel
theorem e_M_command_116 : decode (mB I_M_command) 116 = .ok (.ifCond .ne 12, 3) := by decide +kernel
theorem e_M_command_119 : decode (mB I_M_command) 119 = .ok (.aload_n 0, 1) := by decide +kernel
theorem e_M_command_120 : decode (mB I_M_command) 120 = .ok (.iload_n 1, 1) := by decide +kernel
theorem e_M_command_121 : decode (mB I_M_command) 121 = .ok (.iconst 3, 1) := by decide +kernel
theorem e_M_command_122 : decode (mB I_M_command) 122 = .ok (.invokevirtual 96, 3) := by decide +kernel
theorem e_M_command_125 : decode (mB I_M_command) 125 = .ok (.ifCond .le 7, 3) := by decide +kernel
theorem e_M_command_128 : decode (mB I_M_command) 128 = .ok (.iconst 1, 1) := by decide +kernel
theorem e_M_command_129 : decode (mB I_M_command) 129 = .ok (.goto 4, 3) := by decide +kernel
theorem e_M_command_132 : decode (mB I_M_command) 132 = .ok (.iconst 0, 1) := by decide +kernel
theorem e_M_command_133 : decode (mB I_M_command) 133 = .ok (.invokevirtual 234, 3) := by decide +kernel
theorem e_M_command_136 : decode (mB I_M_command) 136 = .ok (.ifCond .eq 13, 3) := by decide +kernel
theorem e_M_command_139 : decode (mB I_M_command) 139 = .ok (.aload_n 0, 1) := by decide +kernel
theorem e_M_command_140 : decode (mB I_M_command) 140 = .ok (.aload_n 0, 1) := by decide +kernel
theorem e_M_command_141 : decode (mB I_M_command) 141 = .ok (.iload_n 1, 1) := by decide +kernel
theorem e_M_command_142 : decode (mB I_M_command) 142 = .ok (.iconst (-1), 1) := by decide +kernel
theorem e_M_command_143 : decode (mB I_M_command) 143 = .ok (.invokevirtual 253, 3) := by decide +kernel
theorem e_M_command_146 : decode (mB I_M_command) 146 = .ok (.putfield 256, 3) := by decide +kernel
theorem e_M_command_149 : decode (mB I_M_command) 149 = .ok (.goto 200, 3) := by decide +kernel
theorem e_M_command_152 : decode (mB I_M_command) 152 = .ok (.aload_n 0, 1) := by decide +kernel
theorem e_M_command_153 : decode (mB I_M_command) 153 = .ok (.ldc_w 261, 3) := by decide +kernel
theorem e_M_command_156 : decode (mB I_M_command) 156 = .ok (.invokevirtual 214, 3) := by decide +kernel
theorem e_M_command_159 : decode (mB I_M_command) 159 = .ok (.ifCond .eq 37, 3) := by decide +kernel
theorem e_M_command_162 : decode (mB I_M_command) 162 = .ok (.aload_n 0, 1) := by decide +kernel
theorem e_M_command_163 : decode (mB I_M_command) 163 = .ok (.invokevirtual 202, 3) := by decide +kernel
theorem e_M_command_166 : decode (mB I_M_command) 166 = .ok (.aload_n 0, 1) := by decide +kernel
theorem e_M_command_167 : decode (mB I_M_command) 167 = .ok (.iconst 0, 1) := by decide +kernel
theorem e_M_command_168 : decode (mB I_M_command) 168 = .ok (.sipush 999, 3) := by decide +kernel
theorem e_M_command_171 : decode (mB I_M_command) 171 = .ok (.invokevirtual 205, 3) := by decide +kernel
theorem e_M_command_174 : decode (mB I_M_command) 174 = .ok (.istore_n 1, 1) := by decide +kernel
theorem e_M_command_175 : decode (mB I_M_command) 175 = .ok (.aload_n 0, 1) := by decide +kernel
theorem e_M_command_176 : decode (mB I_M_command) 176 = .ok (.iconst 1, 1) := by decide +kernel
theorem e_M_command_177 : decode (mB I_M_command) 177 = .ok (.invokevirtual 234, 3) := by decide +kernel
theorem e_M_command_180 : decode (mB I_M_command) 180 = .ok (.ifCond .eq 13, 3) := by decide +kernel
theorem e_M_command_183 : decode (mB I_M_command) 183 = .ok (.aload_n 0, 1) := by decide +kernel
theorem e_M_command_184 : decode (mB I_M_command) 184 = .ok (.aload_n 0, 1) := by decide +kernel
theorem e_M_command_185 : decode (mB I_M_command) 185 = .ok (.iconst 1, 1) := by decide +kernel
theorem e_M_command_186 : decode (mB I_M_command) 186 = .ok (.iload_n 1, 1) := by decide +kernel
theorem e_M_command_187 : decode (mB I_M_command) 187 = .ok (.invokevirtual 263, 3) := by decide +kernel
theorem e_M_command_190 : decode (mB I_M_command) 190 = .ok (.putfield 256, 3) := by decide +kernel
theorem e_M_command_193 : decode (mB I_M_command) 193 = .ok (.goto 156, 3) := by decide +kernel
theorem e_M_command_196 : decode (mB I_M_command) 196 = .ok (.aload_n 0, 1) := by decide +kernel
theorem e_M_command_197 : decode (mB I_M_command) 197 = .ok (.ldc_w 266, 3) := by decide +kernel
theorem e_M_command_200 : decode (mB I_M_command) 200 = .ok (.invokevirtual 214, 3) := by decide +kernel
theorem e_M_command_203 : decode (mB I_M_command) 203 = .ok (.ifCond .eq 38, 3) := by decide +kernel
theorem e_M_command_206 : decode (mB I_M_command) 206 = .ok (.aload_n 0, 1) := by decide +kernel
theorem e_M_command_207 : decode (mB I_M_command) 207 = .ok (.invokevirtual 202, 3) := by decide +kernel
theorem e_M_command_210 : decode (mB I_M_command) 210 = .ok (.aload_n 0, 1) := by decide +kernel
theorem e_M_command_211 : decode (mB I_M_command) 211 = .ok (.bipush 100, 2) := by decide +kernel
theorem e_M_command_213 : decode (mB I_M_command) 213 = .ok (.sipush 999, 3) := by decide +kernel
theorem e_M_command_216 : decode (mB I_M_command) 216 = .ok (.invokevirtual 205, 3) := by decide +kernel
theorem e_M_command_219 : decode (mB I_M_command) 219 = .ok (.istore_n 1, 1) := by decide +kernel
theorem e_M_command_220 : decode (mB I_M_command) 220 = .ok (.aload_n 0, 1) := by decide +kernel
theorem e_M_command_221 : decode (mB I_M_command) 221 = .ok (.iconst 1, 1) := by decide +kernel
theorem e_M_command_222 : decode (mB I_M_command) 222 = .ok (.invokevirtual 234, 3) := by decide +kernel
theorem e_M_command_225 : decode (mB I_M_command) 225 = .ok (.ifCond .eq 13, 3) := by decide +kernel
theorem e_M_command_228 : decode (mB I_M_command) 228 = .ok (.aload_n 0, 1) := by decide +kernel
theorem e_M_command_229 : decode (mB I_M_command) 229 = .ok (.aload_n 0, 1) := by decide +kernel
theorem e_M_command_230 : decode (mB I_M_command) 230 = .ok (.iconst 2, 1) := by decide +kernel
theorem e_M_command_231 : decode (mB I_M_command) 231 = .ok (.iload_n 1, 1) := by decide +kernel
theorem e_M_command_232 : decode (mB I_M_command) 232 = .ok (.invokevirtual 263, 3) := by decide +kernel
theorem e_M_command_235 : decode (mB I_M_command) 235 = .ok (.putfield 256, 3) := by decide +kernel
theorem e_M_command_238 : decode (mB I_M_command) 238 = .ok (.goto 111, 3) := by decide +kernel
theorem e_M_command_241 : decode (mB I_M_command) 241 = .ok (.aload_n 0, 1) := by decide +kernel
theorem e_M_command_242 : decode (mB I_M_command) 242 = .ok (.ldc_w 268, 3) := by decide +kernel
theorem e_M_command_245 : decode (mB I_M_command) 245 = .ok (.invokevirtual 214, 3) := by decide +kernel
theorem e_M_command_248 : decode (mB I_M_command) 248 = .ok (.ifCond .eq 39, 3) := by decide +kernel
theorem e_M_command_251 : decode (mB I_M_command) 251 = .ok (.aload_n 0, 1) := by decide +kernel
theorem e_M_command_252 : decode (mB I_M_command) 252 = .ok (.invokevirtual 202, 3) := by decide +kernel
theorem e_M_command_255 : decode (mB I_M_command) 255 = .ok (.aload_n 0, 1) := by decide +kernel
theorem e_M_command_256 : decode (mB I_M_command) 256 = .ok (.aload_n 0, 1) := by decide +kernel
theorem e_M_command_257 : decode (mB I_M_command) 257 = .ok (.getfield 9, 3) := by decide +kernel
theorem e_M_command_260 : decode (mB I_M_command) 260 = .ok (.iconst 0, 1) := by decide +kernel
theorem e_M_command_261 : decode (mB I_M_command) 261 = .ok (.iaload, 1) := by decide +kernel
theorem e_M_command_262 : decode (mB I_M_command) 262 = .ok (.ifCond .le 7, 3) := by decide +kernel
theorem e_M_command_265 : decode (mB I_M_command) 265 = .ok (.iconst 1, 1) := by decide +kernel
theorem e_M_command_266 : decode (mB I_M_command) 266 = .ok (.goto 4, 3) := by decide +kernel
theorem e_M_command_269 : decode (mB I_M_command) 269 = .ok (.iconst 0, 1) := by decide +kernel
theorem e_M_command_270 : decode (mB I_M_command) 270 = .ok (.invokevirtual 234, 3) := by decide +kernel
theorem e_M_command_273 : decode (mB I_M_command) 273 = .ok (.ifCond .eq 76, 3) := by decide +kernel
theorem e_M_command_276 : decode (mB I_M_command) 276 = .ok (.aload_n 0, 1) := by decide +kernel
theorem e_M_command_277 : decode (mB I_M_command) 277 = .ok (.aload_n 0, 1) := by decide +kernel
theorem e_M_command_278 : decode (mB I_M_command) 278 = .ok (.invokevirtual 270, 3) := by decide +kernel
theorem e_M_command_281 : decode (mB I_M_command) 281 = .ok (.putfield 256, 3) := by decide +kernel
theorem e_M_command_284 : decode (mB I_M_command) 284 = .ok (.goto 65, 3) := by decide +kernel
theorem e_M_command_287 : decode (mB I_M_command) 287 = .ok (.aload_n 0, 1) := by decide +kernel
theorem e_M_command_288 : decode (mB I_M_command) 288 = .ok (.ldc_w 273, 3) := by decide +kernel
theorem e_M_command_291 : decode (mB I_M_command) 291 = .ok (.invokevirtual 214, 3) := by decide +kernel
theorem e_M_command_294 : decode (mB I_M_command) 294 = .ok (.ifCond .eq 7, 3) := by decide +kernel
theorem e_M_command_297 : decode (mB I_M_command) 297 = .ok (.iconst 1, 1) := by decide +kernel
theorem e_M_command_298 : decode (mB I_M_command) 298 = .ok (.goto 4, 3) := by decide +kernel
theorem e_M_command_301 : decode (mB I_M_command) 301 = .ok (.iconst 0, 1) := by decide +kernel
theorem e_M_command_302 : decode (mB I_M_command) 302 = .ok (.istore_n 1, 1) := by decide +kernel
theorem e_M_command_303 : decode (mB I_M_command) 303 = .ok (.aload_n 0, 1) := by decide +kernel
theorem e_M_command_304 : decode (mB I_M_command) 304 = .ok (.iload_n 1, 1) := by decide +kernel
theorem e_M_command_305 : decode (mB I_M_command) 305 = .ok (.ifCond .ne 17, 3) := by decide +kernel
theorem e_M_command_308 : decode (mB I_M_command) 308 = .ok (.aload_n 0, 1) := by decide +kernel
theorem e_M_command_309 : decode (mB I_M_command) 309 = .ok (.ldc_w 275, 3) := by decide +kernel
theorem e_M_command_312 : decode (mB I_M_command) 312 = .ok (.invokevirtual 214, 3) := by decide +kernel
theorem e_M_command_315 : decode (mB I_M_command) 315 = .ok (.ifCond .ne 7, 3) := by decide +kernel
theorem e_M_command_318 : decode (mB I_M_command) 318 = .ok (.iconst 1, 1) := by decide +kernel
theorem e_M_command_319 : decode (mB I_M_command) 319 = .ok (.goto 4, 3) := by decide +kernel
theorem e_M_command_322 : decode (mB I_M_command) 322 = .ok (.iconst 0, 1) := by decide +kernel
theorem e_M_command_323 : decode (mB I_M_command) 323 = .ok (.iconst 1, 1) := by decide +kernel
theorem e_M_command_324 : decode (mB I_M_command) 324 = .ok (.invokevirtual 198, 3) := by decide +kernel
theorem e_M_command_327 : decode (mB I_M_command) 327 = .ok (.aload_n 0, 1) := by decide +kernel
theorem e_M_command_328 : decode (mB I_M_command) 328 = .ok (.invokevirtual 202, 3) := by decide +kernel
theorem e_M_command_331 : decode (mB I_M_command) 331 = .ok (.aload_n 0, 1) := by decide +kernel
theorem e_M_command_332 : decode (mB I_M_command) 332 = .ok (.iconst 1, 1) := by decide +kernel
theorem e_M_command_333 : decode (mB I_M_command) 333 = .ok (.invokevirtual 234, 3) := by decide +kernel
theorem e_M_command_336 : decode (mB I_M_command) 336 = .ok (.ifCond .eq 13, 3) := by decide +kernel
theorem e_M_command_339 : decode (mB I_M_command) 339 = .ok (.aload_n 0, 1) := by decide +kernel
theorem e_M_command_340 : decode (mB I_M_command) 340 = .ok (.aload_n 0, 1) := by decide +kernel
theorem e_M_command_341 : decode (mB I_M_command) 341 = .ok (.iconst 3, 1) := by decide +kernel
theorem e_M_command_342 : decode (mB I_M_command) 342 = .ok (.iload_n 1, 1) := by decide +kernel
theorem e_M_command_343 : decode (mB I_M_command) 343 = .ok (.invokevirtual 263, 3) := by decide +kernel
theorem e_M_command_346 : decode (mB I_M_command) 346 = .ok (.putfield 256, 3) := by decide +kernel
theorem e_M_command_349 : decode (mB I_M_command) 349 = .ok (.aload_n 0, 1) := by decide +kernel
theorem e_M_command_350 : decode (mB I_M_command) 350 = .ok (.invokevirtual 202, 3) := by decide +kernel
theorem e_M_command_353 : decode (mB I_M_command) 353 = .ok (.return_, 1) := by decide +kernel
theorem e_M_starts_0 : decode (mB I_M_starts) 0 = .ok (.aload_n 0, 1) := by decide +kernel
theorem e_M_starts_1 : decode (mB I_M_starts) 1 = .ok (.iconst 0, 1) := by decide +kernel
theorem e_M_starts_2 : decode (mB I_M_starts) 2 = .ok (.putfield 79, 3) := by decide +kernel
theorem e_M_starts_5 : decode (mB I_M_starts) 5 = .ok (.aload_n 0, 1) := by decide +kernel
theorem e_M_starts_6 : decode (mB I_M_starts) 6 = .ok (.iconst 0, 1) := by decide +kernel
theorem e_M_starts_7 : decode (mB I_M_starts) 7 = .ok (.putfield 164, 3) := by decide +kernel
theorem e_M_starts_10 : decode (mB I_M_starts) 10 = .ok (.aload_n 0, 1) := by decide +kernel
theorem e_M_starts_11 : decode (mB I_M_starts) 11 = .ok (.iconst 0, 1) := by decide +kernel
theorem e_M_starts_12 : decode (mB I_M_starts) 12 = .ok (.putfield 188, 3) := by decide +kernel
theorem e_M_starts_15 : decode (mB I_M_starts) 15 = .ok (.aload_n 0, 1) := by decide +kernel
theorem e_M_starts_16 : decode (mB I_M_starts) 16 = .ok (.iconst 0, 1) := by decide +kernel
theorem e_M_starts_17 : decode (mB I_M_starts) 17 = .ok (.putfield 192, 3) := by decide +kernel
theorem e_M_starts_20 : decode (mB I_M_starts) 20 = .ok (.aload_n 0, 1) := by decide +kernel
theorem e_M_starts_21 : decode (mB I_M_starts) 21 = .ok (.iconst (-1), 1) := by decide +kernel
theorem e_M_starts_22 : decode (mB I_M_starts) 22 = .ok (.putfield 47, 3) := by decide +kernel
theorem e_M_starts_25 : decode (mB I_M_starts) 25 = .ok (.aload_n 0, 1) := by decide +kernel
theorem e_M_starts_26 : decode (mB I_M_starts) 26 = .ok (.getfield 9, 3) := by decide +kernel
theorem e_M_starts_29 : decode (mB I_M_starts) 29 = .ok (.iconst 0, 1) := by decide +kernel
theorem e_M_starts_30 : decode (mB I_M_starts) 30 = .ok (.aload_n 0, 1) := by decide +kernel
theorem e_M_starts_31 : decode (mB I_M_starts) 31 = .ok (.getfield 22, 3) := by decide +kernel
theorem e_M_starts_34 : decode (mB I_M_starts) 34 = .ok (.iconst 0, 1) := by decide +kernel
theorem e_M_starts_35 : decode (mB I_M_starts) 35 = .ok (.invokestatic 88, 3) := by decide +kernel
theorem e_M_starts_38 : decode (mB I_M_starts) 38 = .ok (.aload_n 0, 1) := by decide +kernel
theorem e_M_starts_39 : decode (mB I_M_starts) 39 = .ok (.invokevirtual 195, 3) := by decide +kernel
theorem e_M_starts_42 : decode (mB I_M_starts) 42 = .ok (.return_, 1) := by decide +kernel
theorem e_M_commands_0 : decode (mB I_M_commands) 0 = .ok (.iconst 0, 1) := by decide +kernel
theorem e_M_commands_1 : decode (mB I_M_commands) 1 = .ok (.istore_n 1, 1) := by decide +kernel
theorem e_M_commands_2 : decode (mB I_M_commands) 2 = .ok (.aload_n 0, 1) := by decide +kernel
theorem e_M_commands_3 : decode (mB I_M_commands) 3 = .ok (.getfield 188, 3) := by decide +kernel
theorem e_M_commands_6 : decode (mB I_M_commands) 6 = .ok (.ifCond .ne 20, 3) := by decide +kernel
theorem e_M_commands_9 : decode (mB I_M_commands) 9 = .ok (.aload_n 0, 1) := by decide +kernel
theorem e_M_commands_10 : decode (mB I_M_commands) 10 = .ok (.getfield 170, 3) := by decide +kernel
theorem e_M_commands_13 : decode (mB I_M_commands) 13 = .ok (.ifCond .eq 13, 3) := by decide +kernel
theorem e_M_commands_16 : decode (mB I_M_commands) 16 = .ok (.aload_n 0, 1) := by decide +kernel
theorem e_M_commands_17 : decode (mB I_M_commands) 17 = .ok (.invokevirtual 277, 3) := by decide +kernel
theorem e_M_commands_20 : decode (mB I_M_commands) 20 = .ok (.iinc 1 1, 3) := by decide +kernel
theorem e_M_commands_23 : decode (mB I_M_commands) 23 = .ok (.goto (-21), 3) := by decide +kernel
theorem e_M_commands_26 : decode (mB I_M_commands) 26 = .ok (.aload_n 0, 1) := by decide +kernel
theorem e_M_commands_27 : decode (mB I_M_commands) 27 = .ok (.iconst 0, 1) := by decide +kernel
theorem e_M_commands_28 : decode (mB I_M_commands) 28 = .ok (.putfield 66, 3) := by decide +kernel
theorem e_M_commands_31 : decode (mB I_M_commands) 31 = .ok (.aload_n 0, 1) := by decide +kernel
theorem e_M_commands_32 : decode (mB I_M_commands) 32 = .ok (.getfield 188, 3) := by decide +kernel
theorem e_M_commands_35 : decode (mB I_M_commands) 35 = .ok (.ifCond .eq 19, 3) := by decide +kernel
theorem e_M_commands_38 : decode (mB I_M_commands) 38 = .ok (.aload_n 0, 1) := by decide +kernel
theorem e_M_commands_39 : decode (mB I_M_commands) 39 = .ok (.getfield 22, 3) := by decide +kernel
theorem e_M_commands_42 : decode (mB I_M_commands) 42 = .ok (.iconst 0, 1) := by decide +kernel
theorem e_M_commands_43 : decode (mB I_M_commands) 43 = .ok (.aload_n 0, 1) := by decide +kernel
theorem e_M_commands_44 : decode (mB I_M_commands) 44 = .ok (.getfield 9, 3) := by decide +kernel
theorem e_M_commands_47 : decode (mB I_M_commands) 47 = .ok (.iconst 0, 1) := by decide +kernel
theorem e_M_commands_48 : decode (mB I_M_commands) 48 = .ok (.invokestatic 88, 3) := by decide +kernel
theorem e_M_commands_51 : decode (mB I_M_commands) 51 = .ok (.goto 11, 3) := by decide +kernel
theorem e_M_commands_54 : decode (mB I_M_commands) 54 = .ok (.aload_n 0, 1) := by decide +kernel
theorem e_M_commands_55 : decode (mB I_M_commands) 55 = .ok (.aload_n 0, 1) := by decide +kernel
theorem e_M_commands_56 : decode (mB I_M_commands) 56 = .ok (.getfield 22, 3) := by decide +kernel
theorem e_M_commands_59 : decode (mB I_M_commands) 59 = .ok (.invokevirtual 280, 3) := by decide +kernel
theorem e_M_commands_62 : decode (mB I_M_commands) 62 = .ok (.aload_n 0, 1) := by decide +kernel
theorem e_M_commands_63 : decode (mB I_M_commands) 63 = .ok (.getfield 188, 3) := by decide +kernel
theorem e_M_commands_66 : decode (mB I_M_commands) 66 = .ok (.ifCond .eq 7, 3) := by decide +kernel
theorem e_M_commands_69 : decode (mB I_M_commands) 69 = .ok (.iconst (-1), 1) := by decide +kernel
theorem e_M_commands_70 : decode (mB I_M_commands) 70 = .ok (.goto 4, 3) := by decide +kernel
theorem e_M_commands_73 : decode (mB I_M_commands) 73 = .ok (.iload_n 1, 1) := by decide +kernel
theorem e_M_commands_74 : decode (mB I_M_commands) 74 = .ok (.ireturn, 1) := by decide +kernel
theorem e_M_load_0 : decode (mB I_M_load) 0 = .ok (.aload_n 0, 1) := by decide +kernel
theorem e_M_load_1 : decode (mB I_M_load) 1 = .ok (.invokevirtual 284, 3) := by decide +kernel
theorem e_M_load_4 : decode (mB I_M_load) 4 = .ok (.iconst 0, 1) := by decide +kernel
theorem e_M_load_5 : decode (mB I_M_load) 5 = .ok (.istore_n 1, 1) := by decide +kernel
theorem e_M_load_6 : decode (mB I_M_load) 6 = .ok (.iload_n 1, 1) := by decide +kernel
theorem e_M_load_7 : decode (mB I_M_load) 7 = .ok (.sipush 284, 3) := by decide +kernel
theorem e_M_load_10 : decode (mB I_M_load) 10 = .ok (.if_icmp .ge 16, 3) := by decide +kernel
theorem e_M_load_13 : decode (mB I_M_load) 13 = .ok (.aload_n 0, 1) := by decide +kernel
theorem e_M_load_14 : decode (mB I_M_load) 14 = .ok (.getfield 9, 3) := by decide +kernel
theorem e_M_load_17 : decode (mB I_M_load) 17 = .ok (.iload_n 1, 1) := by decide +kernel
theorem e_M_load_18 : decode (mB I_M_load) 18 = .ok (.iconst 0, 1) := by decide +kernel
theorem e_M_load_19 : decode (mB I_M_load) 19 = .ok (.iastore, 1) := by decide +kernel
theorem e_M_load_20 : decode (mB I_M_load) 20 = .ok (.iinc 1 1, 3) := by decide +kernel
theorem e_M_load_23 : decode (mB I_M_load) 23 = .ok (.goto (-17), 3) := by decide +kernel
theorem e_M_load_26 : decode (mB I_M_load) 26 = .ok (.aload_n 0, 1) := by decide +kernel
theorem e_M_load_27 : decode (mB I_M_load) 27 = .ok (.aload_n 0, 1) := by decide +kernel
theorem e_M_load_28 : decode (mB I_M_load) 28 = .ok (.ldc_w 287, 3) := by decide +kernel
theorem e_M_load_31 : decode (mB I_M_load) 31 = .ok (.invokevirtual 214, 3) := by decide +kernel
theorem e_M_load_34 : decode (mB I_M_load) 34 = .ok (.ifCond .ne 7, 3) := by decide +kernel
theorem e_M_load_37 : decode (mB I_M_load) 37 = .ok (.iconst 1, 1) := by decide +kernel
theorem e_M_load_38 : decode (mB I_M_load) 38 = .ok (.goto 4, 3) := by decide +kernel
theorem e_M_load_41 : decode (mB I_M_load) 41 = .ok (.iconst 0, 1) := by decide +kernel
theorem e_M_load_42 : decode (mB I_M_load) 42 = .ok (.iconst 1, 1) := by decide +kernel
theorem e_M_load_43 : decode (mB I_M_load) 43 = .ok (.invokevirtual 198, 3) := by decide +kernel
theorem e_M_load_46 : decode (mB I_M_load) 46 = .ok (.aload_n 0, 1) := by decide +kernel
theorem e_M_load_47 : decode (mB I_M_load) 47 = .ok (.invokevirtual 202, 3) := by decide +kernel
theorem e_M_load_50 : decode (mB I_M_load) 50 = .ok (.aload_n 0, 1) := by decide +kernel
theorem e_M_load_51 : decode (mB I_M_load) 51 = .ok (.getfield 9, 3) := by decide +kernel
theorem e_M_load_54 : decode (mB I_M_load) 54 = .ok (.iconst 1, 1) := by decide +kernel
theorem e_M_load_55 : decode (mB I_M_load) 55 = .ok (.aload_n 0, 1) := by decide +kernel
theorem e_M_load_56 : decode (mB I_M_load) 56 = .ok (.iconst 0, 1) := by decide +kernel
theorem e_M_load_57 : decode (mB I_M_load) 57 = .ok (.sipush 999, 3) := by decide +kernel
theorem e_M_load_60 : decode (mB I_M_load) 60 = .ok (.invokevirtual 205, 3) := by decide +kernel
theorem e_M_load_63 : decode (mB I_M_load) 63 = .ok (.iastore, 1) := by decide +kernel
theorem e_M_load_64 : decode (mB I_M_load) 64 = .ok (.aload_n 0, 1) := by decide +kernel
theorem e_M_load_65 : decode (mB I_M_load) 65 = .ok (.getfield 9, 3) := by decide +kernel
theorem e_M_load_68 : decode (mB I_M_load) 68 = .ok (.iconst 2, 1) := by decide +kernel
theorem e_M_load_69 : decode (mB I_M_load) 69 = .ok (.aload_n 0, 1) := by decide +kernel
theorem e_M_load_70 : decode (mB I_M_load) 70 = .ok (.bipush 100, 2) := by decide +kernel
theorem e_M_load_72 : decode (mB I_M_load) 72 = .ok (.sipush 999, 3) := by decide +kernel
theorem e_M_load_75 : decode (mB I_M_load) 75 = .ok (.invokevirtual 205, 3) := by decide +kernel
theorem e_M_load_78 : decode (mB I_M_load) 78 = .ok (.iastore, 1) := by decide +kernel
theorem e_M_load_79 : decode (mB I_M_load) 79 = .ok (.aload_n 0, 1) := by decide +kernel
theorem e_M_load_80 : decode (mB I_M_load) 80 = .ok (.aload_n 0, 1) := by decide +kernel
theorem e_M_load_81 : decode (mB I_M_load) 81 = .ok (.getfield 170, 3) := by decide +kernel
theorem e_M_load_84 : decode (mB I_M_load) 84 = .ok (.iconst 3, 1) := by decide +kernel
theorem e_M_load_85 : decode (mB I_M_load) 85 = .ok (.if_icmp .eq 7, 3) := by decide +kernel
theorem e_M_load_88 : decode (mB I_M_load) 88 = .ok (.iconst 1, 1) := by decide +kernel
theorem e_M_load_89 : decode (mB I_M_load) 89 = .ok (.goto 4, 3) := by decide +kernel
theorem e_M_load_92 : decode (mB I_M_load) 92 = .ok (.iconst 0, 1) := by decide +kernel
theorem e_M_load_93 : decode (mB I_M_load) 93 = .ok (.iconst 1, 1) := by decide +kernel
theorem e_M_load_94 : decode (mB I_M_load) 94 = .ok (.invokevirtual 198, 3) := by decide +kernel
theorem e_M_load_97 : decode (mB I_M_load) 97 = .ok (.aload_n 0, 1) := by decide +kernel
theorem e_M_load_98 : decode (mB I_M_load) 98 = .ok (.invokevirtual 202, 3) := by decide +kernel
theorem e_M_load_101 : decode (mB I_M_load) 101 = .ok (.aload_n 0, 1) := by decide +kernel
theorem e_M_load_102 : decode (mB I_M_load) 102 = .ok (.invokevirtual 289, 3) := by decide +kernel
theorem e_M_load_105 : decode (mB I_M_load) 105 = .ok (.iconst (-1), 1) := by decide +kernel
theorem e_M_load_106 : decode (mB I_M_load) 106 = .ok (.if_icmp .ne 7, 3) := by decide +kernel
theorem e_M_load_109 : decode (mB I_M_load) 109 = .ok (.iconst (-1), 1) := by decide +kernel
theorem e_M_load_110 : decode (mB I_M_load) 110 = .ok (.goto 9, 3) := by decide +kernel
theorem e_M_load_113 : decode (mB I_M_load) 113 = .ok (.aload_n 0, 1) := by decide +kernel
theorem e_M_load_114 : decode (mB I_M_load) 114 = .ok (.getfield 9, 3) := by decide +kernel
theorem e_M_load_117 : decode (mB I_M_load) 117 = .ok (.iconst 0, 1) := by decide +kernel
theorem e_M_load_118 : decode (mB I_M_load) 118 = .ok (.iaload, 1) := by decide +kernel
theorem e_M_load_119 : decode (mB I_M_load) 119 = .ok (.ireturn, 1) := by decide +kernel
theorem e_M_play_0 : decode (mB I_M_play) 0 = .ok (.aload_n 0, 1) := by decide +kernel
theorem e_M_play_1 : decode (mB I_M_play) 1 = .ok (.invokevirtual 284, 3) := by decide +kernel
theorem e_M_play_4 : decode (mB I_M_play) 4 = .ok (.aload_n 0, 1) := by decide +kernel
theorem e_M_play_5 : decode (mB I_M_play) 5 = .ok (.invokevirtual 289, 3) := by decide +kernel
theorem e_M_play_8 : decode (mB I_M_play) 8 = .ok (.ireturn, 1) := by decide +kernel
theorem e_M_errorCode_0 : decode (mB I_M_errorCode) 0 = .ok (.aload_n 0, 1) := by decide +kernel
theorem e_M_errorCode_1 : decode (mB I_M_errorCode) 1 = .ok (.aload_n 0, 1) := by decide +kernel
theorem e_M_errorCode_2 : decode (mB I_M_errorCode) 2 = .ok (.getfield 192, 3) := by decide +kernel
theorem e_M_errorCode_5 : decode (mB I_M_errorCode) 5 = .ok (.invokevirtual 292, 3) := by decide +kernel
theorem e_M_errorCode_8 : decode (mB I_M_errorCode) 8 = .ok (.ireturn, 1) := by decide +kernel
theorem e_M_errorOffset_0 : decode (mB I_M_errorOffset) 0 = .ok (.aload_n 0, 1) := by decide +kernel
theorem e_M_errorOffset_1 : decode (mB I_M_errorOffset) 1 = .ok (.aload_n 0, 1) := by decide +kernel
theorem e_M_errorOffset_2 : decode (mB I_M_errorOffset) 2 = .ok (.getfield 47, 3) := by decide +kernel
theorem e_M_errorOffset_5 : decode (mB I_M_errorOffset) 5 = .ok (.invokevirtual 292, 3) := by decide +kernel
theorem e_M_errorOffset_8 : decode (mB I_M_errorOffset) 8 = .ok (.ireturn, 1) := by decide +kernel
theorem e_M_isBearing_0 : decode (mB I_M_isBearing) 0 = .ok (.iload_n 0, 1) := by decide +kernel
theorem e_M_isBearing_1 : decode (mB I_M_isBearing) 1 = .ok (.iconst 0, 1) := by decide +kernel
theorem e_M_isBearing_2 : decode (mB I_M_isBearing) 2 = .ok (.sipush 345, 3) := by decide +kernel
theorem e_M_isBearing_5 : decode (mB I_M_isBearing) 5 = .ok (.invokestatic 92, 3) := by decide +kernel
theorem e_M_isBearing_8 : decode (mB I_M_isBearing) 8 = .ok (.ifCond .eq 14, 3) := by decide +kernel
theorem e_M_isBearing_11 : decode (mB I_M_isBearing) 11 = .ok (.iload_n 0, 1) := by decide +kernel
theorem e_M_isBearing_12 : decode (mB I_M_isBearing) 12 = .ok (.bipush 15, 2) := by decide +kernel
theorem e_M_isBearing_14 : decode (mB I_M_isBearing) 14 = .ok (.irem, 1) := by decide +kernel
theorem e_M_isBearing_15 : decode (mB I_M_isBearing) 15 = .ok (.ifCond .ne 7, 3) := by decide +kernel
theorem e_M_isBearing_18 : decode (mB I_M_isBearing) 18 = .ok (.iconst 1, 1) := by decide +kernel
theorem e_M_isBearing_19 : decode (mB I_M_isBearing) 19 = .ok (.goto 4, 3) := by decide +kernel
theorem e_M_isBearing_22 : decode (mB I_M_isBearing) 22 = .ok (.iconst 0, 1) := by decide +kernel
theorem e_M_isBearing_23 : decode (mB I_M_isBearing) 23 = .ok (.ireturn, 1) := by decide +kernel
theorem e_M_mayAdd_0 : decode (mB I_M_mayAdd) 0 = .ok (.aload_n 0, 1) := by decide +kernel
theorem e_M_mayAdd_1 : decode (mB I_M_mayAdd) 1 = .ok (.iconst 2, 1) := by decide +kernel
theorem e_M_mayAdd_2 : decode (mB I_M_mayAdd) 2 = .ok (.putfield 153, 3) := by decide +kernel
theorem e_M_mayAdd_5 : decode (mB I_M_mayAdd) 5 = .ok (.aload_n 0, 1) := by decide +kernel
theorem e_M_mayAdd_6 : decode (mB I_M_mayAdd) 6 = .ok (.getfield 51, 3) := by decide +kernel
theorem e_M_mayAdd_9 : decode (mB I_M_mayAdd) 9 = .ok (.iconst 0, 1) := by decide +kernel
theorem e_M_mayAdd_10 : decode (mB I_M_mayAdd) 10 = .ok (.bipush 113, 2) := by decide +kernel
theorem e_M_mayAdd_12 : decode (mB I_M_mayAdd) 12 = .ok (.iastore, 1) := by decide +kernel
theorem e_M_mayAdd_13 : decode (mB I_M_mayAdd) 13 = .ok (.aload_n 0, 1) := by decide +kernel
theorem e_M_mayAdd_14 : decode (mB I_M_mayAdd) 14 = .ok (.getfield 51, 3) := by decide +kernel
theorem e_M_mayAdd_17 : decode (mB I_M_mayAdd) 17 = .ok (.iconst 1, 1) := by decide +kernel
theorem e_M_mayAdd_18 : decode (mB I_M_mayAdd) 18 = .ok (.bipush 97, 2) := by decide +kernel
theorem e_M_mayAdd_20 : decode (mB I_M_mayAdd) 20 = .ok (.aload_n 0, 1) := by decide +kernel
theorem e_M_mayAdd_21 : decode (mB I_M_mayAdd) 21 = .ok (.getfield 9, 3) := by decide +kernel
theorem e_M_mayAdd_24 : decode (mB I_M_mayAdd) 24 = .ok (.iconst 0, 1) := by decide +kernel
theorem e_M_mayAdd_25 : decode (mB I_M_mayAdd) 25 = .ok (.iaload, 1) := by decide +kernel
theorem e_M_mayAdd_26 : decode (mB I_M_mayAdd) 26 = .ok (.iadd, 1) := by decide +kernel
theorem e_M_mayAdd_27 : decode (mB I_M_mayAdd) 27 = .ok (.iastore, 1) := by decide +kernel
theorem e_M_mayAdd_28 : decode (mB I_M_mayAdd) 28 = .ok (.aload_n 0, 1) := by decide +kernel
theorem e_M_mayAdd_29 : decode (mB I_M_mayAdd) 29 = .ok (.getfield 9, 3) := by decide +kernel
theorem e_M_mayAdd_32 : decode (mB I_M_mayAdd) 32 = .ok (.iconst 0, 1) := by decide +kernel
theorem e_M_mayAdd_33 : decode (mB I_M_mayAdd) 33 = .ok (.iaload, 1) := by decide +kernel
theorem e_M_mayAdd_34 : decode (mB I_M_mayAdd) 34 = .ok (.bipush 20, 2) := by decide +kernel
theorem e_M_mayAdd_36 : decode (mB I_M_mayAdd) 36 = .ok (.if_icmp .ge 15, 3) := by decide +kernel
theorem e_M_mayAdd_39 : decode (mB I_M_mayAdd) 39 = .ok (.aload_n 0, 1) := by decide +kernel
theorem e_M_mayAdd_40 : decode (mB I_M_mayAdd) 40 = .ok (.invokevirtual 211, 3) := by decide +kernel
theorem e_M_mayAdd_43 : decode (mB I_M_mayAdd) 43 = .ok (.iconst (-1), 1) := by decide +kernel
theorem e_M_mayAdd_44 : decode (mB I_M_mayAdd) 44 = .ok (.if_icmp .ne 7, 3) := by decide +kernel
theorem e_M_mayAdd_47 : decode (mB I_M_mayAdd) 47 = .ok (.iconst 1, 1) := by decide +kernel
theorem e_M_mayAdd_48 : decode (mB I_M_mayAdd) 48 = .ok (.goto 4, 3) := by decide +kernel
theorem e_M_mayAdd_51 : decode (mB I_M_mayAdd) 51 = .ok (.iconst 0, 1) := by decide +kernel
theorem e_M_mayAdd_52 : decode (mB I_M_mayAdd) 52 = .ok (.ireturn, 1) := by decide +kernel
theorem e_M_adds_0 : decode (mB I_M_adds) 0 = .ok (.aload_n 0, 1) := by decide +kernel
theorem e_M_adds_1 : decode (mB I_M_adds) 1 = .ok (.getfield 9, 3) := by decide +kernel
theorem e_M_adds_4 : decode (mB I_M_adds) 4 = .ok (.iconst 0, 1) := by decide +kernel
theorem e_M_adds_5 : decode (mB I_M_adds) 5 = .ok (.iaload, 1) := by decide +kernel
theorem e_M_adds_6 : decode (mB I_M_adds) 6 = .ok (.istore 7, 2) := by decide +kernel
theorem e_M_adds_8 : decode (mB I_M_adds) 8 = .ok (.aload_n 0, 1) := by decide +kernel
theorem e_M_adds_9 : decode (mB I_M_adds) 9 = .ok (.aload_n 0, 1) := by decide +kernel
theorem e_M_adds_10 : decode (mB I_M_adds) 10 = .ok (.getfield 9, 3) := by decide +kernel
theorem e_M_adds_13 : decode (mB I_M_adds) 13 = .ok (.invokevirtual 280, 3) := by decide +kernel
theorem e_M_adds_16 : decode (mB I_M_adds) 16 = .ok (.aload_n 0, 1) := by decide +kernel
theorem e_M_adds_17 : decode (mB I_M_adds) 17 = .ok (.invokevirtual 218, 3) := by decide +kernel
theorem e_M_adds_20 : decode (mB I_M_adds) 20 = .ok (.aload_n 0, 1) := by decide +kernel
theorem e_M_adds_21 : decode (mB I_M_adds) 21 = .ok (.iload 7, 2) := by decide +kernel
theorem e_M_adds_23 : decode (mB I_M_adds) 23 = .ok (.iconst 0, 1) := by decide +kernel
theorem e_M_adds_24 : decode (mB I_M_adds) 24 = .ok (.iload_n 1, 1) := by decide +kernel
theorem e_M_adds_25 : decode (mB I_M_adds) 25 = .ok (.invokevirtual 149, 3) := by decide +kernel
theorem e_M_adds_28 : decode (mB I_M_adds) 28 = .ok (.aload_n 0, 1) := by decide +kernel
theorem e_M_adds_29 : decode (mB I_M_adds) 29 = .ok (.iload 7, 2) := by decide +kernel
theorem e_M_adds_31 : decode (mB I_M_adds) 31 = .ok (.iconst 1, 1) := by decide +kernel
theorem e_M_adds_32 : decode (mB I_M_adds) 32 = .ok (.iload_n 2, 1) := by decide +kernel
theorem e_M_adds_33 : decode (mB I_M_adds) 33 = .ok (.invokevirtual 149, 3) := by decide +kernel
theorem e_M_adds_36 : decode (mB I_M_adds) 36 = .ok (.aload_n 0, 1) := by decide +kernel
theorem e_M_adds_37 : decode (mB I_M_adds) 37 = .ok (.iload 7, 2) := by decide +kernel
theorem e_M_adds_39 : decode (mB I_M_adds) 39 = .ok (.iconst 2, 1) := by decide +kernel
theorem e_M_adds_40 : decode (mB I_M_adds) 40 = .ok (.iload_n 3, 1) := by decide +kernel
theorem e_M_adds_41 : decode (mB I_M_adds) 41 = .ok (.invokevirtual 149, 3) := by decide +kernel
theorem e_M_adds_44 : decode (mB I_M_adds) 44 = .ok (.aload_n 0, 1) := by decide +kernel
theorem e_M_adds_45 : decode (mB I_M_adds) 45 = .ok (.iload 7, 2) := by decide +kernel
theorem e_M_adds_47 : decode (mB I_M_adds) 47 = .ok (.iconst 3, 1) := by decide +kernel
theorem e_M_adds_48 : decode (mB I_M_adds) 48 = .ok (.iconst 0, 1) := by decide +kernel
theorem e_M_adds_49 : decode (mB I_M_adds) 49 = .ok (.invokevirtual 149, 3) := by decide +kernel
theorem e_M_adds_52 : decode (mB I_M_adds) 52 = .ok (.aload_n 0, 1) := by decide +kernel
theorem e_M_adds_53 : decode (mB I_M_adds) 53 = .ok (.iload 7, 2) := by decide +kernel
theorem e_M_adds_55 : decode (mB I_M_adds) 55 = .ok (.iconst 4, 1) := by decide +kernel
theorem e_M_adds_56 : decode (mB I_M_adds) 56 = .ok (.iload 4, 2) := by decide +kernel
theorem e_M_adds_58 : decode (mB I_M_adds) 58 = .ok (.invokevirtual 149, 3) := by decide +kernel
theorem e_M_adds_61 : decode (mB I_M_adds) 61 = .ok (.aload_n 0, 1) := by decide +kernel
theorem e_M_adds_62 : decode (mB I_M_adds) 62 = .ok (.iload 7, 2) := by decide +kernel
theorem e_M_adds_64 : decode (mB I_M_adds) 64 = .ok (.iconst 5, 1) := by decide +kernel
theorem e_M_adds_65 : decode (mB I_M_adds) 65 = .ok (.iload 5, 2) := by decide +kernel
theorem e_M_adds_67 : decode (mB I_M_adds) 67 = .ok (.invokevirtual 149, 3) := by decide +kernel
theorem e_M_adds_70 : decode (mB I_M_adds) 70 = .ok (.aload_n 0, 1) := by decide +kernel
theorem e_M_adds_71 : decode (mB I_M_adds) 71 = .ok (.iload 7, 2) := by decide +kernel
theorem e_M_adds_73 : decode (mB I_M_adds) 73 = .ok (.bipush 6, 2) := by decide +kernel
theorem e_M_adds_75 : decode (mB I_M_adds) 75 = .ok (.iload 6, 2) := by decide +kernel
theorem e_M_adds_77 : decode (mB I_M_adds) 77 = .ok (.invokevirtual 149, 3) := by decide +kernel
theorem e_M_adds_80 : decode (mB I_M_adds) 80 = .ok (.aload_n 0, 1) := by decide +kernel
theorem e_M_adds_81 : decode (mB I_M_adds) 81 = .ok (.getfield 9, 3) := by decide +kernel
theorem e_M_adds_84 : decode (mB I_M_adds) 84 = .ok (.iconst 0, 1) := by decide +kernel
theorem e_M_adds_85 : decode (mB I_M_adds) 85 = .ok (.dup2, 1) := by decide +kernel
theorem e_M_adds_86 : decode (mB I_M_adds) 86 = .ok (.iaload, 1) := by decide +kernel
theorem e_M_adds_87 : decode (mB I_M_adds) 87 = .ok (.iconst 1, 1) := by decide +kernel
theorem e_M_adds_88 : decode (mB I_M_adds) 88 = .ok (.iadd, 1) := by decide +kernel
theorem e_M_adds_89 : decode (mB I_M_adds) 89 = .ok (.iastore, 1) := by decide +kernel
theorem e_M_adds_90 : decode (mB I_M_adds) 90 = .ok (.iload 7, 2) := by decide +kernel
theorem e_M_adds_92 : decode (mB I_M_adds) 92 = .ok (.ireturn, 1) := by decide +kernel
theorem e_M_addLeg_0 : decode (mB I_M_addLeg) 0 = .ok (.iload_n 1, 1) := by decide +kernel
theorem e_M_addLeg_1 : decode (mB I_M_addLeg) 1 = .ok (.invokestatic 295, 3) := by decide +kernel
theorem e_M_addLeg_4 : decode (mB I_M_addLeg) 4 = .ok (.ifCond .eq 50, 3) := by decide +kernel
theorem e_M_addLeg_7 : decode (mB I_M_addLeg) 7 = .ok (.iload_n 2, 1) := by decide +kernel
theorem e_M_addLeg_8 : decode (mB I_M_addLeg) 8 = .ok (.iconst 0, 1) := by decide +kernel
theorem e_M_addLeg_9 : decode (mB I_M_addLeg) 9 = .ok (.bipush 99, 2) := by decide +kernel
theorem e_M_addLeg_11 : decode (mB I_M_addLeg) 11 = .ok (.invokestatic 92, 3) := by decide +kernel
theorem e_M_addLeg_14 : decode (mB I_M_addLeg) 14 = .ok (.ifCond .eq 40, 3) := by decide +kernel
theorem e_M_addLeg_17 : decode (mB I_M_addLeg) 17 = .ok (.iload_n 3, 1) := by decide +kernel
theorem e_M_addLeg_18 : decode (mB I_M_addLeg) 18 = .ok (.iconst 0, 1) := by decide +kernel
theorem e_M_addLeg_19 : decode (mB I_M_addLeg) 19 = .ok (.bipush 99, 2) := by decide +kernel
theorem e_M_addLeg_21 : decode (mB I_M_addLeg) 21 = .ok (.invokestatic 92, 3) := by decide +kernel
theorem e_M_addLeg_24 : decode (mB I_M_addLeg) 24 = .ok (.ifCond .eq 30, 3) := by decide +kernel
theorem e_M_addLeg_27 : decode (mB I_M_addLeg) 27 = .ok (.iload 4, 2) := by decide +kernel
theorem e_M_addLeg_29 : decode (mB I_M_addLeg) 29 = .ok (.iconst 0, 1) := by decide +kernel
theorem e_M_addLeg_30 : decode (mB I_M_addLeg) 30 = .ok (.sipush 9999, 3) := by decide +kernel
theorem e_M_addLeg_33 : decode (mB I_M_addLeg) 33 = .ok (.invokestatic 92, 3) := by decide +kernel
theorem e_M_addLeg_36 : decode (mB I_M_addLeg) 36 = .ok (.ifCond .eq 18, 3) := by decide +kernel
theorem e_M_addLeg_39 : decode (mB I_M_addLeg) 39 = .ok (.iload 5, 2) := by decide +kernel
theorem e_M_addLeg_41 : decode (mB I_M_addLeg) 41 = .ok (.iconst 0, 1) := by decide +kernel
theorem e_M_addLeg_42 : decode (mB I_M_addLeg) 42 = .ok (.bipush 50, 2) := by decide +kernel
theorem e_M_addLeg_44 : decode (mB I_M_addLeg) 44 = .ok (.invokestatic 92, 3) := by decide +kernel
theorem e_M_addLeg_47 : decode (mB I_M_addLeg) 47 = .ok (.ifCond .eq 7, 3) := by decide +kernel
theorem e_M_addLeg_50 : decode (mB I_M_addLeg) 50 = .ok (.iconst 1, 1) := by decide +kernel
theorem e_M_addLeg_51 : decode (mB I_M_addLeg) 51 = .ok (.goto 4, 3) := by decide +kernel
theorem e_M_addLeg_54 : decode (mB I_M_addLeg) 54 = .ok (.iconst 0, 1) := by decide +kernel
theorem e_M_addLeg_55 : decode (mB I_M_addLeg) 55 = .ok (.istore 6, 2) := by decide +kernel
theorem e_M_addLeg_57 : decode (mB I_M_addLeg) 57 = .ok (.aload_n 0, 1) := by decide +kernel
theorem e_M_addLeg_58 : decode (mB I_M_addLeg) 58 = .ok (.iload 6, 2) := by decide +kernel
theorem e_M_addLeg_60 : decode (mB I_M_addLeg) 60 = .ok (.ifCond .ne 7, 3) := by decide +kernel
theorem e_M_addLeg_63 : decode (mB I_M_addLeg) 63 = .ok (.iconst 1, 1) := by decide +kernel
theorem e_M_addLeg_64 : decode (mB I_M_addLeg) 64 = .ok (.goto 4, 3) := by decide +kernel
theorem e_M_addLeg_67 : decode (mB I_M_addLeg) 67 = .ok (.iconst 0, 1) := by decide +kernel
theorem e_M_addLeg_68 : decode (mB I_M_addLeg) 68 = .ok (.aload_n 0, 1) := by decide +kernel
theorem e_M_addLeg_69 : decode (mB I_M_addLeg) 69 = .ok (.invokevirtual 298, 3) := by decide +kernel
theorem e_M_addLeg_72 : decode (mB I_M_addLeg) 72 = .ok (.ifCond .ne 7, 3) := by decide +kernel
theorem e_M_addLeg_75 : decode (mB I_M_addLeg) 75 = .ok (.iconst 1, 1) := by decide +kernel
theorem e_M_addLeg_76 : decode (mB I_M_addLeg) 76 = .ok (.goto 4, 3) := by decide +kernel
theorem e_M_addLeg_79 : decode (mB I_M_addLeg) 79 = .ok (.iconst 0, 1) := by decide +kernel
theorem e_M_addLeg_80 : decode (mB I_M_addLeg) 80 = .ok (.iconst 0, 1) := by decide +kernel
theorem e_M_addLeg_81 : decode (mB I_M_addLeg) 81 = .ok (.invokevirtual 160, 3) := by decide +kernel
theorem e_M_addLeg_84 : decode (mB I_M_addLeg) 84 = .ok (.ifCond .eq 5, 3) := by decide +kernel
theorem e_M_addLeg_87 : decode (mB I_M_addLeg) 87 = .ok (.iconst 0, 1) := by decide +kernel
theorem e_M_addLeg_88 : decode (mB I_M_addLeg) 88 = .ok (.ireturn, 1) := by decide +kernel
theorem e_M_addLeg_89 : decode (mB I_M_addLeg) 89 = .ok (.aload_n 0, 1) := by decide +kernel
theorem e_M_addLeg_90 : decode (mB I_M_addLeg) 90 = .ok (.iload_n 1, 1) := by decide +kernel
theorem e_M_addLeg_91 : decode (mB I_M_addLeg) 91 = .ok (.iload_n 2, 1) := by decide +kernel
theorem e_M_addLeg_92 : decode (mB I_M_addLeg) 92 = .ok (.iload_n 3, 1) := by decide +kernel
theorem e_M_addLeg_93 : decode (mB I_M_addLeg) 93 = .ok (.iload 4, 2) := by decide +kernel
theorem e_M_addLeg_95 : decode (mB I_M_addLeg) 95 = .ok (.iload 5, 2) := by decide +kernel
theorem e_M_addLeg_97 : decode (mB I_M_addLeg) 97 = .ok (.iconst 0, 1) := by decide +kernel
theorem e_M_addLeg_98 : decode (mB I_M_addLeg) 98 = .ok (.invokevirtual 302, 3) := by decide +kernel
theorem e_M_addLeg_101 : decode (mB I_M_addLeg) 101 = .ok (.ireturn, 1) := by decide +kernel
theorem e_M_addBog_0 : decode (mB I_M_addBog) 0 = .ok (.aload_n 0, 1) := by decide +kernel
theorem e_M_addBog_1 : decode (mB I_M_addBog) 1 = .ok (.iload_n 1, 1) := by decide +kernel
theorem e_M_addBog_2 : decode (mB I_M_addBog) 2 = .ok (.invokestatic 295, 3) := by decide +kernel
theorem e_M_addBog_5 : decode (mB I_M_addBog) 5 = .ok (.ifCond .eq 14, 3) := by decide +kernel
theorem e_M_addBog_8 : decode (mB I_M_addBog) 8 = .ok (.iload_n 2, 1) := by decide +kernel
theorem e_M_addBog_9 : decode (mB I_M_addBog) 9 = .ok (.iconst 1, 1) := by decide +kernel
theorem e_M_addBog_10 : decode (mB I_M_addBog) 10 = .ok (.sipush 999, 3) := by decide +kernel
theorem e_M_addBog_13 : decode (mB I_M_addBog) 13 = .ok (.invokestatic 92, 3) := by decide +kernel
theorem e_M_addBog_16 : decode (mB I_M_addBog) 16 = .ok (.ifCond .ne 7, 3) := by decide +kernel
theorem e_M_addBog_19 : decode (mB I_M_addBog) 19 = .ok (.iconst 1, 1) := by decide +kernel
theorem e_M_addBog_20 : decode (mB I_M_addBog) 20 = .ok (.goto 4, 3) := by decide +kernel
theorem e_M_addBog_23 : decode (mB I_M_addBog) 23 = .ok (.iconst 0, 1) := by decide +kernel
theorem e_M_addBog_24 : decode (mB I_M_addBog) 24 = .ok (.aload_n 0, 1) := by decide +kernel
theorem e_M_addBog_25 : decode (mB I_M_addBog) 25 = .ok (.invokevirtual 298, 3) := by decide +kernel
theorem e_M_addBog_28 : decode (mB I_M_addBog) 28 = .ok (.ifCond .ne 7, 3) := by decide +kernel
theorem e_M_addBog_31 : decode (mB I_M_addBog) 31 = .ok (.iconst 1, 1) := by decide +kernel
theorem e_M_addBog_32 : decode (mB I_M_addBog) 32 = .ok (.goto 4, 3) := by decide +kernel
theorem e_M_addBog_35 : decode (mB I_M_addBog) 35 = .ok (.iconst 0, 1) := by decide +kernel
theorem e_M_addBog_36 : decode (mB I_M_addBog) 36 = .ok (.iconst 0, 1) := by decide +kernel
theorem e_M_addBog_37 : decode (mB I_M_addBog) 37 = .ok (.invokevirtual 160, 3) := by decide +kernel
theorem e_M_addBog_40 : decode (mB I_M_addBog) 40 = .ok (.ifCond .eq 5, 3) := by decide +kernel
theorem e_M_addBog_43 : decode (mB I_M_addBog) 43 = .ok (.iconst 0, 1) := by decide +kernel
theorem e_M_addBog_44 : decode (mB I_M_addBog) 44 = .ok (.ireturn, 1) := by decide +kernel
theorem e_M_addBog_45 : decode (mB I_M_addBog) 45 = .ok (.aload_n 0, 1) := by decide +kernel
theorem e_M_addBog_46 : decode (mB I_M_addBog) 46 = .ok (.iload_n 1, 1) := by decide +kernel
theorem e_M_addBog_47 : decode (mB I_M_addBog) 47 = .ok (.iconst 0, 1) := by decide +kernel
theorem e_M_addBog_48 : decode (mB I_M_addBog) 48 = .ok (.iconst 0, 1) := by decide +kernel
theorem e_M_addBog_49 : decode (mB I_M_addBog) 49 = .ok (.iconst 0, 1) := by decide +kernel
theorem e_M_addBog_50 : decode (mB I_M_addBog) 50 = .ok (.iconst 0, 1) := by decide +kernel
theorem e_M_addBog_51 : decode (mB I_M_addBog) 51 = .ok (.iload_n 2, 1) := by decide +kernel
theorem e_M_addBog_52 : decode (mB I_M_addBog) 52 = .ok (.invokevirtual 302, 3) := by decide +kernel
theorem e_M_addBog_55 : decode (mB I_M_addBog) 55 = .ok (.ireturn, 1) := by decide +kernel
theorem e_M_dropPin_0 : decode (mB I_M_dropPin) 0 = .ok (.aload_n 0, 1) := by decide +kernel
theorem e_M_dropPin_1 : decode (mB I_M_dropPin) 1 = .ok (.iload_n 1, 1) := by decide +kernel
theorem e_M_dropPin_2 : decode (mB I_M_dropPin) 2 = .ok (.invokevirtual 306, 3) := by decide +kernel
theorem e_M_dropPin_5 : decode (mB I_M_dropPin) 5 = .ok (.istore_n 2, 1) := by decide +kernel
theorem e_M_dropPin_6 : decode (mB I_M_dropPin) 6 = .ok (.aload_n 0, 1) := by decide +kernel
theorem e_M_dropPin_7 : decode (mB I_M_dropPin) 7 = .ok (.iload_n 2, 1) := by decide +kernel
theorem e_M_dropPin_8 : decode (mB I_M_dropPin) 8 = .ok (.iload_n 2, 1) := by decide +kernel
theorem e_M_dropPin_9 : decode (mB I_M_dropPin) 9 = .ok (.ifCond .ne 15, 3) := by decide +kernel
theorem e_M_dropPin_12 : decode (mB I_M_dropPin) 12 = .ok (.aload_n 0, 1) := by decide +kernel
theorem e_M_dropPin_13 : decode (mB I_M_dropPin) 13 = .ok (.iload_n 1, 1) := by decide +kernel
theorem e_M_dropPin_14 : decode (mB I_M_dropPin) 14 = .ok (.invokevirtual 250, 3) := by decide +kernel
theorem e_M_dropPin_17 : decode (mB I_M_dropPin) 17 = .ok (.ifCond .ne 7, 3) := by decide +kernel
theorem e_M_dropPin_20 : decode (mB I_M_dropPin) 20 = .ok (.iconst 1, 1) := by decide +kernel
theorem e_M_dropPin_21 : decode (mB I_M_dropPin) 21 = .ok (.goto 4, 3) := by decide +kernel
theorem e_M_dropPin_24 : decode (mB I_M_dropPin) 24 = .ok (.iconst 0, 1) := by decide +kernel
theorem e_M_dropPin_25 : decode (mB I_M_dropPin) 25 = .ok (.iconst 0, 1) := by decide +kernel
theorem e_M_dropPin_26 : decode (mB I_M_dropPin) 26 = .ok (.invokevirtual 160, 3) := by decide +kernel
theorem e_M_dropPin_29 : decode (mB I_M_dropPin) 29 = .ok (.ifCond .eq 5, 3) := by decide +kernel
theorem e_M_dropPin_32 : decode (mB I_M_dropPin) 32 = .ok (.iconst 0, 1) := by decide +kernel
theorem e_M_dropPin_33 : decode (mB I_M_dropPin) 33 = .ok (.ireturn, 1) := by decide +kernel
theorem e_M_dropPin_34 : decode (mB I_M_dropPin) 34 = .ok (.aload_n 0, 1) := by decide +kernel
theorem e_M_dropPin_35 : decode (mB I_M_dropPin) 35 = .ok (.aload_n 0, 1) := by decide +kernel
theorem e_M_dropPin_36 : decode (mB I_M_dropPin) 36 = .ok (.getfield 9, 3) := by decide +kernel
theorem e_M_dropPin_39 : decode (mB I_M_dropPin) 39 = .ok (.invokevirtual 280, 3) := by decide +kernel
theorem e_M_dropPin_42 : decode (mB I_M_dropPin) 42 = .ok (.aload_n 0, 1) := by decide +kernel
theorem e_M_dropPin_43 : decode (mB I_M_dropPin) 43 = .ok (.iload_n 1, 1) := by decide +kernel
theorem e_M_dropPin_44 : decode (mB I_M_dropPin) 44 = .ok (.iconst 1, 1) := by decide +kernel
theorem e_M_dropPin_45 : decode (mB I_M_dropPin) 45 = .ok (.invokevirtual 253, 3) := by decide +kernel
theorem e_M_dropPin_48 : decode (mB I_M_dropPin) 48 = .ok (.ireturn, 1) := by decide +kernel
theorem e_M_findPin_0 : decode (mB I_M_findPin) 0 = .ok (.aload_n 0, 1) := by decide +kernel
theorem e_M_findPin_1 : decode (mB I_M_findPin) 1 = .ok (.iload_n 1, 1) := by decide +kernel
theorem e_M_findPin_2 : decode (mB I_M_findPin) 2 = .ok (.invokevirtual 306, 3) := by decide +kernel
theorem e_M_findPin_5 : decode (mB I_M_findPin) 5 = .ok (.istore_n 2, 1) := by decide +kernel
theorem e_M_findPin_6 : decode (mB I_M_findPin) 6 = .ok (.aload_n 0, 1) := by decide +kernel
theorem e_M_findPin_7 : decode (mB I_M_findPin) 7 = .ok (.iload_n 2, 1) := by decide +kernel
theorem e_M_findPin_8 : decode (mB I_M_findPin) 8 = .ok (.iload_n 2, 1) := by decide +kernel
theorem e_M_findPin_9 : decode (mB I_M_findPin) 9 = .ok (.ifCond .ne 16, 3) := by decide +kernel
theorem e_M_findPin_12 : decode (mB I_M_findPin) 12 = .ok (.aload_n 0, 1) := by decide +kernel
theorem e_M_findPin_13 : decode (mB I_M_findPin) 13 = .ok (.iload_n 1, 1) := by decide +kernel
theorem e_M_findPin_14 : decode (mB I_M_findPin) 14 = .ok (.iconst 3, 1) := by decide +kernel
theorem e_M_findPin_15 : decode (mB I_M_findPin) 15 = .ok (.invokevirtual 96, 3) := by decide +kernel
theorem e_M_findPin_18 : decode (mB I_M_findPin) 18 = .ok (.ifCond .ne 7, 3) := by decide +kernel
theorem e_M_findPin_21 : decode (mB I_M_findPin) 21 = .ok (.iconst 1, 1) := by decide +kernel
theorem e_M_findPin_22 : decode (mB I_M_findPin) 22 = .ok (.goto 4, 3) := by decide +kernel
theorem e_M_findPin_25 : decode (mB I_M_findPin) 25 = .ok (.iconst 0, 1) := by decide +kernel
theorem e_M_findPin_26 : decode (mB I_M_findPin) 26 = .ok (.iconst 0, 1) := by decide +kernel
theorem e_M_findPin_27 : decode (mB I_M_findPin) 27 = .ok (.invokevirtual 160, 3) := by decide +kernel
theorem e_M_findPin_30 : decode (mB I_M_findPin) 30 = .ok (.ifCond .eq 5, 3) := by decide +kernel
theorem e_M_findPin_33 : decode (mB I_M_findPin) 33 = .ok (.iconst 0, 1) := by decide +kernel
theorem e_M_findPin_34 : decode (mB I_M_findPin) 34 = .ok (.ireturn, 1) := by decide +kernel
theorem e_M_findPin_35 : decode (mB I_M_findPin) 35 = .ok (.aload_n 0, 1) := by decide +kernel
theorem e_M_findPin_36 : decode (mB I_M_findPin) 36 = .ok (.aload_n 0, 1) := by decide +kernel
theorem e_M_findPin_37 : decode (mB I_M_findPin) 37 = .ok (.getfield 9, 3) := by decide +kernel
theorem e_M_findPin_40 : decode (mB I_M_findPin) 40 = .ok (.invokevirtual 280, 3) := by decide +kernel
theorem e_M_findPin_43 : decode (mB I_M_findPin) 43 = .ok (.aload_n 0, 1) := by decide +kernel
theorem e_M_findPin_44 : decode (mB I_M_findPin) 44 = .ok (.iload_n 1, 1) := by decide +kernel
theorem e_M_findPin_45 : decode (mB I_M_findPin) 45 = .ok (.iconst (-1), 1) := by decide +kernel
theorem e_M_findPin_46 : decode (mB I_M_findPin) 46 = .ok (.invokevirtual 253, 3) := by decide +kernel
theorem e_M_findPin_49 : decode (mB I_M_findPin) 49 = .ok (.ireturn, 1) := by decide +kernel
theorem e_M_removeLast_0 : decode (mB I_M_removeLast) 0 = .ok (.aload_n 0, 1) := by decide +kernel
theorem e_M_removeLast_1 : decode (mB I_M_removeLast) 1 = .ok (.aload_n 0, 1) := by decide +kernel
theorem e_M_removeLast_2 : decode (mB I_M_removeLast) 2 = .ok (.getfield 9, 3) := by decide +kernel
theorem e_M_removeLast_5 : decode (mB I_M_removeLast) 5 = .ok (.iconst 0, 1) := by decide +kernel
theorem e_M_removeLast_6 : decode (mB I_M_removeLast) 6 = .ok (.iaload, 1) := by decide +kernel
theorem e_M_removeLast_7 : decode (mB I_M_removeLast) 7 = .ok (.ifCond .ne 7, 3) := by decide +kernel
theorem e_M_removeLast_10 : decode (mB I_M_removeLast) 10 = .ok (.iconst 1, 1) := by decide +kernel
theorem e_M_removeLast_11 : decode (mB I_M_removeLast) 11 = .ok (.goto 4, 3) := by decide +kernel
theorem e_M_removeLast_14 : decode (mB I_M_removeLast) 14 = .ok (.iconst 0, 1) := by decide +kernel
theorem e_M_removeLast_15 : decode (mB I_M_removeLast) 15 = .ok (.iconst 0, 1) := by decide +kernel
theorem e_M_removeLast_16 : decode (mB I_M_removeLast) 16 = .ok (.iconst 0, 1) := by decide +kernel
theorem e_M_removeLast_17 : decode (mB I_M_removeLast) 17 = .ok (.invokevirtual 160, 3) := by decide +kernel
theorem e_M_removeLast_20 : decode (mB I_M_removeLast) 20 = .ok (.ifCond .eq 5, 3) := by decide +kernel
theorem e_M_removeLast_23 : decode (mB I_M_removeLast) 23 = .ok (.iconst 0, 1) := by decide +kernel
theorem e_M_removeLast_24 : decode (mB I_M_removeLast) 24 = .ok (.ireturn, 1) := by decide +kernel
theorem e_M_removeLast_25 : decode (mB I_M_removeLast) 25 = .ok (.aload_n 0, 1) := by decide +kernel
theorem e_M_removeLast_26 : decode (mB I_M_removeLast) 26 = .ok (.aload_n 0, 1) := by decide +kernel
theorem e_M_removeLast_27 : decode (mB I_M_removeLast) 27 = .ok (.getfield 9, 3) := by decide +kernel
theorem e_M_removeLast_30 : decode (mB I_M_removeLast) 30 = .ok (.invokevirtual 280, 3) := by decide +kernel
theorem e_M_removeLast_33 : decode (mB I_M_removeLast) 33 = .ok (.aload_n 0, 1) := by decide +kernel
theorem e_M_removeLast_34 : decode (mB I_M_removeLast) 34 = .ok (.invokevirtual 270, 3) := by decide +kernel
theorem e_M_removeLast_37 : decode (mB I_M_removeLast) 37 = .ok (.ireturn, 1) := by decide +kernel
theorem e_M_setWear_0 : decode (mB I_M_setWear) 0 = .ok (.aload_n 0, 1) := by decide +kernel
theorem e_M_setWear_1 : decode (mB I_M_setWear) 1 = .ok (.iload_n 1, 1) := by decide +kernel
theorem e_M_setWear_2 : decode (mB I_M_setWear) 2 = .ok (.iconst 0, 1) := by decide +kernel
theorem e_M_setWear_3 : decode (mB I_M_setWear) 3 = .ok (.sipush 999, 3) := by decide +kernel
theorem e_M_setWear_6 : decode (mB I_M_setWear) 6 = .ok (.invokestatic 92, 3) := by decide +kernel
theorem e_M_setWear_9 : decode (mB I_M_setWear) 9 = .ok (.ifCond .ne 7, 3) := by decide +kernel
theorem e_M_setWear_12 : decode (mB I_M_setWear) 12 = .ok (.iconst 1, 1) := by decide +kernel
theorem e_M_setWear_13 : decode (mB I_M_setWear) 13 = .ok (.goto 4, 3) := by decide +kernel
theorem e_M_setWear_16 : decode (mB I_M_setWear) 16 = .ok (.iconst 0, 1) := by decide +kernel
theorem e_M_setWear_17 : decode (mB I_M_setWear) 17 = .ok (.iconst 0, 1) := by decide +kernel
theorem e_M_setWear_18 : decode (mB I_M_setWear) 18 = .ok (.iconst 0, 1) := by decide +kernel
theorem e_M_setWear_19 : decode (mB I_M_setWear) 19 = .ok (.invokevirtual 160, 3) := by decide +kernel
theorem e_M_setWear_22 : decode (mB I_M_setWear) 22 = .ok (.ifCond .eq 5, 3) := by decide +kernel
theorem e_M_setWear_25 : decode (mB I_M_setWear) 25 = .ok (.iconst 0, 1) := by decide +kernel
theorem e_M_setWear_26 : decode (mB I_M_setWear) 26 = .ok (.ireturn, 1) := by decide +kernel
theorem e_M_setWear_27 : decode (mB I_M_setWear) 27 = .ok (.aload_n 0, 1) := by decide +kernel
theorem e_M_setWear_28 : decode (mB I_M_setWear) 28 = .ok (.aload_n 0, 1) := by decide +kernel
theorem e_M_setWear_29 : decode (mB I_M_setWear) 29 = .ok (.getfield 9, 3) := by decide +kernel
theorem e_M_setWear_32 : decode (mB I_M_setWear) 32 = .ok (.invokevirtual 280, 3) := by decide +kernel
theorem e_M_setWear_35 : decode (mB I_M_setWear) 35 = .ok (.aload_n 0, 1) := by decide +kernel
theorem e_M_setWear_36 : decode (mB I_M_setWear) 36 = .ok (.iconst 1, 1) := by decide +kernel
theorem e_M_setWear_37 : decode (mB I_M_setWear) 37 = .ok (.iload_n 1, 1) := by decide +kernel
theorem e_M_setWear_38 : decode (mB I_M_setWear) 38 = .ok (.invokevirtual 263, 3) := by decide +kernel
theorem e_M_setWear_41 : decode (mB I_M_setWear) 41 = .ok (.ireturn, 1) := by decide +kernel
theorem e_M_setPace_0 : decode (mB I_M_setPace) 0 = .ok (.aload_n 0, 1) := by decide +kernel
theorem e_M_setPace_1 : decode (mB I_M_setPace) 1 = .ok (.iload_n 1, 1) := by decide +kernel
theorem e_M_setPace_2 : decode (mB I_M_setPace) 2 = .ok (.bipush 100, 2) := by decide +kernel
theorem e_M_setPace_4 : decode (mB I_M_setPace) 4 = .ok (.sipush 999, 3) := by decide +kernel
theorem e_M_setPace_7 : decode (mB I_M_setPace) 7 = .ok (.invokestatic 92, 3) := by decide +kernel
theorem e_M_setPace_10 : decode (mB I_M_setPace) 10 = .ok (.ifCond .ne 7, 3) := by decide +kernel
theorem e_M_setPace_13 : decode (mB I_M_setPace) 13 = .ok (.iconst 1, 1) := by decide +kernel
theorem e_M_setPace_14 : decode (mB I_M_setPace) 14 = .ok (.goto 4, 3) := by decide +kernel
theorem e_M_setPace_17 : decode (mB I_M_setPace) 17 = .ok (.iconst 0, 1) := by decide +kernel
theorem e_M_setPace_18 : decode (mB I_M_setPace) 18 = .ok (.iconst 0, 1) := by decide +kernel
theorem e_M_setPace_19 : decode (mB I_M_setPace) 19 = .ok (.iconst 0, 1) := by decide +kernel
theorem e_M_setPace_20 : decode (mB I_M_setPace) 20 = .ok (.invokevirtual 160, 3) := by decide +kernel
theorem e_M_setPace_23 : decode (mB I_M_setPace) 23 = .ok (.ifCond .eq 5, 3) := by decide +kernel
theorem e_M_setPace_26 : decode (mB I_M_setPace) 26 = .ok (.iconst 0, 1) := by decide +kernel
theorem e_M_setPace_27 : decode (mB I_M_setPace) 27 = .ok (.ireturn, 1) := by decide +kernel
theorem e_M_setPace_28 : decode (mB I_M_setPace) 28 = .ok (.aload_n 0, 1) := by decide +kernel
theorem e_M_setPace_29 : decode (mB I_M_setPace) 29 = .ok (.aload_n 0, 1) := by decide +kernel
theorem e_M_setPace_30 : decode (mB I_M_setPace) 30 = .ok (.getfield 9, 3) := by decide +kernel
theorem e_M_setPace_33 : decode (mB I_M_setPace) 33 = .ok (.invokevirtual 280, 3) := by decide +kernel
theorem e_M_setPace_36 : decode (mB I_M_setPace) 36 = .ok (.aload_n 0, 1) := by decide +kernel
theorem e_M_setPace_37 : decode (mB I_M_setPace) 37 = .ok (.iconst 2, 1) := by decide +kernel
theorem e_M_setPace_38 : decode (mB I_M_setPace) 38 = .ok (.iload_n 1, 1) := by decide +kernel
theorem e_M_setPace_39 : decode (mB I_M_setPace) 39 = .ok (.invokevirtual 263, 3) := by decide +kernel
theorem e_M_setPace_42 : decode (mB I_M_setPace) 42 = .ok (.ireturn, 1) := by decide +kernel
theorem e_M_setAdjusted_0 : decode (mB I_M_setAdjusted) 0 = .ok (.aload_n 0, 1) := by decide +kernel
theorem e_M_setAdjusted_1 : decode (mB I_M_setAdjusted) 1 = .ok (.iconst 0, 1) := by decide +kernel
theorem e_M_setAdjusted_2 : decode (mB I_M_setAdjusted) 2 = .ok (.putfield 79, 3) := by decide +kernel
theorem e_M_setAdjusted_5 : decode (mB I_M_setAdjusted) 5 = .ok (.aload_n 0, 1) := by decide +kernel
theorem e_M_setAdjusted_6 : decode (mB I_M_setAdjusted) 6 = .ok (.aload_n 0, 1) := by decide +kernel
theorem e_M_setAdjusted_7 : decode (mB I_M_setAdjusted) 7 = .ok (.getfield 9, 3) := by decide +kernel
theorem e_M_setAdjusted_10 : decode (mB I_M_setAdjusted) 10 = .ok (.invokevirtual 280, 3) := by decide +kernel
theorem e_M_setAdjusted_13 : decode (mB I_M_setAdjusted) 13 = .ok (.aload_n 0, 1) := by decide +kernel
theorem e_M_setAdjusted_14 : decode (mB I_M_setAdjusted) 14 = .ok (.iconst 3, 1) := by decide +kernel
theorem e_M_setAdjusted_15 : decode (mB I_M_setAdjusted) 15 = .ok (.iload_n 1, 1) := by decide +kernel
theorem e_M_setAdjusted_16 : decode (mB I_M_setAdjusted) 16 = .ok (.ifCond .eq 7, 3) := by decide +kernel
theorem e_M_setAdjusted_19 : decode (mB I_M_setAdjusted) 19 = .ok (.iconst 1, 1) := by decide +kernel
theorem e_M_setAdjusted_20 : decode (mB I_M_setAdjusted) 20 = .ok (.goto 4, 3) := by decide +kernel
theorem e_M_setAdjusted_23 : decode (mB I_M_setAdjusted) 23 = .ok (.iconst 0, 1) := by decide +kernel
theorem e_M_setAdjusted_24 : decode (mB I_M_setAdjusted) 24 = .ok (.invokevirtual 263, 3) := by decide +kernel
theorem e_M_setAdjusted_27 : decode (mB I_M_setAdjusted) 27 = .ok (.iconst 1, 1) := by decide +kernel
theorem e_M_setAdjusted_28 : decode (mB I_M_setAdjusted) 28 = .ok (.if_icmp .ne 7, 3) := by decide +kernel
theorem e_M_setAdjusted_31 : decode (mB I_M_setAdjusted) 31 = .ok (.iconst 1, 1) := by decide +kernel
theorem e_M_setAdjusted_32 : decode (mB I_M_setAdjusted) 32 = .ok (.goto 4, 3) := by decide +kernel
theorem e_M_setAdjusted_35 : decode (mB I_M_setAdjusted) 35 = .ok (.iconst 0, 1) := by decide +kernel
theorem e_M_setAdjusted_36 : decode (mB I_M_setAdjusted) 36 = .ok (.ireturn, 1) := by decide +kernel
theorem e_M_undo_0 : decode (mB I_M_undo) 0 = .ok (.aload_n 0, 1) := by decide +kernel
theorem e_M_undo_1 : decode (mB I_M_undo) 1 = .ok (.aload_n 0, 1) := by decide +kernel
theorem e_M_undo_2 : decode (mB I_M_undo) 2 = .ok (.getfield 76, 3) := by decide +kernel
theorem e_M_undo_5 : decode (mB I_M_undo) 5 = .ok (.ifCond .ne 7, 3) := by decide +kernel
theorem e_M_undo_8 : decode (mB I_M_undo) 8 = .ok (.iconst 1, 1) := by decide +kernel
theorem e_M_undo_9 : decode (mB I_M_undo) 9 = .ok (.goto 4, 3) := by decide +kernel
theorem e_M_undo_12 : decode (mB I_M_undo) 12 = .ok (.iconst 0, 1) := by decide +kernel
theorem e_M_undo_13 : decode (mB I_M_undo) 13 = .ok (.iconst 0, 1) := by decide +kernel
theorem e_M_undo_14 : decode (mB I_M_undo) 14 = .ok (.iconst 0, 1) := by decide +kernel
theorem e_M_undo_15 : decode (mB I_M_undo) 15 = .ok (.invokevirtual 160, 3) := by decide +kernel
theorem e_M_undo_18 : decode (mB I_M_undo) 18 = .ok (.ifCond .eq 5, 3) := by decide +kernel
theorem e_M_undo_21 : decode (mB I_M_undo) 21 = .ok (.iconst 0, 1) := by decide +kernel
theorem e_M_undo_22 : decode (mB I_M_undo) 22 = .ok (.ireturn, 1) := by decide +kernel
theorem e_M_undo_23 : decode (mB I_M_undo) 23 = .ok (.aload_n 0, 1) := by decide +kernel
theorem e_M_undo_24 : decode (mB I_M_undo) 24 = .ok (.dup, 1) := by decide +kernel
theorem e_M_undo_25 : decode (mB I_M_undo) 25 = .ok (.getfield 76, 3) := by decide +kernel
theorem e_M_undo_28 : decode (mB I_M_undo) 28 = .ok (.iconst 1, 1) := by decide +kernel
theorem e_M_undo_29 : decode (mB I_M_undo) 29 = .ok (.isub, 1) := by decide +kernel
theorem e_M_undo_30 : decode (mB I_M_undo) 30 = .ok (.putfield 76, 3) := by decide +kernel
theorem e_M_undo_33 : decode (mB I_M_undo) 33 = .ok (.aload_n 0, 1) := by decide +kernel
theorem e_M_undo_34 : decode (mB I_M_undo) 34 = .ok (.getfield 16, 3) := by decide +kernel
theorem e_M_undo_37 : decode (mB I_M_undo) 37 = .ok (.aload_n 0, 1) := by decide +kernel
theorem e_M_undo_38 : decode (mB I_M_undo) 38 = .ok (.getfield 76, 3) := by decide +kernel
theorem e_M_undo_41 : decode (mB I_M_undo) 41 = .ok (.sipush 284, 3) := by decide +kernel
theorem e_M_undo_44 : decode (mB I_M_undo) 44 = .ok (.imul, 1) := by decide +kernel
theorem e_M_undo_45 : decode (mB I_M_undo) 45 = .ok (.aload_n 0, 1) := by decide +kernel
theorem e_M_undo_46 : decode (mB I_M_undo) 46 = .ok (.getfield 9, 3) := by decide +kernel
theorem e_M_undo_49 : decode (mB I_M_undo) 49 = .ok (.iconst 0, 1) := by decide +kernel
theorem e_M_undo_50 : decode (mB I_M_undo) 50 = .ok (.invokestatic 88, 3) := by decide +kernel
theorem e_M_undo_53 : decode (mB I_M_undo) 53 = .ok (.aload_n 0, 1) := by decide +kernel
theorem e_M_undo_54 : decode (mB I_M_undo) 54 = .ok (.getfield 76, 3) := by decide +kernel
theorem e_M_undo_57 : decode (mB I_M_undo) 57 = .ok (.ireturn, 1) := by decide +kernel
theorem e_M_save_0 : decode (mB I_M_save) 0 = .ok (.aload_n 0, 1) := by decide +kernel
theorem e_M_save_1 : decode (mB I_M_save) 1 = .ok (.iload_n 1, 1) := by decide +kernel
theorem e_M_save_2 : decode (mB I_M_save) 2 = .ok (.iconst 0, 1) := by decide +kernel
theorem e_M_save_3 : decode (mB I_M_save) 3 = .ok (.iconst 1, 1) := by decide +kernel
theorem e_M_save_4 : decode (mB I_M_save) 4 = .ok (.invokestatic 92, 3) := by decide +kernel
theorem e_M_save_7 : decode (mB I_M_save) 7 = .ok (.ifCond .ne 7, 3) := by decide +kernel
theorem e_M_save_10 : decode (mB I_M_save) 10 = .ok (.iconst 1, 1) := by decide +kernel
theorem e_M_save_11 : decode (mB I_M_save) 11 = .ok (.goto 4, 3) := by decide +kernel
theorem e_M_save_14 : decode (mB I_M_save) 14 = .ok (.iconst 0, 1) := by decide +kernel
theorem e_M_save_15 : decode (mB I_M_save) 15 = .ok (.iconst 0, 1) := by decide +kernel
theorem e_M_save_16 : decode (mB I_M_save) 16 = .ok (.iconst 0, 1) := by decide +kernel
theorem e_M_save_17 : decode (mB I_M_save) 17 = .ok (.invokevirtual 160, 3) := by decide +kernel
theorem e_M_save_20 : decode (mB I_M_save) 20 = .ok (.ifCond .eq 5, 3) := by decide +kernel
theorem e_M_save_23 : decode (mB I_M_save) 23 = .ok (.iconst 0, 1) := by decide +kernel
theorem e_M_save_24 : decode (mB I_M_save) 24 = .ok (.ireturn, 1) := by decide +kernel
theorem e_M_save_25 : decode (mB I_M_save) 25 = .ok (.aload_n 0, 1) := by decide +kernel
theorem e_M_save_26 : decode (mB I_M_save) 26 = .ok (.getfield 9, 3) := by decide +kernel
theorem e_M_save_29 : decode (mB I_M_save) 29 = .ok (.iconst 0, 1) := by decide +kernel
theorem e_M_save_30 : decode (mB I_M_save) 30 = .ok (.aload_n 0, 1) := by decide +kernel
theorem e_M_save_31 : decode (mB I_M_save) 31 = .ok (.getfield 19, 3) := by decide +kernel
theorem e_M_save_34 : decode (mB I_M_save) 34 = .ok (.iload_n 1, 1) := by decide +kernel
theorem e_M_save_35 : decode (mB I_M_save) 35 = .ok (.sipush 284, 3) := by decide +kernel
theorem e_M_save_38 : decode (mB I_M_save) 38 = .ok (.imul, 1) := by decide +kernel
theorem e_M_save_39 : decode (mB I_M_save) 39 = .ok (.invokestatic 88, 3) := by decide +kernel
theorem e_M_save_42 : decode (mB I_M_save) 42 = .ok (.aload_n 0, 1) := by decide +kernel
theorem e_M_save_43 : decode (mB I_M_save) 43 = .ok (.getfield 25, 3) := by decide +kernel
theorem e_M_save_46 : decode (mB I_M_save) 46 = .ok (.iload_n 1, 1) := by decide +kernel
theorem e_M_save_47 : decode (mB I_M_save) 47 = .ok (.iconst 1, 1) := by decide +kernel
theorem e_M_save_48 : decode (mB I_M_save) 48 = .ok (.bastore, 1) := by decide +kernel
theorem e_M_save_49 : decode (mB I_M_save) 49 = .ok (.aload_n 0, 1) := by decide +kernel
theorem e_M_save_50 : decode (mB I_M_save) 50 = .ok (.getfield 9, 3) := by decide +kernel
theorem e_M_save_53 : decode (mB I_M_save) 53 = .ok (.iconst 0, 1) := by decide +kernel
theorem e_M_save_54 : decode (mB I_M_save) 54 = .ok (.iaload, 1) := by decide +kernel
theorem e_M_save_55 : decode (mB I_M_save) 55 = .ok (.ireturn, 1) := by decide +kernel
theorem e_M_restore_0 : decode (mB I_M_restore) 0 = .ok (.iload_n 1, 1) := by decide +kernel
theorem e_M_restore_1 : decode (mB I_M_restore) 1 = .ok (.iconst 0, 1) := by decide +kernel
theorem e_M_restore_2 : decode (mB I_M_restore) 2 = .ok (.iconst 1, 1) := by decide +kernel
theorem e_M_restore_3 : decode (mB I_M_restore) 3 = .ok (.invokestatic 92, 3) := by decide +kernel
theorem e_M_restore_6 : decode (mB I_M_restore) 6 = .ok (.ifCond .ne 7, 3) := by decide +kernel
theorem e_M_restore_9 : decode (mB I_M_restore) 9 = .ok (.iconst 1, 1) := by decide +kernel
theorem e_M_restore_10 : decode (mB I_M_restore) 10 = .ok (.goto 4, 3) := by decide +kernel
theorem e_M_restore_13 : decode (mB I_M_restore) 13 = .ok (.iconst 0, 1) := by decide +kernel
theorem e_M_restore_14 : decode (mB I_M_restore) 14 = .ok (.istore_n 2, 1) := by decide +kernel
theorem e_M_restore_15 : decode (mB I_M_restore) 15 = .ok (.aload_n 0, 1) := by decide +kernel
theorem e_M_restore_16 : decode (mB I_M_restore) 16 = .ok (.iload_n 2, 1) := by decide +kernel
theorem e_M_restore_17 : decode (mB I_M_restore) 17 = .ok (.iload_n 2, 1) := by decide +kernel
theorem e_M_restore_18 : decode (mB I_M_restore) 18 = .ok (.ifCond .ne 16, 3) := by decide +kernel
theorem e_M_restore_21 : decode (mB I_M_restore) 21 = .ok (.aload_n 0, 1) := by decide +kernel
theorem e_M_restore_22 : decode (mB I_M_restore) 22 = .ok (.getfield 25, 3) := by decide +kernel
theorem e_M_restore_25 : decode (mB I_M_restore) 25 = .ok (.iload_n 1, 1) := by decide +kernel
theorem e_M_restore_26 : decode (mB I_M_restore) 26 = .ok (.baload, 1) := by decide +kernel
theorem e_M_restore_27 : decode (mB I_M_restore) 27 = .ok (.ifCond .ne 7, 3) := by decide +kernel
theorem e_M_restore_30 : decode (mB I_M_restore) 30 = .ok (.iconst 1, 1) := by decide +kernel
theorem e_M_restore_31 : decode (mB I_M_restore) 31 = .ok (.goto 4, 3) := by decide +kernel
theorem e_M_restore_34 : decode (mB I_M_restore) 34 = .ok (.iconst 0, 1) := by decide +kernel
theorem e_M_restore_35 : decode (mB I_M_restore) 35 = .ok (.iconst 0, 1) := by decide +kernel
theorem e_M_restore_36 : decode (mB I_M_restore) 36 = .ok (.invokevirtual 160, 3) := by decide +kernel
theorem e_M_restore_39 : decode (mB I_M_restore) 39 = .ok (.ifCond .eq 5, 3) := by decide +kernel
theorem e_M_restore_42 : decode (mB I_M_restore) 42 = .ok (.iconst 0, 1) := by decide +kernel
theorem e_M_restore_43 : decode (mB I_M_restore) 43 = .ok (.ireturn, 1) := by decide +kernel
theorem e_M_restore_44 : decode (mB I_M_restore) 44 = .ok (.aload_n 0, 1) := by decide +kernel
theorem e_M_restore_45 : decode (mB I_M_restore) 45 = .ok (.aload_n 0, 1) := by decide +kernel
theorem e_M_restore_46 : decode (mB I_M_restore) 46 = .ok (.getfield 9, 3) := by decide +kernel
theorem e_M_restore_49 : decode (mB I_M_restore) 49 = .ok (.invokevirtual 280, 3) := by decide +kernel
theorem e_M_restore_52 : decode (mB I_M_restore) 52 = .ok (.aload_n 0, 1) := by decide +kernel
theorem e_M_restore_53 : decode (mB I_M_restore) 53 = .ok (.getfield 19, 3) := by decide +kernel
theorem e_M_restore_56 : decode (mB I_M_restore) 56 = .ok (.iload_n 1, 1) := by decide +kernel
theorem e_M_restore_57 : decode (mB I_M_restore) 57 = .ok (.sipush 284, 3) := by decide +kernel
theorem e_M_restore_60 : decode (mB I_M_restore) 60 = .ok (.imul, 1) := by decide +kernel
theorem e_M_restore_61 : decode (mB I_M_restore) 61 = .ok (.aload_n 0, 1) := by decide +kernel
theorem e_M_restore_62 : decode (mB I_M_restore) 62 = .ok (.getfield 9, 3) := by decide +kernel
theorem e_M_restore_65 : decode (mB I_M_restore) 65 = .ok (.iconst 0, 1) := by decide +kernel
theorem e_M_restore_66 : decode (mB I_M_restore) 66 = .ok (.invokestatic 88, 3) := by decide +kernel
theorem e_M_restore_69 : decode (mB I_M_restore) 69 = .ok (.aload_n 0, 1) := by decide +kernel
theorem e_M_restore_70 : decode (mB I_M_restore) 70 = .ok (.getfield 9, 3) := by decide +kernel
theorem e_M_restore_73 : decode (mB I_M_restore) 73 = .ok (.iconst 0, 1) := by decide +kernel
theorem e_M_restore_74 : decode (mB I_M_restore) 74 = .ok (.iaload, 1) := by decide +kernel
theorem e_M_restore_75 : decode (mB I_M_restore) 75 = .ok (.ireturn, 1) := by decide +kernel
theorem e_M_legCount_0 : decode (mB I_M_legCount) 0 = .ok (.aload_n 0, 1) := by decide +kernel
theorem e_M_legCount_1 : decode (mB I_M_legCount) 1 = .ok (.aload_n 0, 1) := by decide +kernel
theorem e_M_legCount_2 : decode (mB I_M_legCount) 2 = .ok (.getfield 9, 3) := by decide +kernel
theorem e_M_legCount_5 : decode (mB I_M_legCount) 5 = .ok (.iconst 0, 1) := by decide +kernel
theorem e_M_legCount_6 : decode (mB I_M_legCount) 6 = .ok (.iaload, 1) := by decide +kernel
theorem e_M_legCount_7 : decode (mB I_M_legCount) 7 = .ok (.invokevirtual 292, 3) := by decide +kernel
theorem e_M_legCount_10 : decode (mB I_M_legCount) 10 = .ok (.ireturn, 1) := by decide +kernel
theorem e_M_stationCount_0 : decode (mB I_M_stationCount) 0 = .ok (.aload_n 0, 1) := by decide +kernel
theorem e_M_stationCount_1 : decode (mB I_M_stationCount) 1 = .ok (.aload_n 0, 1) := by decide +kernel
theorem e_M_stationCount_2 : decode (mB I_M_stationCount) 2 = .ok (.getfield 9, 3) := by decide +kernel
theorem e_M_stationCount_5 : decode (mB I_M_stationCount) 5 = .ok (.iconst 0, 1) := by decide +kernel
theorem e_M_stationCount_6 : decode (mB I_M_stationCount) 6 = .ok (.iaload, 1) := by decide +kernel
theorem e_M_stationCount_7 : decode (mB I_M_stationCount) 7 = .ok (.iconst 1, 1) := by decide +kernel
theorem e_M_stationCount_8 : decode (mB I_M_stationCount) 8 = .ok (.iadd, 1) := by decide +kernel
theorem e_M_stationCount_9 : decode (mB I_M_stationCount) 9 = .ok (.invokevirtual 292, 3) := by decide +kernel
theorem e_M_stationCount_12 : decode (mB I_M_stationCount) 12 = .ok (.ireturn, 1) := by decide +kernel
theorem e_M_wear_0 : decode (mB I_M_wear) 0 = .ok (.aload_n 0, 1) := by decide +kernel
theorem e_M_wear_1 : decode (mB I_M_wear) 1 = .ok (.aload_n 0, 1) := by decide +kernel
theorem e_M_wear_2 : decode (mB I_M_wear) 2 = .ok (.getfield 9, 3) := by decide +kernel
theorem e_M_wear_5 : decode (mB I_M_wear) 5 = .ok (.iconst 1, 1) := by decide +kernel
theorem e_M_wear_6 : decode (mB I_M_wear) 6 = .ok (.iaload, 1) := by decide +kernel
theorem e_M_wear_7 : decode (mB I_M_wear) 7 = .ok (.invokevirtual 292, 3) := by decide +kernel
theorem e_M_wear_10 : decode (mB I_M_wear) 10 = .ok (.ireturn, 1) := by decide +kernel
theorem e_M_pace_0 : decode (mB I_M_pace) 0 = .ok (.aload_n 0, 1) := by decide +kernel
theorem e_M_pace_1 : decode (mB I_M_pace) 1 = .ok (.aload_n 0, 1) := by decide +kernel
theorem e_M_pace_2 : decode (mB I_M_pace) 2 = .ok (.getfield 9, 3) := by decide +kernel
theorem e_M_pace_5 : decode (mB I_M_pace) 5 = .ok (.iconst 2, 1) := by decide +kernel
theorem e_M_pace_6 : decode (mB I_M_pace) 6 = .ok (.iaload, 1) := by decide +kernel
theorem e_M_pace_7 : decode (mB I_M_pace) 7 = .ok (.invokevirtual 292, 3) := by decide +kernel
theorem e_M_pace_10 : decode (mB I_M_pace) 10 = .ok (.ireturn, 1) := by decide +kernel
theorem e_M_undoableChanges_0 : decode (mB I_M_undoableChanges) 0 = .ok (.aload_n 0, 1) := by decide +kernel
theorem e_M_undoableChanges_1 : decode (mB I_M_undoableChanges) 1 = .ok (.aload_n 0, 1) := by decide +kernel
theorem e_M_undoableChanges_2 : decode (mB I_M_undoableChanges) 2 = .ok (.getfield 76, 3) := by decide +kernel
theorem e_M_undoableChanges_5 : decode (mB I_M_undoableChanges) 5 = .ok (.invokevirtual 292, 3) := by decide +kernel
theorem e_M_undoableChanges_8 : decode (mB I_M_undoableChanges) 8 = .ok (.ireturn, 1) := by decide +kernel
theorem e_M_isAdjusted_0 : decode (mB I_M_isAdjusted) 0 = .ok (.aload_n 0, 1) := by decide +kernel
theorem e_M_isAdjusted_1 : decode (mB I_M_isAdjusted) 1 = .ok (.aload_n 0, 1) := by decide +kernel
theorem e_M_isAdjusted_2 : decode (mB I_M_isAdjusted) 2 = .ok (.getfield 9, 3) := by decide +kernel
theorem e_M_isAdjusted_5 : decode (mB I_M_isAdjusted) 5 = .ok (.iconst 3, 1) := by decide +kernel
theorem e_M_isAdjusted_6 : decode (mB I_M_isAdjusted) 6 = .ok (.iaload, 1) := by decide +kernel
theorem e_M_isAdjusted_7 : decode (mB I_M_isAdjusted) 7 = .ok (.invokevirtual 292, 3) := by decide +kernel
theorem e_M_isAdjusted_10 : decode (mB I_M_isAdjusted) 10 = .ok (.iconst 1, 1) := by decide +kernel
theorem e_M_isAdjusted_11 : decode (mB I_M_isAdjusted) 11 = .ok (.if_icmp .ne 7, 3) := by decide +kernel
theorem e_M_isAdjusted_14 : decode (mB I_M_isAdjusted) 14 = .ok (.iconst 1, 1) := by decide +kernel
theorem e_M_isAdjusted_15 : decode (mB I_M_isAdjusted) 15 = .ok (.goto 4, 3) := by decide +kernel
theorem e_M_isAdjusted_18 : decode (mB I_M_isAdjusted) 18 = .ok (.iconst 0, 1) := by decide +kernel
theorem e_M_isAdjusted_19 : decode (mB I_M_isAdjusted) 19 = .ok (.ireturn, 1) := by decide +kernel
theorem e_M_isBad_0 : decode (mB I_M_isBad) 0 = .ok (.aload_n 0, 1) := by decide +kernel
theorem e_M_isBad_1 : decode (mB I_M_isBad) 1 = .ok (.aload_n 0, 1) := by decide +kernel
theorem e_M_isBad_2 : decode (mB I_M_isBad) 2 = .ok (.iload_n 1, 1) := by decide +kernel
theorem e_M_isBad_3 : decode (mB I_M_isBad) 3 = .ok (.invokevirtual 306, 3) := by decide +kernel
theorem e_M_isBad_6 : decode (mB I_M_isBad) 6 = .ok (.iconst 0, 1) := by decide +kernel
theorem e_M_isBad_7 : decode (mB I_M_isBad) 7 = .ok (.iconst 0, 1) := by decide +kernel
theorem e_M_isBad_8 : decode (mB I_M_isBad) 8 = .ok (.invokevirtual 160, 3) := by decide +kernel
theorem e_M_isBad_11 : decode (mB I_M_isBad) 11 = .ok (.ireturn, 1) := by decide +kernel
theorem e_M_bearing_0 : decode (mB I_M_bearing) 0 = .ok (.aload_n 0, 1) := by decide +kernel
theorem e_M_bearing_1 : decode (mB I_M_bearing) 1 = .ok (.iload_n 1, 1) := by decide +kernel
theorem e_M_bearing_2 : decode (mB I_M_bearing) 2 = .ok (.invokevirtual 309, 3) := by decide +kernel
theorem e_M_bearing_5 : decode (mB I_M_bearing) 5 = .ok (.ifCond .eq 7, 3) := by decide +kernel
theorem e_M_bearing_8 : decode (mB I_M_bearing) 8 = .ok (.iconst 0, 1) := by decide +kernel
theorem e_M_bearing_9 : decode (mB I_M_bearing) 9 = .ok (.goto 9, 3) := by decide +kernel
theorem e_M_bearing_12 : decode (mB I_M_bearing) 12 = .ok (.aload_n 0, 1) := by decide +kernel
theorem e_M_bearing_13 : decode (mB I_M_bearing) 13 = .ok (.iload_n 1, 1) := by decide +kernel
theorem e_M_bearing_14 : decode (mB I_M_bearing) 14 = .ok (.iconst 0, 1) := by decide +kernel
theorem e_M_bearing_15 : decode (mB I_M_bearing) 15 = .ok (.invokevirtual 96, 3) := by decide +kernel
theorem e_M_bearing_18 : decode (mB I_M_bearing) 18 = .ok (.ireturn, 1) := by decide +kernel
theorem e_M_pins_0 : decode (mB I_M_pins) 0 = .ok (.aload_n 0, 1) := by decide +kernel
theorem e_M_pins_1 : decode (mB I_M_pins) 1 = .ok (.iload_n 1, 1) := by decide +kernel
theorem e_M_pins_2 : decode (mB I_M_pins) 2 = .ok (.invokevirtual 309, 3) := by decide +kernel
theorem e_M_pins_5 : decode (mB I_M_pins) 5 = .ok (.ifCond .eq 7, 3) := by decide +kernel
theorem e_M_pins_8 : decode (mB I_M_pins) 8 = .ok (.iconst 0, 1) := by decide +kernel
theorem e_M_pins_9 : decode (mB I_M_pins) 9 = .ok (.goto 9, 3) := by decide +kernel
theorem e_M_pins_12 : decode (mB I_M_pins) 12 = .ok (.aload_n 0, 1) := by decide +kernel
theorem e_M_pins_13 : decode (mB I_M_pins) 13 = .ok (.iload_n 1, 1) := by decide +kernel
theorem e_M_pins_14 : decode (mB I_M_pins) 14 = .ok (.iconst 1, 1) := by decide +kernel
theorem e_M_pins_15 : decode (mB I_M_pins) 15 = .ok (.invokevirtual 96, 3) := by decide +kernel
theorem e_M_pins_18 : decode (mB I_M_pins) 18 = .ok (.ireturn, 1) := by decide +kernel
theorem e_M_droppedPins_0 : decode (mB I_M_droppedPins) 0 = .ok (.aload_n 0, 1) := by decide +kernel
theorem e_M_droppedPins_1 : decode (mB I_M_droppedPins) 1 = .ok (.iload_n 1, 1) := by decide +kernel
theorem e_M_droppedPins_2 : decode (mB I_M_droppedPins) 2 = .ok (.invokevirtual 309, 3) := by decide +kernel
theorem e_M_droppedPins_5 : decode (mB I_M_droppedPins) 5 = .ok (.ifCond .eq 7, 3) := by decide +kernel
theorem e_M_droppedPins_8 : decode (mB I_M_droppedPins) 8 = .ok (.iconst 0, 1) := by decide +kernel
theorem e_M_droppedPins_9 : decode (mB I_M_droppedPins) 9 = .ok (.goto 9, 3) := by decide +kernel
theorem e_M_droppedPins_12 : decode (mB I_M_droppedPins) 12 = .ok (.aload_n 0, 1) := by decide +kernel
theorem e_M_droppedPins_13 : decode (mB I_M_droppedPins) 13 = .ok (.iload_n 1, 1) := by decide +kernel
theorem e_M_droppedPins_14 : decode (mB I_M_droppedPins) 14 = .ok (.iconst 3, 1) := by decide +kernel
theorem e_M_droppedPins_15 : decode (mB I_M_droppedPins) 15 = .ok (.invokevirtual 96, 3) := by decide +kernel
theorem e_M_droppedPins_18 : decode (mB I_M_droppedPins) 18 = .ok (.ireturn, 1) := by decide +kernel
theorem e_M_readLength_0 : decode (mB I_M_readLength) 0 = .ok (.aload_n 0, 1) := by decide +kernel
theorem e_M_readLength_1 : decode (mB I_M_readLength) 1 = .ok (.iload_n 1, 1) := by decide +kernel
theorem e_M_readLength_2 : decode (mB I_M_readLength) 2 = .ok (.invokevirtual 309, 3) := by decide +kernel
theorem e_M_readLength_5 : decode (mB I_M_readLength) 5 = .ok (.ifCond .eq 7, 3) := by decide +kernel
theorem e_M_readLength_8 : decode (mB I_M_readLength) 8 = .ok (.iconst 0, 1) := by decide +kernel
theorem e_M_readLength_9 : decode (mB I_M_readLength) 9 = .ok (.goto 8, 3) := by decide +kernel
theorem e_M_readLength_12 : decode (mB I_M_readLength) 12 = .ok (.aload_n 0, 1) := by decide +kernel
theorem e_M_readLength_13 : decode (mB I_M_readLength) 13 = .ok (.iload_n 1, 1) := by decide +kernel
theorem e_M_readLength_14 : decode (mB I_M_readLength) 14 = .ok (.invokevirtual 106, 3) := by decide +kernel
theorem e_M_readLength_17 : decode (mB I_M_readLength) 17 = .ok (.ireturn, 1) := by decide +kernel
theorem e_M_slopeLength_0 : decode (mB I_M_slopeLength) 0 = .ok (.aload_n 0, 1) := by decide +kernel
theorem e_M_slopeLength_1 : decode (mB I_M_slopeLength) 1 = .ok (.iload_n 1, 1) := by decide +kernel
theorem e_M_slopeLength_2 : decode (mB I_M_slopeLength) 2 = .ok (.invokevirtual 309, 3) := by decide +kernel
theorem e_M_slopeLength_5 : decode (mB I_M_slopeLength) 5 = .ok (.ifCond .eq 7, 3) := by decide +kernel
theorem e_M_slopeLength_8 : decode (mB I_M_slopeLength) 8 = .ok (.iconst 0, 1) := by decide +kernel
theorem e_M_slopeLength_9 : decode (mB I_M_slopeLength) 9 = .ok (.goto 8, 3) := by decide +kernel
theorem e_M_slopeLength_12 : decode (mB I_M_slopeLength) 12 = .ok (.aload_n 0, 1) := by decide +kernel
theorem e_M_slopeLength_13 : decode (mB I_M_slopeLength) 13 = .ok (.iload_n 1, 1) := by decide +kernel
theorem e_M_slopeLength_14 : decode (mB I_M_slopeLength) 14 = .ok (.invokevirtual 116, 3) := by decide +kernel
theorem e_M_slopeLength_17 : decode (mB I_M_slopeLength) 17 = .ok (.ireturn, 1) := by decide +kernel
theorem e_M_horizontalLength_0 : decode (mB I_M_horizontalLength) 0 = .ok (.aload_n 0, 1) := by decide +kernel
theorem e_M_horizontalLength_1 : decode (mB I_M_horizontalLength) 1 = .ok (.iload_n 1, 1) := by decide +kernel
theorem e_M_horizontalLength_2 : decode (mB I_M_horizontalLength) 2 = .ok (.invokevirtual 309, 3) := by decide +kernel
theorem e_M_horizontalLength_5 : decode (mB I_M_horizontalLength) 5 = .ok (.ifCond .eq 7, 3) := by decide +kernel
theorem e_M_horizontalLength_8 : decode (mB I_M_horizontalLength) 8 = .ok (.iconst 0, 1) := by decide +kernel
theorem e_M_horizontalLength_9 : decode (mB I_M_horizontalLength) 9 = .ok (.goto 8, 3) := by decide +kernel
theorem e_M_horizontalLength_12 : decode (mB I_M_horizontalLength) 12 = .ok (.aload_n 0, 1) := by decide +kernel
theorem e_M_horizontalLength_13 : decode (mB I_M_horizontalLength) 13 = .ok (.iload_n 1, 1) := by decide +kernel
theorem e_M_horizontalLength_14 : decode (mB I_M_horizontalLength) 14 = .ok (.invokevirtual 125, 3) := by decide +kernel
theorem e_M_horizontalLength_17 : decode (mB I_M_horizontalLength) 17 = .ok (.ireturn, 1) := by decide +kernel
theorem e_M_eastStep_0 : decode (mB I_M_eastStep) 0 = .ok (.aload_n 0, 1) := by decide +kernel
theorem e_M_eastStep_1 : decode (mB I_M_eastStep) 1 = .ok (.iload_n 1, 1) := by decide +kernel
theorem e_M_eastStep_2 : decode (mB I_M_eastStep) 2 = .ok (.invokevirtual 309, 3) := by decide +kernel
theorem e_M_eastStep_5 : decode (mB I_M_eastStep) 5 = .ok (.ifCond .eq 7, 3) := by decide +kernel
theorem e_M_eastStep_8 : decode (mB I_M_eastStep) 8 = .ok (.iconst 0, 1) := by decide +kernel
theorem e_M_eastStep_9 : decode (mB I_M_eastStep) 9 = .ok (.goto 9, 3) := by decide +kernel
theorem e_M_eastStep_12 : decode (mB I_M_eastStep) 12 = .ok (.aload_n 0, 1) := by decide +kernel
theorem e_M_eastStep_13 : decode (mB I_M_eastStep) 13 = .ok (.iload_n 1, 1) := by decide +kernel
theorem e_M_eastStep_14 : decode (mB I_M_eastStep) 14 = .ok (.iconst 1, 1) := by decide +kernel
theorem e_M_eastStep_15 : decode (mB I_M_eastStep) 15 = .ok (.invokevirtual 131, 3) := by decide +kernel
theorem e_M_eastStep_18 : decode (mB I_M_eastStep) 18 = .ok (.ireturn, 1) := by decide +kernel
theorem e_M_northStep_0 : decode (mB I_M_northStep) 0 = .ok (.aload_n 0, 1) := by decide +kernel
theorem e_M_northStep_1 : decode (mB I_M_northStep) 1 = .ok (.iload_n 1, 1) := by decide +kernel
theorem e_M_northStep_2 : decode (mB I_M_northStep) 2 = .ok (.invokevirtual 309, 3) := by decide +kernel
theorem e_M_northStep_5 : decode (mB I_M_northStep) 5 = .ok (.ifCond .eq 7, 3) := by decide +kernel
theorem e_M_northStep_8 : decode (mB I_M_northStep) 8 = .ok (.iconst 0, 1) := by decide +kernel
theorem e_M_northStep_9 : decode (mB I_M_northStep) 9 = .ok (.goto 9, 3) := by decide +kernel
theorem e_M_northStep_12 : decode (mB I_M_northStep) 12 = .ok (.aload_n 0, 1) := by decide +kernel
theorem e_M_northStep_13 : decode (mB I_M_northStep) 13 = .ok (.iload_n 1, 1) := by decide +kernel
theorem e_M_northStep_14 : decode (mB I_M_northStep) 14 = .ok (.iconst 0, 1) := by decide +kernel
theorem e_M_northStep_15 : decode (mB I_M_northStep) 15 = .ok (.invokevirtual 131, 3) := by decide +kernel
theorem e_M_northStep_18 : decode (mB I_M_northStep) 18 = .ok (.ireturn, 1) := by decide +kernel
theorem e_M_tallies_0 : decode (mB I_M_tallies) 0 = .ok (.aload_n 0, 1) := by decide +kernel
theorem e_M_tallies_1 : decode (mB I_M_tallies) 1 = .ok (.iload_n 1, 1) := by decide +kernel
theorem e_M_tallies_2 : decode (mB I_M_tallies) 2 = .ok (.invokevirtual 309, 3) := by decide +kernel
theorem e_M_tallies_5 : decode (mB I_M_tallies) 5 = .ok (.ifCond .eq 7, 3) := by decide +kernel
theorem e_M_tallies_8 : decode (mB I_M_tallies) 8 = .ok (.iconst 0, 1) := by decide +kernel
theorem e_M_tallies_9 : decode (mB I_M_tallies) 9 = .ok (.goto 19, 3) := by decide +kernel
theorem e_M_tallies_12 : decode (mB I_M_tallies) 12 = .ok (.aload_n 0, 1) := by decide +kernel
theorem e_M_tallies_13 : decode (mB I_M_tallies) 13 = .ok (.iload_n 1, 1) := by decide +kernel
theorem e_M_tallies_14 : decode (mB I_M_tallies) 14 = .ok (.iconst 1, 1) := by decide +kernel
theorem e_M_tallies_15 : decode (mB I_M_tallies) 15 = .ok (.invokevirtual 96, 3) := by decide +kernel
theorem e_M_tallies_18 : decode (mB I_M_tallies) 18 = .ok (.aload_n 0, 1) := by decide +kernel
theorem e_M_tallies_19 : decode (mB I_M_tallies) 19 = .ok (.iload_n 1, 1) := by decide +kernel
theorem e_M_tallies_20 : decode (mB I_M_tallies) 20 = .ok (.iconst 3, 1) := by decide +kernel
theorem e_M_tallies_21 : decode (mB I_M_tallies) 21 = .ok (.invokevirtual 96, 3) := by decide +kernel
theorem e_M_tallies_24 : decode (mB I_M_tallies) 24 = .ok (.iadd, 1) := by decide +kernel
theorem e_M_tallies_25 : decode (mB I_M_tallies) 25 = .ok (.bipush 10, 2) := by decide +kernel
theorem e_M_tallies_27 : decode (mB I_M_tallies) 27 = .ok (.idiv, 1) := by decide +kernel
theorem e_M_tallies_28 : decode (mB I_M_tallies) 28 = .ok (.ireturn, 1) := by decide +kernel
theorem e_M_isBog_0 : decode (mB I_M_isBog) 0 = .ok (.aload_n 0, 1) := by decide +kernel
theorem e_M_isBog_1 : decode (mB I_M_isBog) 1 = .ok (.iload_n 1, 1) := by decide +kernel
theorem e_M_isBog_2 : decode (mB I_M_isBog) 2 = .ok (.invokevirtual 309, 3) := by decide +kernel
theorem e_M_isBog_5 : decode (mB I_M_isBog) 5 = .ok (.ifCond .ne 15, 3) := by decide +kernel
theorem e_M_isBog_8 : decode (mB I_M_isBog) 8 = .ok (.aload_n 0, 1) := by decide +kernel
theorem e_M_isBog_9 : decode (mB I_M_isBog) 9 = .ok (.iload_n 1, 1) := by decide +kernel
theorem e_M_isBog_10 : decode (mB I_M_isBog) 10 = .ok (.invokevirtual 102, 3) := by decide +kernel
theorem e_M_isBog_13 : decode (mB I_M_isBog) 13 = .ok (.ifCond .eq 7, 3) := by decide +kernel
theorem e_M_isBog_16 : decode (mB I_M_isBog) 16 = .ok (.iconst 1, 1) := by decide +kernel
theorem e_M_isBog_17 : decode (mB I_M_isBog) 17 = .ok (.goto 4, 3) := by decide +kernel
theorem e_M_isBog_20 : decode (mB I_M_isBog) 20 = .ok (.iconst 0, 1) := by decide +kernel
theorem e_M_isBog_21 : decode (mB I_M_isBog) 21 = .ok (.ireturn, 1) := by decide +kernel
theorem e_M_nameByte_0 : decode (mB I_M_nameByte) 0 = .ok (.aload_n 0, 1) := by decide +kernel
theorem e_M_nameByte_1 : decode (mB I_M_nameByte) 1 = .ok (.iload_n 1, 1) := by decide +kernel
theorem e_M_nameByte_2 : decode (mB I_M_nameByte) 2 = .ok (.invokevirtual 309, 3) := by decide +kernel
theorem e_M_nameByte_5 : decode (mB I_M_nameByte) 5 = .ok (.ifCond .eq 5, 3) := by decide +kernel
theorem e_M_nameByte_8 : decode (mB I_M_nameByte) 8 = .ok (.iconst 0, 1) := by decide +kernel
theorem e_M_nameByte_9 : decode (mB I_M_nameByte) 9 = .ok (.ireturn, 1) := by decide +kernel
theorem e_M_nameByte_10 : decode (mB I_M_nameByte) 10 = .ok (.iload_n 2, 1) := by decide +kernel
theorem e_M_nameByte_11 : decode (mB I_M_nameByte) 11 = .ok (.iconst 0, 1) := by decide +kernel
theorem e_M_nameByte_12 : decode (mB I_M_nameByte) 12 = .ok (.aload_n 0, 1) := by decide +kernel
theorem e_M_nameByte_13 : decode (mB I_M_nameByte) 13 = .ok (.iload_n 1, 1) := by decide +kernel
theorem e_M_nameByte_14 : decode (mB I_M_nameByte) 14 = .ok (.bipush 7, 2) := by decide +kernel
theorem e_M_nameByte_16 : decode (mB I_M_nameByte) 16 = .ok (.invokevirtual 96, 3) := by decide +kernel
theorem e_M_nameByte_19 : decode (mB I_M_nameByte) 19 = .ok (.iconst 1, 1) := by decide +kernel
theorem e_M_nameByte_20 : decode (mB I_M_nameByte) 20 = .ok (.isub, 1) := by decide +kernel
theorem e_M_nameByte_21 : decode (mB I_M_nameByte) 21 = .ok (.invokestatic 92, 3) := by decide +kernel
theorem e_M_nameByte_24 : decode (mB I_M_nameByte) 24 = .ok (.ifCond .eq 15, 3) := by decide +kernel
theorem e_M_nameByte_27 : decode (mB I_M_nameByte) 27 = .ok (.aload_n 0, 1) := by decide +kernel
theorem e_M_nameByte_28 : decode (mB I_M_nameByte) 28 = .ok (.iload_n 1, 1) := by decide +kernel
theorem e_M_nameByte_29 : decode (mB I_M_nameByte) 29 = .ok (.bipush 8, 2) := by decide +kernel
theorem e_M_nameByte_31 : decode (mB I_M_nameByte) 31 = .ok (.iload_n 2, 1) := by decide +kernel
theorem e_M_nameByte_32 : decode (mB I_M_nameByte) 32 = .ok (.iadd, 1) := by decide +kernel
theorem e_M_nameByte_33 : decode (mB I_M_nameByte) 33 = .ok (.invokevirtual 96, 3) := by decide +kernel
theorem e_M_nameByte_36 : decode (mB I_M_nameByte) 36 = .ok (.goto 4, 3) := by decide +kernel
theorem e_M_nameByte_39 : decode (mB I_M_nameByte) 39 = .ok (.iconst (-1), 1) := by decide +kernel
theorem e_M_nameByte_40 : decode (mB I_M_nameByte) 40 = .ok (.ireturn, 1) := by decide +kernel
theorem e_M_findLeg_0 : decode (mB I_M_findLeg) 0 = .ok (.aload_n 0, 1) := by decide +kernel
theorem e_M_findLeg_1 : decode (mB I_M_findLeg) 1 = .ok (.iconst 0, 1) := by decide +kernel
theorem e_M_findLeg_2 : decode (mB I_M_findLeg) 2 = .ok (.putfield 79, 3) := by decide +kernel
theorem e_M_findLeg_5 : decode (mB I_M_findLeg) 5 = .ok (.aload_n 0, 1) := by decide +kernel
theorem e_M_findLeg_6 : decode (mB I_M_findLeg) 6 = .ok (.getfield 66, 3) := by decide +kernel
theorem e_M_findLeg_9 : decode (mB I_M_findLeg) 9 = .ok (.iconst 1, 1) := by decide +kernel
theorem e_M_findLeg_10 : decode (mB I_M_findLeg) 10 = .ok (.bipush 6, 2) := by decide +kernel
theorem e_M_findLeg_12 : decode (mB I_M_findLeg) 12 = .ok (.invokestatic 92, 3) := by decide +kernel
theorem e_M_findLeg_15 : decode (mB I_M_findLeg) 15 = .ok (.ifCond .ne 5, 3) := by decide +kernel
theorem e_M_findLeg_18 : decode (mB I_M_findLeg) 18 = .ok (.iconst (-1), 1) := by decide +kernel
theorem e_M_findLeg_19 : decode (mB I_M_findLeg) 19 = .ok (.ireturn, 1) := by decide +kernel
theorem e_M_findLeg_20 : decode (mB I_M_findLeg) 20 = .ok (.aload_n 0, 1) := by decide +kernel
theorem e_M_findLeg_21 : decode (mB I_M_findLeg) 21 = .ok (.aload_n 0, 1) := by decide +kernel
theorem e_M_findLeg_22 : decode (mB I_M_findLeg) 22 = .ok (.getfield 66, 3) := by decide +kernel
theorem e_M_findLeg_25 : decode (mB I_M_findLeg) 25 = .ok (.putfield 153, 3) := by decide +kernel
theorem e_M_findLeg_28 : decode (mB I_M_findLeg) 28 = .ok (.iconst 0, 1) := by decide +kernel
theorem e_M_findLeg_29 : decode (mB I_M_findLeg) 29 = .ok (.istore_n 1, 1) := by decide +kernel
theorem e_M_findLeg_30 : decode (mB I_M_findLeg) 30 = .ok (.iload_n 1, 1) := by decide +kernel
theorem e_M_findLeg_31 : decode (mB I_M_findLeg) 31 = .ok (.aload_n 0, 1) := by decide +kernel
theorem e_M_findLeg_32 : decode (mB I_M_findLeg) 32 = .ok (.getfield 153, 3) := by decide +kernel
theorem e_M_findLeg_35 : decode (mB I_M_findLeg) 35 = .ok (.if_icmp .ge 21, 3) := by decide +kernel
theorem e_M_findLeg_38 : decode (mB I_M_findLeg) 38 = .ok (.aload_n 0, 1) := by decide +kernel
theorem e_M_findLeg_39 : decode (mB I_M_findLeg) 39 = .ok (.getfield 51, 3) := by decide +kernel
theorem e_M_findLeg_42 : decode (mB I_M_findLeg) 42 = .ok (.iload_n 1, 1) := by decide +kernel
theorem e_M_findLeg_43 : decode (mB I_M_findLeg) 43 = .ok (.aload_n 0, 1) := by decide +kernel
theorem e_M_findLeg_44 : decode (mB I_M_findLeg) 44 = .ok (.getfield 29, 3) := by decide +kernel
theorem e_M_findLeg_47 : decode (mB I_M_findLeg) 47 = .ok (.iload_n 1, 1) := by decide +kernel
theorem e_M_findLeg_48 : decode (mB I_M_findLeg) 48 = .ok (.iaload, 1) := by decide +kernel
theorem e_M_findLeg_49 : decode (mB I_M_findLeg) 49 = .ok (.iastore, 1) := by decide +kernel
theorem e_M_findLeg_50 : decode (mB I_M_findLeg) 50 = .ok (.iinc 1 1, 3) := by decide +kernel
theorem e_M_findLeg_53 : decode (mB I_M_findLeg) 53 = .ok (.goto (-23), 3) := by decide +kernel
theorem e_M_findLeg_56 : decode (mB I_M_findLeg) 56 = .ok (.aload_n 0, 1) := by decide +kernel
theorem e_M_findLeg_57 : decode (mB I_M_findLeg) 57 = .ok (.invokevirtual 211, 3) := by decide +kernel
theorem e_M_findLeg_60 : decode (mB I_M_findLeg) 60 = .ok (.ireturn, 1) := by decide +kernel
theorem e_M_noStation_0 : decode (mB I_M_noStation) 0 = .ok (.aload_n 0, 1) := by decide +kernel
theorem e_M_noStation_1 : decode (mB I_M_noStation) 1 = .ok (.iload_n 1, 1) := by decide +kernel
theorem e_M_noStation_2 : decode (mB I_M_noStation) 2 = .ok (.iconst 0, 1) := by decide +kernel
theorem e_M_noStation_3 : decode (mB I_M_noStation) 3 = .ok (.aload_n 0, 1) := by decide +kernel
theorem e_M_noStation_4 : decode (mB I_M_noStation) 4 = .ok (.getfield 9, 3) := by decide +kernel
theorem e_M_noStation_7 : decode (mB I_M_noStation) 7 = .ok (.iconst 0, 1) := by decide +kernel
theorem e_M_noStation_8 : decode (mB I_M_noStation) 8 = .ok (.iaload, 1) := by decide +kernel
theorem e_M_noStation_9 : decode (mB I_M_noStation) 9 = .ok (.invokestatic 92, 3) := by decide +kernel
theorem e_M_noStation_12 : decode (mB I_M_noStation) 12 = .ok (.ifCond .ne 7, 3) := by decide +kernel
theorem e_M_noStation_15 : decode (mB I_M_noStation) 15 = .ok (.iconst 1, 1) := by decide +kernel
theorem e_M_noStation_16 : decode (mB I_M_noStation) 16 = .ok (.goto 4, 3) := by decide +kernel
theorem e_M_noStation_19 : decode (mB I_M_noStation) 19 = .ok (.iconst 0, 1) := by decide +kernel
theorem e_M_noStation_20 : decode (mB I_M_noStation) 20 = .ok (.iconst 0, 1) := by decide +kernel
theorem e_M_noStation_21 : decode (mB I_M_noStation) 21 = .ok (.iconst 0, 1) := by decide +kernel
theorem e_M_noStation_22 : decode (mB I_M_noStation) 22 = .ok (.invokevirtual 160, 3) := by decide +kernel
theorem e_M_noStation_25 : decode (mB I_M_noStation) 25 = .ok (.ireturn, 1) := by decide +kernel
theorem e_M_rawEast_0 : decode (mB I_M_rawEast) 0 = .ok (.aload_n 0, 1) := by decide +kernel
theorem e_M_rawEast_1 : decode (mB I_M_rawEast) 1 = .ok (.iload_n 1, 1) := by decide +kernel
theorem e_M_rawEast_2 : decode (mB I_M_rawEast) 2 = .ok (.invokevirtual 312, 3) := by decide +kernel
theorem e_M_rawEast_5 : decode (mB I_M_rawEast) 5 = .ok (.ifCond .eq 5, 3) := by decide +kernel
theorem e_M_rawEast_8 : decode (mB I_M_rawEast) 8 = .ok (.iconst 0, 1) := by decide +kernel
theorem e_M_rawEast_9 : decode (mB I_M_rawEast) 9 = .ok (.ireturn, 1) := by decide +kernel
theorem e_M_rawEast_10 : decode (mB I_M_rawEast) 10 = .ok (.aload_n 0, 1) := by decide +kernel
theorem e_M_rawEast_11 : decode (mB I_M_rawEast) 11 = .ok (.invokevirtual 135, 3) := by decide +kernel
theorem e_M_rawEast_14 : decode (mB I_M_rawEast) 14 = .ok (.aload_n 0, 1) := by decide +kernel
theorem e_M_rawEast_15 : decode (mB I_M_rawEast) 15 = .ok (.getfield 35, 3) := by decide +kernel
theorem e_M_rawEast_18 : decode (mB I_M_rawEast) 18 = .ok (.iload_n 1, 1) := by decide +kernel
theorem e_M_rawEast_19 : decode (mB I_M_rawEast) 19 = .ok (.iaload, 1) := by decide +kernel
theorem e_M_rawEast_20 : decode (mB I_M_rawEast) 20 = .ok (.ireturn, 1) := by decide +kernel
theorem e_M_rawNorth_0 : decode (mB I_M_rawNorth) 0 = .ok (.aload_n 0, 1) := by decide +kernel
theorem e_M_rawNorth_1 : decode (mB I_M_rawNorth) 1 = .ok (.iload_n 1, 1) := by decide +kernel
theorem e_M_rawNorth_2 : decode (mB I_M_rawNorth) 2 = .ok (.invokevirtual 312, 3) := by decide +kernel
theorem e_M_rawNorth_5 : decode (mB I_M_rawNorth) 5 = .ok (.ifCond .eq 5, 3) := by decide +kernel
theorem e_M_rawNorth_8 : decode (mB I_M_rawNorth) 8 = .ok (.iconst 0, 1) := by decide +kernel
theorem e_M_rawNorth_9 : decode (mB I_M_rawNorth) 9 = .ok (.ireturn, 1) := by decide +kernel
theorem e_M_rawNorth_10 : decode (mB I_M_rawNorth) 10 = .ok (.aload_n 0, 1) := by decide +kernel
theorem e_M_rawNorth_11 : decode (mB I_M_rawNorth) 11 = .ok (.invokevirtual 135, 3) := by decide +kernel
theorem e_M_rawNorth_14 : decode (mB I_M_rawNorth) 14 = .ok (.aload_n 0, 1) := by decide +kernel
theorem e_M_rawNorth_15 : decode (mB I_M_rawNorth) 15 = .ok (.getfield 38, 3) := by decide +kernel
theorem e_M_rawNorth_18 : decode (mB I_M_rawNorth) 18 = .ok (.iload_n 1, 1) := by decide +kernel
theorem e_M_rawNorth_19 : decode (mB I_M_rawNorth) 19 = .ok (.iaload, 1) := by decide +kernel
theorem e_M_rawNorth_20 : decode (mB I_M_rawNorth) 20 = .ok (.ireturn, 1) := by decide +kernel
theorem e_M_east_0 : decode (mB I_M_east) 0 = .ok (.aload_n 0, 1) := by decide +kernel
theorem e_M_east_1 : decode (mB I_M_east) 1 = .ok (.iload_n 1, 1) := by decide +kernel
theorem e_M_east_2 : decode (mB I_M_east) 2 = .ok (.invokevirtual 312, 3) := by decide +kernel
theorem e_M_east_5 : decode (mB I_M_east) 5 = .ok (.ifCond .eq 5, 3) := by decide +kernel
theorem e_M_east_8 : decode (mB I_M_east) 8 = .ok (.iconst 0, 1) := by decide +kernel
theorem e_M_east_9 : decode (mB I_M_east) 9 = .ok (.ireturn, 1) := by decide +kernel
theorem e_M_east_10 : decode (mB I_M_east) 10 = .ok (.aload_n 0, 1) := by decide +kernel
theorem e_M_east_11 : decode (mB I_M_east) 11 = .ok (.invokevirtual 315, 3) := by decide +kernel
theorem e_M_east_14 : decode (mB I_M_east) 14 = .ok (.aload_n 0, 1) := by decide +kernel
theorem e_M_east_15 : decode (mB I_M_east) 15 = .ok (.getfield 35, 3) := by decide +kernel
theorem e_M_east_18 : decode (mB I_M_east) 18 = .ok (.iload_n 1, 1) := by decide +kernel
theorem e_M_east_19 : decode (mB I_M_east) 19 = .ok (.iaload, 1) := by decide +kernel
theorem e_M_east_20 : decode (mB I_M_east) 20 = .ok (.ireturn, 1) := by decide +kernel
theorem e_M_north_0 : decode (mB I_M_north) 0 = .ok (.aload_n 0, 1) := by decide +kernel
theorem e_M_north_1 : decode (mB I_M_north) 1 = .ok (.iload_n 1, 1) := by decide +kernel
theorem e_M_north_2 : decode (mB I_M_north) 2 = .ok (.invokevirtual 312, 3) := by decide +kernel
theorem e_M_north_5 : decode (mB I_M_north) 5 = .ok (.ifCond .eq 5, 3) := by decide +kernel
theorem e_M_north_8 : decode (mB I_M_north) 8 = .ok (.iconst 0, 1) := by decide +kernel
theorem e_M_north_9 : decode (mB I_M_north) 9 = .ok (.ireturn, 1) := by decide +kernel
theorem e_M_north_10 : decode (mB I_M_north) 10 = .ok (.aload_n 0, 1) := by decide +kernel
theorem e_M_north_11 : decode (mB I_M_north) 11 = .ok (.invokevirtual 315, 3) := by decide +kernel
theorem e_M_north_14 : decode (mB I_M_north) 14 = .ok (.aload_n 0, 1) := by decide +kernel
theorem e_M_north_15 : decode (mB I_M_north) 15 = .ok (.getfield 38, 3) := by decide +kernel
theorem e_M_north_18 : decode (mB I_M_north) 18 = .ok (.iload_n 1, 1) := by decide +kernel
theorem e_M_north_19 : decode (mB I_M_north) 19 = .ok (.iaload, 1) := by decide +kernel
theorem e_M_north_20 : decode (mB I_M_north) 20 = .ok (.ireturn, 1) := by decide +kernel
theorem e_M_run_0 : decode (mB I_M_run) 0 = .ok (.aload_n 0, 1) := by decide +kernel
theorem e_M_run_1 : decode (mB I_M_run) 1 = .ok (.iload_n 1, 1) := by decide +kernel
theorem e_M_run_2 : decode (mB I_M_run) 2 = .ok (.invokevirtual 312, 3) := by decide +kernel
theorem e_M_run_5 : decode (mB I_M_run) 5 = .ok (.ifCond .eq 5, 3) := by decide +kernel
theorem e_M_run_8 : decode (mB I_M_run) 8 = .ok (.iconst 0, 1) := by decide +kernel
theorem e_M_run_9 : decode (mB I_M_run) 9 = .ok (.ireturn, 1) := by decide +kernel
theorem e_M_run_10 : decode (mB I_M_run) 10 = .ok (.aload_n 0, 1) := by decide +kernel
theorem e_M_run_11 : decode (mB I_M_run) 11 = .ok (.invokevirtual 135, 3) := by decide +kernel
theorem e_M_run_14 : decode (mB I_M_run) 14 = .ok (.aload_n 0, 1) := by decide +kernel
theorem e_M_run_15 : decode (mB I_M_run) 15 = .ok (.getfield 41, 3) := by decide +kernel
theorem e_M_run_18 : decode (mB I_M_run) 18 = .ok (.iload_n 1, 1) := by decide +kernel
theorem e_M_run_19 : decode (mB I_M_run) 19 = .ok (.iaload, 1) := by decide +kernel
theorem e_M_run_20 : decode (mB I_M_run) 20 = .ok (.ireturn, 1) := by decide +kernel
theorem e_M_distanceFromStart_0 : decode (mB I_M_distanceFromStart) 0 = .ok (.aload_n 0, 1) := by decide +kernel
theorem e_M_distanceFromStart_1 : decode (mB I_M_distanceFromStart) 1 = .ok (.iload_n 1, 1) := by decide +kernel
theorem e_M_distanceFromStart_2 : decode (mB I_M_distanceFromStart) 2 = .ok (.invokevirtual 312, 3) := by decide +kernel
theorem e_M_distanceFromStart_5 : decode (mB I_M_distanceFromStart) 5 = .ok (.ifCond .eq 5, 3) := by decide +kernel
theorem e_M_distanceFromStart_8 : decode (mB I_M_distanceFromStart) 8 = .ok (.iconst 0, 1) := by decide +kernel
theorem e_M_distanceFromStart_9 : decode (mB I_M_distanceFromStart) 9 = .ok (.ireturn, 1) := by decide +kernel
theorem e_M_distanceFromStart_10 : decode (mB I_M_distanceFromStart) 10 = .ok (.aload_n 0, 1) := by decide +kernel
theorem e_M_distanceFromStart_11 : decode (mB I_M_distanceFromStart) 11 = .ok (.invokevirtual 315, 3) := by decide +kernel
theorem e_M_distanceFromStart_14 : decode (mB I_M_distanceFromStart) 14 = .ok (.aload_n 0, 1) := by decide +kernel
theorem e_M_distanceFromStart_15 : decode (mB I_M_distanceFromStart) 15 = .ok (.getfield 35, 3) := by decide +kernel
theorem e_M_distanceFromStart_18 : decode (mB I_M_distanceFromStart) 18 = .ok (.iload_n 1, 1) := by decide +kernel
theorem e_M_distanceFromStart_19 : decode (mB I_M_distanceFromStart) 19 = .ok (.iaload, 1) := by decide +kernel
theorem e_M_distanceFromStart_20 : decode (mB I_M_distanceFromStart) 20 = .ok (.i2l, 1) := by decide +kernel
theorem e_M_distanceFromStart_21 : decode (mB I_M_distanceFromStart) 21 = .ok (.aload_n 0, 1) := by decide +kernel
theorem e_M_distanceFromStart_22 : decode (mB I_M_distanceFromStart) 22 = .ok (.getfield 38, 3) := by decide +kernel
theorem e_M_distanceFromStart_25 : decode (mB I_M_distanceFromStart) 25 = .ok (.iload_n 1, 1) := by decide +kernel
theorem e_M_distanceFromStart_26 : decode (mB I_M_distanceFromStart) 26 = .ok (.iaload, 1) := by decide +kernel
theorem e_M_distanceFromStart_27 : decode (mB I_M_distanceFromStart) 27 = .ok (.i2l, 1) := by decide +kernel
theorem e_M_distanceFromStart_28 : decode (mB I_M_distanceFromStart) 28 = .ok (.invokestatic 145, 3) := by decide +kernel
theorem e_M_distanceFromStart_31 : decode (mB I_M_distanceFromStart) 31 = .ok (.ireturn, 1) := by decide +kernel
theorem e_M_perimeterNow_0 : decode (mB I_M_perimeterNow) 0 = .ok (.aload_n 0, 1) := by decide +kernel
theorem e_M_perimeterNow_1 : decode (mB I_M_perimeterNow) 1 = .ok (.invokevirtual 135, 3) := by decide +kernel
theorem e_M_perimeterNow_4 : decode (mB I_M_perimeterNow) 4 = .ok (.aload_n 0, 1) := by decide +kernel
theorem e_M_perimeterNow_5 : decode (mB I_M_perimeterNow) 5 = .ok (.invokevirtual 138, 3) := by decide +kernel
theorem e_M_perimeterNow_8 : decode (mB I_M_perimeterNow) 8 = .ok (.ireturn, 1) := by decide +kernel
theorem e_M_perimeter_0 : decode (mB I_M_perimeter) 0 = .ok (.aload_n 0, 1) := by decide +kernel
theorem e_M_perimeter_1 : decode (mB I_M_perimeter) 1 = .ok (.aload_n 0, 1) := by decide +kernel
theorem e_M_perimeter_2 : decode (mB I_M_perimeter) 2 = .ok (.invokevirtual 318, 3) := by decide +kernel
theorem e_M_perimeter_5 : decode (mB I_M_perimeter) 5 = .ok (.invokevirtual 292, 3) := by decide +kernel
theorem e_M_perimeter_8 : decode (mB I_M_perimeter) 8 = .ok (.ireturn, 1) := by decide +kernel
theorem e_M_closingEast_0 : decode (mB I_M_closingEast) 0 = .ok (.aload_n 0, 1) := by decide +kernel
theorem e_M_closingEast_1 : decode (mB I_M_closingEast) 1 = .ok (.iconst 0, 1) := by decide +kernel
theorem e_M_closingEast_2 : decode (mB I_M_closingEast) 2 = .ok (.putfield 79, 3) := by decide +kernel
theorem e_M_closingEast_5 : decode (mB I_M_closingEast) 5 = .ok (.aload_n 0, 1) := by decide +kernel
theorem e_M_closingEast_6 : decode (mB I_M_closingEast) 6 = .ok (.invokevirtual 135, 3) := by decide +kernel
theorem e_M_closingEast_9 : decode (mB I_M_closingEast) 9 = .ok (.aload_n 0, 1) := by decide +kernel
theorem e_M_closingEast_10 : decode (mB I_M_closingEast) 10 = .ok (.getfield 35, 3) := by decide +kernel
theorem e_M_closingEast_13 : decode (mB I_M_closingEast) 13 = .ok (.aload_n 0, 1) := by decide +kernel
theorem e_M_closingEast_14 : decode (mB I_M_closingEast) 14 = .ok (.getfield 9, 3) := by decide +kernel
theorem e_M_closingEast_17 : decode (mB I_M_closingEast) 17 = .ok (.iconst 0, 1) := by decide +kernel
theorem e_M_closingEast_18 : decode (mB I_M_closingEast) 18 = .ok (.iaload, 1) := by decide +kernel
theorem e_M_closingEast_19 : decode (mB I_M_closingEast) 19 = .ok (.iaload, 1) := by decide +kernel
theorem e_M_closingEast_20 : decode (mB I_M_closingEast) 20 = .ok (.ireturn, 1) := by decide +kernel
theorem e_M_closingNorth_0 : decode (mB I_M_closingNorth) 0 = .ok (.aload_n 0, 1) := by decide +kernel
theorem e_M_closingNorth_1 : decode (mB I_M_closingNorth) 1 = .ok (.iconst 0, 1) := by decide +kernel
theorem e_M_closingNorth_2 : decode (mB I_M_closingNorth) 2 = .ok (.putfield 79, 3) := by decide +kernel
theorem e_M_closingNorth_5 : decode (mB I_M_closingNorth) 5 = .ok (.aload_n 0, 1) := by decide +kernel
theorem e_M_closingNorth_6 : decode (mB I_M_closingNorth) 6 = .ok (.invokevirtual 135, 3) := by decide +kernel
theorem e_M_closingNorth_9 : decode (mB I_M_closingNorth) 9 = .ok (.aload_n 0, 1) := by decide +kernel
theorem e_M_closingNorth_10 : decode (mB I_M_closingNorth) 10 = .ok (.getfield 38, 3) := by decide +kernel
theorem e_M_closingNorth_13 : decode (mB I_M_closingNorth) 13 = .ok (.aload_n 0, 1) := by decide +kernel
theorem e_M_closingNorth_14 : decode (mB I_M_closingNorth) 14 = .ok (.getfield 9, 3) := by decide +kernel
theorem e_M_closingNorth_17 : decode (mB I_M_closingNorth) 17 = .ok (.iconst 0, 1) := by decide +kernel
theorem e_M_closingNorth_18 : decode (mB I_M_closingNorth) 18 = .ok (.iaload, 1) := by decide +kernel
theorem e_M_closingNorth_19 : decode (mB I_M_closingNorth) 19 = .ok (.iaload, 1) := by decide +kernel
theorem e_M_closingNorth_20 : decode (mB I_M_closingNorth) 20 = .ok (.ireturn, 1) := by decide +kernel
theorem e_M_misclosure_0 : decode (mB I_M_misclosure) 0 = .ok (.aload_n 0, 1) := by decide +kernel
theorem e_M_misclosure_1 : decode (mB I_M_misclosure) 1 = .ok (.aload_n 0, 1) := by decide +kernel
theorem e_M_misclosure_2 : decode (mB I_M_misclosure) 2 = .ok (.invokevirtual 321, 3) := by decide +kernel
theorem e_M_misclosure_5 : decode (mB I_M_misclosure) 5 = .ok (.invokevirtual 292, 3) := by decide +kernel
theorem e_M_misclosure_8 : decode (mB I_M_misclosure) 8 = .ok (.ireturn, 1) := by decide +kernel
theorem e_M_precision_0 : decode (mB I_M_precision) 0 = .ok (.aload_n 0, 1) := by decide +kernel
theorem e_M_precision_1 : decode (mB I_M_precision) 1 = .ok (.iconst 0, 1) := by decide +kernel
theorem e_M_precision_2 : decode (mB I_M_precision) 2 = .ok (.putfield 79, 3) := by decide +kernel
theorem e_M_precision_5 : decode (mB I_M_precision) 5 = .ok (.aload_n 0, 1) := by decide +kernel
theorem e_M_precision_6 : decode (mB I_M_precision) 6 = .ok (.invokevirtual 321, 3) := by decide +kernel
theorem e_M_precision_9 : decode (mB I_M_precision) 9 = .ok (.istore_n 1, 1) := by decide +kernel
theorem e_M_precision_10 : decode (mB I_M_precision) 10 = .ok (.iload_n 1, 1) := by decide +kernel
theorem e_M_precision_11 : decode (mB I_M_precision) 11 = .ok (.ifCond .ne 7, 3) := by decide +kernel
theorem e_M_precision_14 : decode (mB I_M_precision) 14 = .ok (.iconst (-1), 1) := by decide +kernel
theorem e_M_precision_15 : decode (mB I_M_precision) 15 = .ok (.goto 9, 3) := by decide +kernel
theorem e_M_precision_18 : decode (mB I_M_precision) 18 = .ok (.aload_n 0, 1) := by decide +kernel
theorem e_M_precision_19 : decode (mB I_M_precision) 19 = .ok (.invokevirtual 138, 3) := by decide +kernel
theorem e_M_precision_22 : decode (mB I_M_precision) 22 = .ok (.iload_n 1, 1) := by decide +kernel
theorem e_M_precision_23 : decode (mB I_M_precision) 23 = .ok (.idiv, 1) := by decide +kernel
theorem e_M_precision_24 : decode (mB I_M_precision) 24 = .ok (.ireturn, 1) := by decide +kernel
theorem e_M_spread_0 : decode (mB I_M_spread) 0 = .ok (.aload_n 1, 1) := by decide +kernel
theorem e_M_spread_1 : decode (mB I_M_spread) 1 = .ok (.iconst 0, 1) := by decide +kernel
theorem e_M_spread_2 : decode (mB I_M_spread) 2 = .ok (.iaload, 1) := by decide +kernel
theorem e_M_spread_3 : decode (mB I_M_spread) 3 = .ok (.istore_n 2, 1) := by decide +kernel
theorem e_M_spread_4 : decode (mB I_M_spread) 4 = .ok (.aload_n 1, 1) := by decide +kernel
theorem e_M_spread_5 : decode (mB I_M_spread) 5 = .ok (.iconst 0, 1) := by decide +kernel
theorem e_M_spread_6 : decode (mB I_M_spread) 6 = .ok (.iaload, 1) := by decide +kernel
theorem e_M_spread_7 : decode (mB I_M_spread) 7 = .ok (.istore_n 3, 1) := by decide +kernel
theorem e_M_spread_8 : decode (mB I_M_spread) 8 = .ok (.iconst 1, 1) := by decide +kernel
theorem e_M_spread_9 : decode (mB I_M_spread) 9 = .ok (.istore 4, 2) := by decide +kernel
theorem e_M_spread_11 : decode (mB I_M_spread) 11 = .ok (.iload 4, 2) := by decide +kernel
theorem e_M_spread_13 : decode (mB I_M_spread) 13 = .ok (.aload_n 0, 1) := by decide +kernel
theorem e_M_spread_14 : decode (mB I_M_spread) 14 = .ok (.getfield 9, 3) := by decide +kernel
theorem e_M_spread_17 : decode (mB I_M_spread) 17 = .ok (.iconst 0, 1) := by decide +kernel
theorem e_M_spread_18 : decode (mB I_M_spread) 18 = .ok (.iaload, 1) := by decide +kernel
theorem e_M_spread_19 : decode (mB I_M_spread) 19 = .ok (.if_icmp .gt 27, 3) := by decide +kernel
theorem e_M_spread_22 : decode (mB I_M_spread) 22 = .ok (.iload_n 2, 1) := by decide +kernel
theorem e_M_spread_23 : decode (mB I_M_spread) 23 = .ok (.aload_n 1, 1) := by decide +kernel
theorem e_M_spread_24 : decode (mB I_M_spread) 24 = .ok (.iload 4, 2) := by decide +kernel
theorem e_M_spread_26 : decode (mB I_M_spread) 26 = .ok (.iaload, 1) := by decide +kernel
theorem e_M_spread_27 : decode (mB I_M_spread) 27 = .ok (.invokestatic 183, 3) := by decide +kernel
theorem e_M_spread_30 : decode (mB I_M_spread) 30 = .ok (.istore_n 2, 1) := by decide +kernel
theorem e_M_spread_31 : decode (mB I_M_spread) 31 = .ok (.iload_n 3, 1) := by decide +kernel
theorem e_M_spread_32 : decode (mB I_M_spread) 32 = .ok (.aload_n 1, 1) := by decide +kernel
theorem e_M_spread_33 : decode (mB I_M_spread) 33 = .ok (.iload 4, 2) := by decide +kernel
theorem e_M_spread_35 : decode (mB I_M_spread) 35 = .ok (.iaload, 1) := by decide +kernel
theorem e_M_spread_36 : decode (mB I_M_spread) 36 = .ok (.invokestatic 324, 3) := by decide +kernel
theorem e_M_spread_39 : decode (mB I_M_spread) 39 = .ok (.istore_n 3, 1) := by decide +kernel
theorem e_M_spread_40 : decode (mB I_M_spread) 40 = .ok (.iinc 4 1, 3) := by decide +kernel
theorem e_M_spread_43 : decode (mB I_M_spread) 43 = .ok (.goto (-32), 3) := by decide +kernel
theorem e_M_spread_46 : decode (mB I_M_spread) 46 = .ok (.iload_n 3, 1) := by decide +kernel
theorem e_M_spread_47 : decode (mB I_M_spread) 47 = .ok (.iload_n 2, 1) := by decide +kernel
theorem e_M_spread_48 : decode (mB I_M_spread) 48 = .ok (.isub, 1) := by decide +kernel
theorem e_M_spread_49 : decode (mB I_M_spread) 49 = .ok (.ireturn, 1) := by decide +kernel
theorem e_M_width_0 : decode (mB I_M_width) 0 = .ok (.aload_n 0, 1) := by decide +kernel
theorem e_M_width_1 : decode (mB I_M_width) 1 = .ok (.iconst 0, 1) := by decide +kernel
theorem e_M_width_2 : decode (mB I_M_width) 2 = .ok (.putfield 79, 3) := by decide +kernel
theorem e_M_width_5 : decode (mB I_M_width) 5 = .ok (.aload_n 0, 1) := by decide +kernel
theorem e_M_width_6 : decode (mB I_M_width) 6 = .ok (.invokevirtual 315, 3) := by decide +kernel
theorem e_M_width_9 : decode (mB I_M_width) 9 = .ok (.aload_n 0, 1) := by decide +kernel
theorem e_M_width_10 : decode (mB I_M_width) 10 = .ok (.aload_n 0, 1) := by decide +kernel
theorem e_M_width_11 : decode (mB I_M_width) 11 = .ok (.getfield 35, 3) := by decide +kernel
theorem e_M_width_14 : decode (mB I_M_width) 14 = .ok (.invokevirtual 327, 3) := by decide +kernel
theorem e_M_width_17 : decode (mB I_M_width) 17 = .ok (.ireturn, 1) := by decide +kernel
theorem e_M_height_0 : decode (mB I_M_height) 0 = .ok (.aload_n 0, 1) := by decide +kernel
theorem e_M_height_1 : decode (mB I_M_height) 1 = .ok (.iconst 0, 1) := by decide +kernel
theorem e_M_height_2 : decode (mB I_M_height) 2 = .ok (.putfield 79, 3) := by decide +kernel
theorem e_M_height_5 : decode (mB I_M_height) 5 = .ok (.aload_n 0, 1) := by decide +kernel
theorem e_M_height_6 : decode (mB I_M_height) 6 = .ok (.invokevirtual 315, 3) := by decide +kernel
theorem e_M_height_9 : decode (mB I_M_height) 9 = .ok (.aload_n 0, 1) := by decide +kernel
theorem e_M_height_10 : decode (mB I_M_height) 10 = .ok (.aload_n 0, 1) := by decide +kernel
theorem e_M_height_11 : decode (mB I_M_height) 11 = .ok (.getfield 38, 3) := by decide +kernel
theorem e_M_height_14 : decode (mB I_M_height) 14 = .ok (.invokevirtual 327, 3) := by decide +kernel
theorem e_M_height_17 : decode (mB I_M_height) 17 = .ok (.ireturn, 1) := by decide +kernel
theorem e_M_farthestStation_0 : decode (mB I_M_farthestStation) 0 = .ok (.aload_n 0, 1) := by decide +kernel
theorem e_M_farthestStation_1 : decode (mB I_M_farthestStation) 1 = .ok (.iconst 0, 1) := by decide +kernel
theorem e_M_farthestStation_2 : decode (mB I_M_farthestStation) 2 = .ok (.putfield 79, 3) := by decide +kernel
theorem e_M_farthestStation_5 : decode (mB I_M_farthestStation) 5 = .ok (.aload_n 0, 1) := by decide +kernel
theorem e_M_farthestStation_6 : decode (mB I_M_farthestStation) 6 = .ok (.invokevirtual 315, 3) := by decide +kernel
theorem e_M_farthestStation_9 : decode (mB I_M_farthestStation) 9 = .ok (.iconst 0, 1) := by decide +kernel
theorem e_M_farthestStation_10 : decode (mB I_M_farthestStation) 10 = .ok (.istore_n 1, 1) := by decide +kernel
theorem e_M_farthestStation_11 : decode (mB I_M_farthestStation) 11 = .ok (.iconst 1, 1) := by decide +kernel
theorem e_M_farthestStation_12 : decode (mB I_M_farthestStation) 12 = .ok (.istore_n 2, 1) := by decide +kernel
theorem e_M_farthestStation_13 : decode (mB I_M_farthestStation) 13 = .ok (.iload_n 2, 1) := by decide +kernel
theorem e_M_farthestStation_14 : decode (mB I_M_farthestStation) 14 = .ok (.aload_n 0, 1) := by decide +kernel
theorem e_M_farthestStation_15 : decode (mB I_M_farthestStation) 15 = .ok (.getfield 9, 3) := by decide +kernel
theorem e_M_farthestStation_18 : decode (mB I_M_farthestStation) 18 = .ok (.iconst 0, 1) := by decide +kernel
theorem e_M_farthestStation_19 : decode (mB I_M_farthestStation) 19 = .ok (.iaload, 1) := by decide +kernel
theorem e_M_farthestStation_20 : decode (mB I_M_farthestStation) 20 = .ok (.if_icmp .gt 48, 3) := by decide +kernel
theorem e_M_farthestStation_23 : decode (mB I_M_farthestStation) 23 = .ok (.aload_n 0, 1) := by decide +kernel
theorem e_M_farthestStation_24 : decode (mB I_M_farthestStation) 24 = .ok (.getfield 35, 3) := by decide +kernel
theorem e_M_farthestStation_27 : decode (mB I_M_farthestStation) 27 = .ok (.iload_n 2, 1) := by decide +kernel
theorem e_M_farthestStation_28 : decode (mB I_M_farthestStation) 28 = .ok (.iaload, 1) := by decide +kernel
theorem e_M_farthestStation_29 : decode (mB I_M_farthestStation) 29 = .ok (.i2l, 1) := by decide +kernel
theorem e_M_farthestStation_30 : decode (mB I_M_farthestStation) 30 = .ok (.aload_n 0, 1) := by decide +kernel
theorem e_M_farthestStation_31 : decode (mB I_M_farthestStation) 31 = .ok (.getfield 38, 3) := by decide +kernel
theorem e_M_farthestStation_34 : decode (mB I_M_farthestStation) 34 = .ok (.iload_n 2, 1) := by decide +kernel
theorem e_M_farthestStation_35 : decode (mB I_M_farthestStation) 35 = .ok (.iaload, 1) := by decide +kernel
theorem e_M_farthestStation_36 : decode (mB I_M_farthestStation) 36 = .ok (.i2l, 1) := by decide +kernel
theorem e_M_farthestStation_37 : decode (mB I_M_farthestStation) 37 = .ok (.invokestatic 145, 3) := by decide +kernel
theorem e_M_farthestStation_40 : decode (mB I_M_farthestStation) 40 = .ok (.aload_n 0, 1) := by decide +kernel
theorem e_M_farthestStation_41 : decode (mB I_M_farthestStation) 41 = .ok (.getfield 35, 3) := by decide +kernel
theorem e_M_farthestStation_44 : decode (mB I_M_farthestStation) 44 = .ok (.iload_n 1, 1) := by decide +kernel
theorem e_M_farthestStation_45 : decode (mB I_M_farthestStation) 45 = .ok (.iaload, 1) := by decide +kernel
theorem e_M_farthestStation_46 : decode (mB I_M_farthestStation) 46 = .ok (.i2l, 1) := by decide +kernel
theorem e_M_farthestStation_47 : decode (mB I_M_farthestStation) 47 = .ok (.aload_n 0, 1) := by decide +kernel
theorem e_M_farthestStation_48 : decode (mB I_M_farthestStation) 48 = .ok (.getfield 38, 3) := by decide +kernel
theorem e_M_farthestStation_51 : decode (mB I_M_farthestStation) 51 = .ok (.iload_n 1, 1) := by decide +kernel
theorem e_M_farthestStation_52 : decode (mB I_M_farthestStation) 52 = .ok (.iaload, 1) := by decide +kernel
theorem e_M_farthestStation_53 : decode (mB I_M_farthestStation) 53 = .ok (.i2l, 1) := by decide +kernel
theorem e_M_farthestStation_54 : decode (mB I_M_farthestStation) 54 = .ok (.invokestatic 145, 3) := by decide +kernel
theorem e_M_farthestStation_57 : decode (mB I_M_farthestStation) 57 = .ok (.if_icmp .le 5, 3) := by decide +kernel
theorem e_M_farthestStation_60 : decode (mB I_M_farthestStation) 60 = .ok (.iload_n 2, 1) := by decide +kernel
theorem e_M_farthestStation_61 : decode (mB I_M_farthestStation) 61 = .ok (.istore_n 1, 1) := by decide +kernel
theorem e_M_farthestStation_62 : decode (mB I_M_farthestStation) 62 = .ok (.iinc 2 1, 3) := by decide +kernel
theorem e_M_farthestStation_65 : decode (mB I_M_farthestStation) 65 = .ok (.goto (-52), 3) := by decide +kernel
theorem e_M_farthestStation_68 : decode (mB I_M_farthestStation) 68 = .ok (.iload_n 1, 1) := by decide +kernel
theorem e_M_farthestStation_69 : decode (mB I_M_farthestStation) 69 = .ok (.ireturn, 1) := by decide +kernel
theorem e_M_longestLeg_0 : decode (mB I_M_longestLeg) 0 = .ok (.aload_n 0, 1) := by decide +kernel
theorem e_M_longestLeg_1 : decode (mB I_M_longestLeg) 1 = .ok (.iconst 0, 1) := by decide +kernel
theorem e_M_longestLeg_2 : decode (mB I_M_longestLeg) 2 = .ok (.putfield 79, 3) := by decide +kernel
theorem e_M_longestLeg_5 : decode (mB I_M_longestLeg) 5 = .ok (.iconst (-1), 1) := by decide +kernel
theorem e_M_longestLeg_6 : decode (mB I_M_longestLeg) 6 = .ok (.istore_n 1, 1) := by decide +kernel
theorem e_M_longestLeg_7 : decode (mB I_M_longestLeg) 7 = .ok (.iconst 0, 1) := by decide +kernel
theorem e_M_longestLeg_8 : decode (mB I_M_longestLeg) 8 = .ok (.istore_n 2, 1) := by decide +kernel
theorem e_M_longestLeg_9 : decode (mB I_M_longestLeg) 9 = .ok (.iload_n 2, 1) := by decide +kernel
theorem e_M_longestLeg_10 : decode (mB I_M_longestLeg) 10 = .ok (.aload_n 0, 1) := by decide +kernel
theorem e_M_longestLeg_11 : decode (mB I_M_longestLeg) 11 = .ok (.getfield 9, 3) := by decide +kernel
theorem e_M_longestLeg_14 : decode (mB I_M_longestLeg) 14 = .ok (.iconst 0, 1) := by decide +kernel
theorem e_M_longestLeg_15 : decode (mB I_M_longestLeg) 15 = .ok (.iaload, 1) := by decide +kernel
theorem e_M_longestLeg_16 : decode (mB I_M_longestLeg) 16 = .ok (.if_icmp .ge 29, 3) := by decide +kernel
theorem e_M_longestLeg_19 : decode (mB I_M_longestLeg) 19 = .ok (.iload_n 1, 1) := by decide +kernel
theorem e_M_longestLeg_20 : decode (mB I_M_longestLeg) 20 = .ok (.iconst (-1), 1) := by decide +kernel
theorem e_M_longestLeg_21 : decode (mB I_M_longestLeg) 21 = .ok (.if_icmp .eq 16, 3) := by decide +kernel
theorem e_M_longestLeg_24 : decode (mB I_M_longestLeg) 24 = .ok (.aload_n 0, 1) := by decide +kernel
theorem e_M_longestLeg_25 : decode (mB I_M_longestLeg) 25 = .ok (.iload_n 2, 1) := by decide +kernel
theorem e_M_longestLeg_26 : decode (mB I_M_longestLeg) 26 = .ok (.invokevirtual 125, 3) := by decide +kernel
theorem e_M_longestLeg_29 : decode (mB I_M_longestLeg) 29 = .ok (.aload_n 0, 1) := by decide +kernel
theorem e_M_longestLeg_30 : decode (mB I_M_longestLeg) 30 = .ok (.iload_n 1, 1) := by decide +kernel
theorem e_M_longestLeg_31 : decode (mB I_M_longestLeg) 31 = .ok (.invokevirtual 125, 3) := by decide +kernel
theorem e_M_longestLeg_34 : decode (mB I_M_longestLeg) 34 = .ok (.if_icmp .le 5, 3) := by decide +kernel
theorem e_M_longestLeg_37 : decode (mB I_M_longestLeg) 37 = .ok (.iload_n 2, 1) := by decide +kernel
theorem e_M_longestLeg_38 : decode (mB I_M_longestLeg) 38 = .ok (.istore_n 1, 1) := by decide +kernel
theorem e_M_longestLeg_39 : decode (mB I_M_longestLeg) 39 = .ok (.iinc 2 1, 3) := by decide +kernel
theorem e_M_longestLeg_42 : decode (mB I_M_longestLeg) 42 = .ok (.goto (-33), 3) := by decide +kernel
theorem e_M_longestLeg_45 : decode (mB I_M_longestLeg) 45 = .ok (.iload_n 1, 1) := by decide +kernel
theorem e_M_longestLeg_46 : decode (mB I_M_longestLeg) 46 = .ok (.ireturn, 1) := by decide +kernel
theorem e_M_onBogs_0 : decode (mB I_M_onBogs) 0 = .ok (.iconst 0, 1) := by decide +kernel
theorem e_M_onBogs_1 : decode (mB I_M_onBogs) 1 = .ok (.istore_n 1, 1) := by decide +kernel
theorem e_M_onBogs_2 : decode (mB I_M_onBogs) 2 = .ok (.iconst 0, 1) := by decide +kernel
theorem e_M_onBogs_3 : decode (mB I_M_onBogs) 3 = .ok (.istore_n 2, 1) := by decide +kernel
theorem e_M_onBogs_4 : decode (mB I_M_onBogs) 4 = .ok (.iload_n 2, 1) := by decide +kernel
theorem e_M_onBogs_5 : decode (mB I_M_onBogs) 5 = .ok (.aload_n 0, 1) := by decide +kernel
theorem e_M_onBogs_6 : decode (mB I_M_onBogs) 6 = .ok (.getfield 9, 3) := by decide +kernel
theorem e_M_onBogs_9 : decode (mB I_M_onBogs) 9 = .ok (.iconst 0, 1) := by decide +kernel
theorem e_M_onBogs_10 : decode (mB I_M_onBogs) 10 = .ok (.iaload, 1) := by decide +kernel
theorem e_M_onBogs_11 : decode (mB I_M_onBogs) 11 = .ok (.if_icmp .ge 25, 3) := by decide +kernel
theorem e_M_onBogs_14 : decode (mB I_M_onBogs) 14 = .ok (.aload_n 0, 1) := by decide +kernel
theorem e_M_onBogs_15 : decode (mB I_M_onBogs) 15 = .ok (.iload_n 2, 1) := by decide +kernel
theorem e_M_onBogs_16 : decode (mB I_M_onBogs) 16 = .ok (.invokevirtual 102, 3) := by decide +kernel
theorem e_M_onBogs_19 : decode (mB I_M_onBogs) 19 = .ok (.ifCond .eq 11, 3) := by decide +kernel
theorem e_M_onBogs_22 : decode (mB I_M_onBogs) 22 = .ok (.iload_n 1, 1) := by decide +kernel
theorem e_M_onBogs_23 : decode (mB I_M_onBogs) 23 = .ok (.aload_n 0, 1) := by decide +kernel
theorem e_M_onBogs_24 : decode (mB I_M_onBogs) 24 = .ok (.iload_n 2, 1) := by decide +kernel
theorem e_M_onBogs_25 : decode (mB I_M_onBogs) 25 = .ok (.invokevirtual 125, 3) := by decide +kernel
theorem e_M_onBogs_28 : decode (mB I_M_onBogs) 28 = .ok (.iadd, 1) := by decide +kernel
theorem e_M_onBogs_29 : decode (mB I_M_onBogs) 29 = .ok (.istore_n 1, 1) := by decide +kernel
theorem e_M_onBogs_30 : decode (mB I_M_onBogs) 30 = .ok (.iinc 2 1, 3) := by decide +kernel
theorem e_M_onBogs_33 : decode (mB I_M_onBogs) 33 = .ok (.goto (-29), 3) := by decide +kernel
theorem e_M_onBogs_36 : decode (mB I_M_onBogs) 36 = .ok (.iload_n 1, 1) := by decide +kernel
theorem e_M_onBogs_37 : decode (mB I_M_onBogs) 37 = .ok (.ireturn, 1) := by decide +kernel
theorem e_M_bogLength_0 : decode (mB I_M_bogLength) 0 = .ok (.aload_n 0, 1) := by decide +kernel
theorem e_M_bogLength_1 : decode (mB I_M_bogLength) 1 = .ok (.aload_n 0, 1) := by decide +kernel
theorem e_M_bogLength_2 : decode (mB I_M_bogLength) 2 = .ok (.invokevirtual 331, 3) := by decide +kernel
theorem e_M_bogLength_5 : decode (mB I_M_bogLength) 5 = .ok (.invokevirtual 292, 3) := by decide +kernel
theorem e_M_bogLength_8 : decode (mB I_M_bogLength) 8 = .ok (.ireturn, 1) := by decide +kernel
theorem e_M_area_0 : decode (mB I_M_area) 0 = .ok (.aload_n 0, 1) := by decide +kernel
theorem e_M_area_1 : decode (mB I_M_area) 1 = .ok (.iconst 0, 1) := by decide +kernel
theorem e_M_area_2 : decode (mB I_M_area) 2 = .ok (.putfield 79, 3) := by decide +kernel
theorem e_M_area_5 : decode (mB I_M_area) 5 = .ok (.aload_n 0, 1) := by decide +kernel
theorem e_M_area_6 : decode (mB I_M_area) 6 = .ok (.invokevirtual 315, 3) := by decide +kernel
theorem e_M_area_9 : decode (mB I_M_area) 9 = .ok (.lconst 0, 1) := by decide +kernel
theorem e_M_area_10 : decode (mB I_M_area) 10 = .ok (.lstore_n 1, 1) := by decide +kernel
theorem e_M_area_11 : decode (mB I_M_area) 11 = .ok (.aload_n 0, 1) := by decide +kernel
theorem e_M_area_12 : decode (mB I_M_area) 12 = .ok (.getfield 9, 3) := by decide +kernel
theorem e_M_area_15 : decode (mB I_M_area) 15 = .ok (.iconst 0, 1) := by decide +kernel
theorem e_M_area_16 : decode (mB I_M_area) 16 = .ok (.iaload, 1) := by decide +kernel
theorem e_M_area_17 : decode (mB I_M_area) 17 = .ok (.iconst 1, 1) := by decide +kernel
theorem e_M_area_18 : decode (mB I_M_area) 18 = .ok (.iadd, 1) := by decide +kernel
theorem e_M_area_19 : decode (mB I_M_area) 19 = .ok (.istore_n 3, 1) := by decide +kernel
theorem e_M_area_20 : decode (mB I_M_area) 20 = .ok (.iconst 0, 1) := by decide +kernel
theorem e_M_area_21 : decode (mB I_M_area) 21 = .ok (.istore 4, 2) := by decide +kernel
theorem e_M_area_23 : decode (mB I_M_area) 23 = .ok (.iload 4, 2) := by decide +kernel
theorem e_M_area_25 : decode (mB I_M_area) 25 = .ok (.iload_n 3, 1) := by decide +kernel
theorem e_M_area_26 : decode (mB I_M_area) 26 = .ok (.if_icmp .ge 55, 3) := by decide +kernel
theorem e_M_area_29 : decode (mB I_M_area) 29 = .ok (.iload 4, 2) := by decide +kernel
theorem e_M_area_31 : decode (mB I_M_area) 31 = .ok (.iconst 1, 1) := by decide +kernel
theorem e_M_area_32 : decode (mB I_M_area) 32 = .ok (.iadd, 1) := by decide +kernel
theorem e_M_area_33 : decode (mB I_M_area) 33 = .ok (.iload_n 3, 1) := by decide +kernel
theorem e_M_area_34 : decode (mB I_M_area) 34 = .ok (.irem, 1) := by decide +kernel
theorem e_M_area_35 : decode (mB I_M_area) 35 = .ok (.istore 5, 2) := by decide +kernel
theorem e_M_area_37 : decode (mB I_M_area) 37 = .ok (.lload_n 1, 1) := by decide +kernel
theorem e_M_area_38 : decode (mB I_M_area) 38 = .ok (.aload_n 0, 1) := by decide +kernel
theorem e_M_area_39 : decode (mB I_M_area) 39 = .ok (.getfield 35, 3) := by decide +kernel
theorem e_M_area_42 : decode (mB I_M_area) 42 = .ok (.iload 4, 2) := by decide +kernel
theorem e_M_area_44 : decode (mB I_M_area) 44 = .ok (.iaload, 1) := by decide +kernel
theorem e_M_area_45 : decode (mB I_M_area) 45 = .ok (.i2l, 1) := by decide +kernel
theorem e_M_area_46 : decode (mB I_M_area) 46 = .ok (.aload_n 0, 1) := by decide +kernel
theorem e_M_area_47 : decode (mB I_M_area) 47 = .ok (.getfield 38, 3) := by decide +kernel
theorem e_M_area_50 : decode (mB I_M_area) 50 = .ok (.iload 5, 2) := by decide +kernel
theorem e_M_area_52 : decode (mB I_M_area) 52 = .ok (.iaload, 1) := by decide +kernel
theorem e_M_area_53 : decode (mB I_M_area) 53 = .ok (.i2l, 1) := by decide +kernel
theorem e_M_area_54 : decode (mB I_M_area) 54 = .ok (.lmul, 1) := by decide +kernel
theorem e_M_area_55 : decode (mB I_M_area) 55 = .ok (.aload_n 0, 1) := by decide +kernel
theorem e_M_area_56 : decode (mB I_M_area) 56 = .ok (.getfield 35, 3) := by decide +kernel
theorem e_M_area_59 : decode (mB I_M_area) 59 = .ok (.iload 5, 2) := by decide +kernel
theorem e_M_area_61 : decode (mB I_M_area) 61 = .ok (.iaload, 1) := by decide +kernel
theorem e_M_area_62 : decode (mB I_M_area) 62 = .ok (.i2l, 1) := by decide +kernel
theorem e_M_area_63 : decode (mB I_M_area) 63 = .ok (.aload_n 0, 1) := by decide +kernel
theorem e_M_area_64 : decode (mB I_M_area) 64 = .ok (.getfield 38, 3) := by decide +kernel
theorem e_M_area_67 : decode (mB I_M_area) 67 = .ok (.iload 4, 2) := by decide +kernel
theorem e_M_area_69 : decode (mB I_M_area) 69 = .ok (.iaload, 1) := by decide +kernel
theorem e_M_area_70 : decode (mB I_M_area) 70 = .ok (.i2l, 1) := by decide +kernel
theorem e_M_area_71 : decode (mB I_M_area) 71 = .ok (.lmul, 1) := by decide +kernel
theorem e_M_area_72 : decode (mB I_M_area) 72 = .ok (.lsub, 1) := by decide +kernel
theorem e_M_area_73 : decode (mB I_M_area) 73 = .ok (.ladd, 1) := by decide +kernel
theorem e_M_area_74 : decode (mB I_M_area) 74 = .ok (.lstore_n 1, 1) := by decide +kernel
theorem e_M_area_75 : decode (mB I_M_area) 75 = .ok (.iinc 4 1, 3) := by decide +kernel
theorem e_M_area_78 : decode (mB I_M_area) 78 = .ok (.goto (-55), 3) := by decide +kernel
theorem e_M_area_81 : decode (mB I_M_area) 81 = .ok (.lload_n 1, 1) := by decide +kernel
theorem e_M_area_82 : decode (mB I_M_area) 82 = .ok (.invokestatic 334, 3) := by decide +kernel
theorem e_M_area_85 : decode (mB I_M_area) 85 = .ok (.ldc2_w 337, 3) := by decide +kernel
theorem e_M_area_88 : decode (mB I_M_area) 88 = .ok (.ldiv, 1) := by decide +kernel
theorem e_M_area_89 : decode (mB I_M_area) 89 = .ok (.lreturn, 1) := by decide +kernel
theorem e_M_missIfDropped_0 : decode (mB I_M_missIfDropped) 0 = .ok (.aload_n 0, 1) := by decide +kernel
theorem e_M_missIfDropped_1 : decode (mB I_M_missIfDropped) 1 = .ok (.iload_n 1, 1) := by decide +kernel
theorem e_M_missIfDropped_2 : decode (mB I_M_missIfDropped) 2 = .ok (.invokevirtual 250, 3) := by decide +kernel
theorem e_M_missIfDropped_5 : decode (mB I_M_missIfDropped) 5 = .ok (.ifCond .ne 5, 3) := by decide +kernel
theorem e_M_missIfDropped_8 : decode (mB I_M_missIfDropped) 8 = .ok (.iconst (-1), 1) := by decide +kernel
theorem e_M_missIfDropped_9 : decode (mB I_M_missIfDropped) 9 = .ok (.ireturn, 1) := by decide +kernel
theorem e_M_missIfDropped_10 : decode (mB I_M_missIfDropped) 10 = .ok (.aload_n 0, 1) := by decide +kernel
theorem e_M_missIfDropped_11 : decode (mB I_M_missIfDropped) 11 = .ok (.iload_n 1, 1) := by decide +kernel
theorem e_M_missIfDropped_12 : decode (mB I_M_missIfDropped) 12 = .ok (.iconst 1, 1) := by decide +kernel
theorem e_M_missIfDropped_13 : decode (mB I_M_missIfDropped) 13 = .ok (.invokevirtual 253, 3) := by decide +kernel
theorem e_M_missIfDropped_16 : decode (mB I_M_missIfDropped) 16 = .ok (.istore_n 2, 1) := by decide +kernel
theorem e_M_missIfDropped_17 : decode (mB I_M_missIfDropped) 17 = .ok (.aload_n 0, 1) := by decide +kernel
theorem e_M_missIfDropped_18 : decode (mB I_M_missIfDropped) 18 = .ok (.invokevirtual 321, 3) := by decide +kernel
theorem e_M_missIfDropped_21 : decode (mB I_M_missIfDropped) 21 = .ok (.istore_n 3, 1) := by decide +kernel
theorem e_M_missIfDropped_22 : decode (mB I_M_missIfDropped) 22 = .ok (.aload_n 0, 1) := by decide +kernel
theorem e_M_missIfDropped_23 : decode (mB I_M_missIfDropped) 23 = .ok (.iload_n 1, 1) := by decide +kernel
theorem e_M_missIfDropped_24 : decode (mB I_M_missIfDropped) 24 = .ok (.iconst (-1), 1) := by decide +kernel
theorem e_M_missIfDropped_25 : decode (mB I_M_missIfDropped) 25 = .ok (.invokevirtual 253, 3) := by decide +kernel
theorem e_M_missIfDropped_28 : decode (mB I_M_missIfDropped) 28 = .ok (.istore_n 2, 1) := by decide +kernel
theorem e_M_missIfDropped_29 : decode (mB I_M_missIfDropped) 29 = .ok (.iload_n 3, 1) := by decide +kernel
theorem e_M_missIfDropped_30 : decode (mB I_M_missIfDropped) 30 = .ok (.ireturn, 1) := by decide +kernel
theorem e_M_misclosureIfDropped_0 : decode (mB I_M_misclosureIfDropped) 0 = .ok (.aload_n 0, 1) := by decide +kernel
theorem e_M_misclosureIfDropped_1 : decode (mB I_M_misclosureIfDropped) 1 = .ok (.iload_n 1, 1) := by decide +kernel
theorem e_M_misclosureIfDropped_2 : decode (mB I_M_misclosureIfDropped) 2 = .ok (.invokevirtual 309, 3) := by decide +kernel
theorem e_M_misclosureIfDropped_5 : decode (mB I_M_misclosureIfDropped) 5 = .ok (.ifCond .eq 7, 3) := by decide +kernel
theorem e_M_misclosureIfDropped_8 : decode (mB I_M_misclosureIfDropped) 8 = .ok (.iconst 0, 1) := by decide +kernel
theorem e_M_misclosureIfDropped_9 : decode (mB I_M_misclosureIfDropped) 9 = .ok (.goto 8, 3) := by decide +kernel
theorem e_M_misclosureIfDropped_12 : decode (mB I_M_misclosureIfDropped) 12 = .ok (.aload_n 0, 1) := by decide +kernel
theorem e_M_misclosureIfDropped_13 : decode (mB I_M_misclosureIfDropped) 13 = .ok (.iload_n 1, 1) := by decide +kernel
theorem e_M_misclosureIfDropped_14 : decode (mB I_M_misclosureIfDropped) 14 = .ok (.invokevirtual 339, 3) := by decide +kernel
theorem e_M_misclosureIfDropped_17 : decode (mB I_M_misclosureIfDropped) 17 = .ok (.ireturn, 1) := by decide +kernel
theorem e_M_suspectLeg_0 : decode (mB I_M_suspectLeg) 0 = .ok (.aload_n 0, 1) := by decide +kernel
theorem e_M_suspectLeg_1 : decode (mB I_M_suspectLeg) 1 = .ok (.iconst 0, 1) := by decide +kernel
theorem e_M_suspectLeg_2 : decode (mB I_M_suspectLeg) 2 = .ok (.putfield 79, 3) := by decide +kernel
theorem e_M_suspectLeg_5 : decode (mB I_M_suspectLeg) 5 = .ok (.iconst (-1), 1) := by decide +kernel
theorem e_M_suspectLeg_6 : decode (mB I_M_suspectLeg) 6 = .ok (.istore_n 1, 1) := by decide +kernel
theorem e_M_suspectLeg_7 : decode (mB I_M_suspectLeg) 7 = .ok (.aload_n 0, 1) := by decide +kernel
theorem e_M_suspectLeg_8 : decode (mB I_M_suspectLeg) 8 = .ok (.invokevirtual 321, 3) := by decide +kernel
theorem e_M_suspectLeg_11 : decode (mB I_M_suspectLeg) 11 = .ok (.istore_n 2, 1) := by decide +kernel
theorem e_M_suspectLeg_12 : decode (mB I_M_suspectLeg) 12 = .ok (.iconst 0, 1) := by decide +kernel
theorem e_M_suspectLeg_13 : decode (mB I_M_suspectLeg) 13 = .ok (.istore_n 3, 1) := by decide +kernel
theorem e_M_suspectLeg_14 : decode (mB I_M_suspectLeg) 14 = .ok (.iload_n 3, 1) := by decide +kernel
theorem e_M_suspectLeg_15 : decode (mB I_M_suspectLeg) 15 = .ok (.aload_n 0, 1) := by decide +kernel
theorem e_M_suspectLeg_16 : decode (mB I_M_suspectLeg) 16 = .ok (.getfield 9, 3) := by decide +kernel
theorem e_M_suspectLeg_19 : decode (mB I_M_suspectLeg) 19 = .ok (.iconst 0, 1) := by decide +kernel
theorem e_M_suspectLeg_20 : decode (mB I_M_suspectLeg) 20 = .ok (.iaload, 1) := by decide +kernel
theorem e_M_suspectLeg_21 : decode (mB I_M_suspectLeg) 21 = .ok (.if_icmp .ge 36, 3) := by decide +kernel
theorem e_M_suspectLeg_24 : decode (mB I_M_suspectLeg) 24 = .ok (.aload_n 0, 1) := by decide +kernel
theorem e_M_suspectLeg_25 : decode (mB I_M_suspectLeg) 25 = .ok (.iload_n 3, 1) := by decide +kernel
theorem e_M_suspectLeg_26 : decode (mB I_M_suspectLeg) 26 = .ok (.invokevirtual 339, 3) := by decide +kernel
theorem e_M_suspectLeg_29 : decode (mB I_M_suspectLeg) 29 = .ok (.istore 4, 2) := by decide +kernel
theorem e_M_suspectLeg_31 : decode (mB I_M_suspectLeg) 31 = .ok (.iload 4, 2) := by decide +kernel
theorem e_M_suspectLeg_33 : decode (mB I_M_suspectLeg) 33 = .ok (.iconst (-1), 1) := by decide +kernel
theorem e_M_suspectLeg_34 : decode (mB I_M_suspectLeg) 34 = .ok (.if_icmp .eq 17, 3) := by decide +kernel
theorem e_M_suspectLeg_37 : decode (mB I_M_suspectLeg) 37 = .ok (.iload 4, 2) := by decide +kernel
theorem e_M_suspectLeg_39 : decode (mB I_M_suspectLeg) 39 = .ok (.iload_n 2, 1) := by decide +kernel
theorem e_M_suspectLeg_40 : decode (mB I_M_suspectLeg) 40 = .ok (.if_icmp .lt 6, 3) := by decide +kernel
theorem e_M_suspectLeg_43 : decode (mB I_M_suspectLeg) 43 = .ok (.goto 8, 3) := by decide +kernel
theorem e_M_suspectLeg_46 : decode (mB I_M_suspectLeg) 46 = .ok (.iload_n 3, 1) := by decide +kernel
theorem e_M_suspectLeg_47 : decode (mB I_M_suspectLeg) 47 = .ok (.istore_n 1, 1) := by decide +kernel
theorem e_M_suspectLeg_48 : decode (mB I_M_suspectLeg) 48 = .ok (.iload 4, 2) := by decide +kernel
theorem e_M_suspectLeg_50 : decode (mB I_M_suspectLeg) 50 = .ok (.istore_n 2, 1) := by decide +kernel
theorem e_M_suspectLeg_51 : decode (mB I_M_suspectLeg) 51 = .ok (.iinc 3 1, 3) := by decide +kernel
theorem e_M_suspectLeg_54 : decode (mB I_M_suspectLeg) 54 = .ok (.goto (-40), 3) := by decide +kernel
theorem e_M_suspectLeg_57 : decode (mB I_M_suspectLeg) 57 = .ok (.iload_n 1, 1) := by decide +kernel
theorem e_M_suspectLeg_58 : decode (mB I_M_suspectLeg) 58 = .ok (.ireturn, 1) := by decide +kernel
theorem e_M_bestPace_0 : decode (mB I_M_bestPace) 0 = .ok (.aload_n 0, 1) := by decide +kernel
theorem e_M_bestPace_1 : decode (mB I_M_bestPace) 1 = .ok (.iconst 0, 1) := by decide +kernel
theorem e_M_bestPace_2 : decode (mB I_M_bestPace) 2 = .ok (.putfield 79, 3) := by decide +kernel
theorem e_M_bestPace_5 : decode (mB I_M_bestPace) 5 = .ok (.iconst 0, 1) := by decide +kernel
theorem e_M_bestPace_6 : decode (mB I_M_bestPace) 6 = .ok (.istore_n 1, 1) := by decide +kernel
theorem e_M_bestPace_7 : decode (mB I_M_bestPace) 7 = .ok (.iconst 0, 1) := by decide +kernel
theorem e_M_bestPace_8 : decode (mB I_M_bestPace) 8 = .ok (.istore_n 2, 1) := by decide +kernel
theorem e_M_bestPace_9 : decode (mB I_M_bestPace) 9 = .ok (.iload_n 2, 1) := by decide +kernel
theorem e_M_bestPace_10 : decode (mB I_M_bestPace) 10 = .ok (.aload_n 0, 1) := by decide +kernel
theorem e_M_bestPace_11 : decode (mB I_M_bestPace) 11 = .ok (.getfield 9, 3) := by decide +kernel
theorem e_M_bestPace_14 : decode (mB I_M_bestPace) 14 = .ok (.iconst 0, 1) := by decide +kernel
theorem e_M_bestPace_15 : decode (mB I_M_bestPace) 15 = .ok (.iaload, 1) := by decide +kernel
theorem e_M_bestPace_16 : decode (mB I_M_bestPace) 16 = .ok (.if_icmp .ge 17, 3) := by decide +kernel
theorem e_M_bestPace_19 : decode (mB I_M_bestPace) 19 = .ok (.iload_n 1, 1) := by decide +kernel
theorem e_M_bestPace_20 : decode (mB I_M_bestPace) 20 = .ok (.aload_n 0, 1) := by decide +kernel
theorem e_M_bestPace_21 : decode (mB I_M_bestPace) 21 = .ok (.iload_n 2, 1) := by decide +kernel
theorem e_M_bestPace_22 : decode (mB I_M_bestPace) 22 = .ok (.invokevirtual 102, 3) := by decide +kernel
theorem e_M_bestPace_25 : decode (mB I_M_bestPace) 25 = .ok (.ior, 1) := by decide +kernel
theorem e_M_bestPace_26 : decode (mB I_M_bestPace) 26 = .ok (.istore_n 1, 1) := by decide +kernel
theorem e_M_bestPace_27 : decode (mB I_M_bestPace) 27 = .ok (.iinc 2 1, 3) := by decide +kernel
theorem e_M_bestPace_30 : decode (mB I_M_bestPace) 30 = .ok (.goto (-21), 3) := by decide +kernel
theorem e_M_bestPace_33 : decode (mB I_M_bestPace) 33 = .ok (.iload_n 1, 1) := by decide +kernel
theorem e_M_bestPace_34 : decode (mB I_M_bestPace) 34 = .ok (.ifCond .ne 5, 3) := by decide +kernel
theorem e_M_bestPace_37 : decode (mB I_M_bestPace) 37 = .ok (.iconst (-1), 1) := by decide +kernel
theorem e_M_bestPace_38 : decode (mB I_M_bestPace) 38 = .ok (.ireturn, 1) := by decide +kernel
theorem e_M_bestPace_39 : decode (mB I_M_bestPace) 39 = .ok (.aload_n 0, 1) := by decide +kernel
theorem e_M_bestPace_40 : decode (mB I_M_bestPace) 40 = .ok (.getfield 9, 3) := by decide +kernel
theorem e_M_bestPace_43 : decode (mB I_M_bestPace) 43 = .ok (.iconst 2, 1) := by decide +kernel
theorem e_M_bestPace_44 : decode (mB I_M_bestPace) 44 = .ok (.iaload, 1) := by decide +kernel
theorem e_M_bestPace_45 : decode (mB I_M_bestPace) 45 = .ok (.istore_n 2, 1) := by decide +kernel
theorem e_M_bestPace_46 : decode (mB I_M_bestPace) 46 = .ok (.iconst (-1), 1) := by decide +kernel
theorem e_M_bestPace_47 : decode (mB I_M_bestPace) 47 = .ok (.istore_n 3, 1) := by decide +kernel
theorem e_M_bestPace_48 : decode (mB I_M_bestPace) 48 = .ok (.iconst 0, 1) := by decide +kernel
theorem e_M_bestPace_49 : decode (mB I_M_bestPace) 49 = .ok (.istore 4, 2) := by decide +kernel
theorem e_M_bestPace_51 : decode (mB I_M_bestPace) 51 = .ok (.bipush 100, 2) := by decide +kernel
theorem e_M_bestPace_53 : decode (mB I_M_bestPace) 53 = .ok (.istore 5, 2) := by decide +kernel
theorem e_M_bestPace_55 : decode (mB I_M_bestPace) 55 = .ok (.iload 5, 2) := by decide +kernel
theorem e_M_bestPace_57 : decode (mB I_M_bestPace) 57 = .ok (.sipush 999, 3) := by decide +kernel
theorem e_M_bestPace_60 : decode (mB I_M_bestPace) 60 = .ok (.if_icmp .gt 45, 3) := by decide +kernel
theorem e_M_bestPace_63 : decode (mB I_M_bestPace) 63 = .ok (.aload_n 0, 1) := by decide +kernel
theorem e_M_bestPace_64 : decode (mB I_M_bestPace) 64 = .ok (.getfield 9, 3) := by decide +kernel
theorem e_M_bestPace_67 : decode (mB I_M_bestPace) 67 = .ok (.iconst 2, 1) := by decide +kernel
theorem e_M_bestPace_68 : decode (mB I_M_bestPace) 68 = .ok (.iload 5, 2) := by decide +kernel
theorem e_M_bestPace_70 : decode (mB I_M_bestPace) 70 = .ok (.iastore, 1) := by decide +kernel
theorem e_M_bestPace_71 : decode (mB I_M_bestPace) 71 = .ok (.aload_n 0, 1) := by decide +kernel
theorem e_M_bestPace_72 : decode (mB I_M_bestPace) 72 = .ok (.invokevirtual 321, 3) := by decide +kernel
theorem e_M_bestPace_75 : decode (mB I_M_bestPace) 75 = .ok (.istore 6, 2) := by decide +kernel
theorem e_M_bestPace_77 : decode (mB I_M_bestPace) 77 = .ok (.iload_n 3, 1) := by decide +kernel
theorem e_M_bestPace_78 : decode (mB I_M_bestPace) 78 = .ok (.iconst (-1), 1) := by decide +kernel
theorem e_M_bestPace_79 : decode (mB I_M_bestPace) 79 = .ok (.if_icmp .eq 13, 3) := by decide +kernel
theorem e_M_bestPace_82 : decode (mB I_M_bestPace) 82 = .ok (.iload 6, 2) := by decide +kernel
theorem e_M_bestPace_84 : decode (mB I_M_bestPace) 84 = .ok (.iload 4, 2) := by decide +kernel
theorem e_M_bestPace_86 : decode (mB I_M_bestPace) 86 = .ok (.if_icmp .lt 6, 3) := by decide +kernel
theorem e_M_bestPace_89 : decode (mB I_M_bestPace) 89 = .ok (.goto 10, 3) := by decide +kernel
theorem e_M_bestPace_92 : decode (mB I_M_bestPace) 92 = .ok (.iload 5, 2) := by decide +kernel
theorem e_M_bestPace_94 : decode (mB I_M_bestPace) 94 = .ok (.istore_n 3, 1) := by decide +kernel
theorem e_M_bestPace_95 : decode (mB I_M_bestPace) 95 = .ok (.iload 6, 2) := by decide +kernel
theorem e_M_bestPace_97 : decode (mB I_M_bestPace) 97 = .ok (.istore 4, 2) := by decide +kernel
theorem e_M_bestPace_99 : decode (mB I_M_bestPace) 99 = .ok (.iinc 5 1, 3) := by decide +kernel
theorem e_M_bestPace_102 : decode (mB I_M_bestPace) 102 = .ok (.goto (-47), 3) := by decide +kernel
theorem e_M_bestPace_105 : decode (mB I_M_bestPace) 105 = .ok (.aload_n 0, 1) := by decide +kernel
theorem e_M_bestPace_106 : decode (mB I_M_bestPace) 106 = .ok (.getfield 9, 3) := by decide +kernel
theorem e_M_bestPace_109 : decode (mB I_M_bestPace) 109 = .ok (.iconst 2, 1) := by decide +kernel
theorem e_M_bestPace_110 : decode (mB I_M_bestPace) 110 = .ok (.iload_n 2, 1) := by decide +kernel
theorem e_M_bestPace_111 : decode (mB I_M_bestPace) 111 = .ok (.iastore, 1) := by decide +kernel
theorem e_M_bestPace_112 : decode (mB I_M_bestPace) 112 = .ok (.iload_n 3, 1) := by decide +kernel
theorem e_M_bestPace_113 : decode (mB I_M_bestPace) 113 = .ok (.ireturn, 1) := by decide +kernel
theorem e_M_inconsistencies_0 : decode (mB I_M_inconsistencies) 0 = .ok (.aload_n 0, 1) := by decide +kernel
theorem e_M_inconsistencies_1 : decode (mB I_M_inconsistencies) 1 = .ok (.iconst 0, 1) := by decide +kernel
theorem e_M_inconsistencies_2 : decode (mB I_M_inconsistencies) 2 = .ok (.putfield 79, 3) := by decide +kernel
theorem e_M_inconsistencies_5 : decode (mB I_M_inconsistencies) 5 = .ok (.aload_n 0, 1) := by decide +kernel
theorem e_M_inconsistencies_6 : decode (mB I_M_inconsistencies) 6 = .ok (.invokevirtual 315, 3) := by decide +kernel
theorem e_M_inconsistencies_9 : decode (mB I_M_inconsistencies) 9 = .ok (.iconst 0, 1) := by decide +kernel
theorem e_M_inconsistencies_10 : decode (mB I_M_inconsistencies) 10 = .ok (.istore_n 1, 1) := by decide +kernel
theorem e_M_inconsistencies_11 : decode (mB I_M_inconsistencies) 11 = .ok (.aload_n 0, 1) := by decide +kernel
theorem e_M_inconsistencies_12 : decode (mB I_M_inconsistencies) 12 = .ok (.getfield 9, 3) := by decide +kernel
theorem e_M_inconsistencies_15 : decode (mB I_M_inconsistencies) 15 = .ok (.iconst 3, 1) := by decide +kernel
theorem e_M_inconsistencies_16 : decode (mB I_M_inconsistencies) 16 = .ok (.iaload, 1) := by decide +kernel
theorem e_M_inconsistencies_17 : decode (mB I_M_inconsistencies) 17 = .ok (.iconst 1, 1) := by decide +kernel
theorem e_M_inconsistencies_18 : decode (mB I_M_inconsistencies) 18 = .ok (.if_icmp .ne 44, 3) := by decide +kernel
theorem e_M_inconsistencies_21 : decode (mB I_M_inconsistencies) 21 = .ok (.aload_n 0, 1) := by decide +kernel
theorem e_M_inconsistencies_22 : decode (mB I_M_inconsistencies) 22 = .ok (.invokevirtual 138, 3) := by decide +kernel
theorem e_M_inconsistencies_25 : decode (mB I_M_inconsistencies) 25 = .ok (.ifCond .le 37, 3) := by decide +kernel
theorem e_M_inconsistencies_28 : decode (mB I_M_inconsistencies) 28 = .ok (.aload_n 0, 1) := by decide +kernel
theorem e_M_inconsistencies_29 : decode (mB I_M_inconsistencies) 29 = .ok (.getfield 35, 3) := by decide +kernel
theorem e_M_inconsistencies_32 : decode (mB I_M_inconsistencies) 32 = .ok (.aload_n 0, 1) := by decide +kernel
theorem e_M_inconsistencies_33 : decode (mB I_M_inconsistencies) 33 = .ok (.getfield 9, 3) := by decide +kernel
theorem e_M_inconsistencies_36 : decode (mB I_M_inconsistencies) 36 = .ok (.iconst 0, 1) := by decide +kernel
theorem e_M_inconsistencies_37 : decode (mB I_M_inconsistencies) 37 = .ok (.iaload, 1) := by decide +kernel
theorem e_M_inconsistencies_38 : decode (mB I_M_inconsistencies) 38 = .ok (.iaload, 1) := by decide +kernel
theorem e_M_inconsistencies_39 : decode (mB I_M_inconsistencies) 39 = .ok (.ifCond .eq 6, 3) := by decide +kernel
theorem e_M_inconsistencies_42 : decode (mB I_M_inconsistencies) 42 = .ok (.iinc 1 1, 3) := by decide +kernel
theorem e_M_inconsistencies_45 : decode (mB I_M_inconsistencies) 45 = .ok (.aload_n 0, 1) := by decide +kernel
theorem e_M_inconsistencies_46 : decode (mB I_M_inconsistencies) 46 = .ok (.getfield 38, 3) := by decide +kernel
theorem e_M_inconsistencies_49 : decode (mB I_M_inconsistencies) 49 = .ok (.aload_n 0, 1) := by decide +kernel
theorem e_M_inconsistencies_50 : decode (mB I_M_inconsistencies) 50 = .ok (.getfield 9, 3) := by decide +kernel
theorem e_M_inconsistencies_53 : decode (mB I_M_inconsistencies) 53 = .ok (.iconst 0, 1) := by decide +kernel
theorem e_M_inconsistencies_54 : decode (mB I_M_inconsistencies) 54 = .ok (.iaload, 1) := by decide +kernel
theorem e_M_inconsistencies_55 : decode (mB I_M_inconsistencies) 55 = .ok (.iaload, 1) := by decide +kernel
theorem e_M_inconsistencies_56 : decode (mB I_M_inconsistencies) 56 = .ok (.ifCond .eq 6, 3) := by decide +kernel
theorem e_M_inconsistencies_59 : decode (mB I_M_inconsistencies) 59 = .ok (.iinc 1 1, 3) := by decide +kernel
theorem e_M_inconsistencies_62 : decode (mB I_M_inconsistencies) 62 = .ok (.iconst 0, 1) := by decide +kernel
theorem e_M_inconsistencies_63 : decode (mB I_M_inconsistencies) 63 = .ok (.istore_n 2, 1) := by decide +kernel
theorem e_M_inconsistencies_64 : decode (mB I_M_inconsistencies) 64 = .ok (.iload_n 2, 1) := by decide +kernel
theorem e_M_inconsistencies_65 : decode (mB I_M_inconsistencies) 65 = .ok (.aload_n 0, 1) := by decide +kernel
theorem e_M_inconsistencies_66 : decode (mB I_M_inconsistencies) 66 = .ok (.getfield 9, 3) := by decide +kernel
theorem e_M_inconsistencies_69 : decode (mB I_M_inconsistencies) 69 = .ok (.iconst 0, 1) := by decide +kernel
theorem e_M_inconsistencies_70 : decode (mB I_M_inconsistencies) 70 = .ok (.iaload, 1) := by decide +kernel
theorem e_M_inconsistencies_71 : decode (mB I_M_inconsistencies) 71 = .ok (.if_icmp .ge 25, 3) := by decide +kernel
theorem e_M_inconsistencies_74 : decode (mB I_M_inconsistencies) 74 = .ok (.aload_n 0, 1) := by decide +kernel
theorem e_M_inconsistencies_75 : decode (mB I_M_inconsistencies) 75 = .ok (.iload_n 2, 1) := by decide +kernel
theorem e_M_inconsistencies_76 : decode (mB I_M_inconsistencies) 76 = .ok (.invokevirtual 125, 3) := by decide +kernel
theorem e_M_inconsistencies_79 : decode (mB I_M_inconsistencies) 79 = .ok (.aload_n 0, 1) := by decide +kernel
theorem e_M_inconsistencies_80 : decode (mB I_M_inconsistencies) 80 = .ok (.iload_n 2, 1) := by decide +kernel
theorem e_M_inconsistencies_81 : decode (mB I_M_inconsistencies) 81 = .ok (.invokevirtual 116, 3) := by decide +kernel
theorem e_M_inconsistencies_84 : decode (mB I_M_inconsistencies) 84 = .ok (.if_icmp .le 6, 3) := by decide +kernel
theorem e_M_inconsistencies_87 : decode (mB I_M_inconsistencies) 87 = .ok (.iinc 1 1, 3) := by decide +kernel
theorem e_M_inconsistencies_90 : decode (mB I_M_inconsistencies) 90 = .ok (.iinc 2 1, 3) := by decide +kernel
theorem e_M_inconsistencies_93 : decode (mB I_M_inconsistencies) 93 = .ok (.goto (-29), 3) := by decide +kernel
theorem e_M_inconsistencies_96 : decode (mB I_M_inconsistencies) 96 = .ok (.iload_n 1, 1) := by decide +kernel
theorem e_M_inconsistencies_97 : decode (mB I_M_inconsistencies) 97 = .ok (.ireturn, 1) := by decide +kernel
theorem e_M_meanLeg_0 : decode (mB I_M_meanLeg) 0 = .ok (.aload_n 0, 1) := by decide +kernel
theorem e_M_meanLeg_1 : decode (mB I_M_meanLeg) 1 = .ok (.iconst 0, 1) := by decide +kernel
theorem e_M_meanLeg_2 : decode (mB I_M_meanLeg) 2 = .ok (.putfield 79, 3) := by decide +kernel
theorem e_M_meanLeg_5 : decode (mB I_M_meanLeg) 5 = .ok (.aload_n 0, 1) := by decide +kernel
theorem e_M_meanLeg_6 : decode (mB I_M_meanLeg) 6 = .ok (.getfield 9, 3) := by decide +kernel
theorem e_M_meanLeg_9 : decode (mB I_M_meanLeg) 9 = .ok (.iconst 0, 1) := by decide +kernel
theorem e_M_meanLeg_10 : decode (mB I_M_meanLeg) 10 = .ok (.iaload, 1) := by decide +kernel
theorem e_M_meanLeg_11 : decode (mB I_M_meanLeg) 11 = .ok (.ifCond .ne 7, 3) := by decide +kernel
theorem e_M_meanLeg_14 : decode (mB I_M_meanLeg) 14 = .ok (.dconst 0, 1) := by decide +kernel
theorem e_M_meanLeg_15 : decode (mB I_M_meanLeg) 15 = .ok (.goto 16, 3) := by decide +kernel
theorem e_M_meanLeg_18 : decode (mB I_M_meanLeg) 18 = .ok (.aload_n 0, 1) := by decide +kernel
theorem e_M_meanLeg_19 : decode (mB I_M_meanLeg) 19 = .ok (.invokevirtual 318, 3) := by decide +kernel
theorem e_M_meanLeg_22 : decode (mB I_M_meanLeg) 22 = .ok (.i2d, 1) := by decide +kernel
theorem e_M_meanLeg_23 : decode (mB I_M_meanLeg) 23 = .ok (.aload_n 0, 1) := by decide +kernel
theorem e_M_meanLeg_24 : decode (mB I_M_meanLeg) 24 = .ok (.getfield 9, 3) := by decide +kernel
theorem e_M_meanLeg_27 : decode (mB I_M_meanLeg) 27 = .ok (.iconst 0, 1) := by decide +kernel
theorem e_M_meanLeg_28 : decode (mB I_M_meanLeg) 28 = .ok (.iaload, 1) := by decide +kernel
theorem e_M_meanLeg_29 : decode (mB I_M_meanLeg) 29 = .ok (.i2d, 1) := by decide +kernel
theorem e_M_meanLeg_30 : decode (mB I_M_meanLeg) 30 = .ok (.ddiv, 1) := by decide +kernel
theorem e_M_meanLeg_31 : decode (mB I_M_meanLeg) 31 = .ok (.dreturn, 1) := by decide +kernel
theorem e_M_bogShare_0 : decode (mB I_M_bogShare) 0 = .ok (.aload_n 0, 1) := by decide +kernel
theorem e_M_bogShare_1 : decode (mB I_M_bogShare) 1 = .ok (.iconst 0, 1) := by decide +kernel
theorem e_M_bogShare_2 : decode (mB I_M_bogShare) 2 = .ok (.putfield 79, 3) := by decide +kernel
theorem e_M_bogShare_5 : decode (mB I_M_bogShare) 5 = .ok (.aload_n 0, 1) := by decide +kernel
theorem e_M_bogShare_6 : decode (mB I_M_bogShare) 6 = .ok (.invokevirtual 318, 3) := by decide +kernel
theorem e_M_bogShare_9 : decode (mB I_M_bogShare) 9 = .ok (.istore_n 1, 1) := by decide +kernel
theorem e_M_bogShare_10 : decode (mB I_M_bogShare) 10 = .ok (.iload_n 1, 1) := by decide +kernel
theorem e_M_bogShare_11 : decode (mB I_M_bogShare) 11 = .ok (.ifCond .ne 7, 3) := by decide +kernel
theorem e_M_bogShare_14 : decode (mB I_M_bogShare) 14 = .ok (.fconst 0, 1) := by decide +kernel
theorem e_M_bogShare_15 : decode (mB I_M_bogShare) 15 = .ok (.goto 11, 3) := by decide +kernel
theorem e_M_bogShare_18 : decode (mB I_M_bogShare) 18 = .ok (.aload_n 0, 1) := by decide +kernel
theorem e_M_bogShare_19 : decode (mB I_M_bogShare) 19 = .ok (.invokevirtual 331, 3) := by decide +kernel
theorem e_M_bogShare_22 : decode (mB I_M_bogShare) 22 = .ok (.i2f, 1) := by decide +kernel
theorem e_M_bogShare_23 : decode (mB I_M_bogShare) 23 = .ok (.iload_n 1, 1) := by decide +kernel
theorem e_M_bogShare_24 : decode (mB I_M_bogShare) 24 = .ok (.i2f, 1) := by decide +kernel
theorem e_M_bogShare_25 : decode (mB I_M_bogShare) 25 = .ok (.fdiv, 1) := by decide +kernel
theorem e_M_bogShare_26 : decode (mB I_M_bogShare) 26 = .ok (.freturn, 1) := by decide +kernel
theorem e_M_out_0 : decode (mB I_M_out) 0 = .ok (.aload_n 0, 1) := by decide +kernel
theorem e_M_out_1 : decode (mB I_M_out) 1 = .ok (.getfield 32, 3) := by decide +kernel
theorem e_M_out_4 : decode (mB I_M_out) 4 = .ok (.aload_n 0, 1) := by decide +kernel
theorem e_M_out_5 : decode (mB I_M_out) 5 = .ok (.getfield 342, 3) := by decide +kernel
theorem e_M_out_8 : decode (mB I_M_out) 8 = .ok (.iload_n 1, 1) := by decide +kernel
theorem e_M_out_9 : decode (mB I_M_out) 9 = .ok (.iastore, 1) := by decide +kernel
theorem e_M_out_10 : decode (mB I_M_out) 10 = .ok (.aload_n 0, 1) := by decide +kernel
theorem e_M_out_11 : decode (mB I_M_out) 11 = .ok (.dup, 1) := by decide +kernel
theorem e_M_out_12 : decode (mB I_M_out) 12 = .ok (.getfield 342, 3) := by decide +kernel
theorem e_M_out_15 : decode (mB I_M_out) 15 = .ok (.iconst 1, 1) := by decide +kernel
theorem e_M_out_16 : decode (mB I_M_out) 16 = .ok (.iadd, 1) := by decide +kernel
theorem e_M_out_17 : decode (mB I_M_out) 17 = .ok (.putfield 342, 3) := by decide +kernel
theorem e_M_out_20 : decode (mB I_M_out) 20 = .ok (.return_, 1) := by decide +kernel
theorem e_M_outNumber_0 : decode (mB I_M_outNumber) 0 = .ok (.iload_n 1, 1) := by decide +kernel
theorem e_M_outNumber_1 : decode (mB I_M_outNumber) 1 = .ok (.ifCond .ge 9, 3) := by decide +kernel
theorem e_M_outNumber_4 : decode (mB I_M_outNumber) 4 = .ok (.aload_n 0, 1) := by decide +kernel
theorem e_M_outNumber_5 : decode (mB I_M_outNumber) 5 = .ok (.bipush 45, 2) := by decide +kernel
theorem e_M_outNumber_7 : decode (mB I_M_outNumber) 7 = .ok (.invokevirtual 345, 3) := by decide +kernel
theorem e_M_outNumber_10 : decode (mB I_M_outNumber) 10 = .ok (.iload_n 1, 1) := by decide +kernel
theorem e_M_outNumber_11 : decode (mB I_M_outNumber) 11 = .ok (.invokestatic 348, 3) := by decide +kernel
theorem e_M_outNumber_14 : decode (mB I_M_outNumber) 14 = .ok (.istore_n 2, 1) := by decide +kernel
theorem e_M_outNumber_15 : decode (mB I_M_outNumber) 15 = .ok (.iconst 1, 1) := by decide +kernel
theorem e_M_outNumber_16 : decode (mB I_M_outNumber) 16 = .ok (.istore_n 3, 1) := by decide +kernel
theorem e_M_outNumber_17 : decode (mB I_M_outNumber) 17 = .ok (.iload_n 2, 1) := by decide +kernel
theorem e_M_outNumber_18 : decode (mB I_M_outNumber) 18 = .ok (.iload_n 3, 1) := by decide +kernel
theorem e_M_outNumber_19 : decode (mB I_M_outNumber) 19 = .ok (.idiv, 1) := by decide +kernel
theorem e_M_outNumber_20 : decode (mB I_M_outNumber) 20 = .ok (.bipush 9, 2) := by decide +kernel
theorem e_M_outNumber_22 : decode (mB I_M_outNumber) 22 = .ok (.if_icmp .le 11, 3) := by decide +kernel
theorem e_M_outNumber_25 : decode (mB I_M_outNumber) 25 = .ok (.iload_n 3, 1) := by decide +kernel
theorem e_M_outNumber_26 : decode (mB I_M_outNumber) 26 = .ok (.bipush 10, 2) := by decide +kernel
theorem e_M_outNumber_28 : decode (mB I_M_outNumber) 28 = .ok (.imul, 1) := by decide +kernel
theorem e_M_outNumber_29 : decode (mB I_M_outNumber) 29 = .ok (.istore_n 3, 1) := by decide +kernel
theorem e_M_outNumber_30 : decode (mB I_M_outNumber) 30 = .ok (.goto (-13), 3) := by decide +kernel
theorem e_M_outNumber_33 : decode (mB I_M_outNumber) 33 = .ok (.iload_n 3, 1) := by decide +kernel
theorem e_M_outNumber_34 : decode (mB I_M_outNumber) 34 = .ok (.ifCond .le 24, 3) := by decide +kernel
theorem e_M_outNumber_37 : decode (mB I_M_outNumber) 37 = .ok (.aload_n 0, 1) := by decide +kernel
theorem e_M_outNumber_38 : decode (mB I_M_outNumber) 38 = .ok (.bipush 48, 2) := by decide +kernel
theorem e_M_outNumber_40 : decode (mB I_M_outNumber) 40 = .ok (.iload_n 2, 1) := by decide +kernel
theorem e_M_outNumber_41 : decode (mB I_M_outNumber) 41 = .ok (.iload_n 3, 1) := by decide +kernel
theorem e_M_outNumber_42 : decode (mB I_M_outNumber) 42 = .ok (.idiv, 1) := by decide +kernel
theorem e_M_outNumber_43 : decode (mB I_M_outNumber) 43 = .ok (.bipush 10, 2) := by decide +kernel
theorem e_M_outNumber_45 : decode (mB I_M_outNumber) 45 = .ok (.irem, 1) := by decide +kernel
theorem e_M_outNumber_46 : decode (mB I_M_outNumber) 46 = .ok (.iadd, 1) := by decide +kernel
theorem e_M_outNumber_47 : decode (mB I_M_outNumber) 47 = .ok (.invokevirtual 345, 3) := by decide +kernel
theorem e_M_outNumber_50 : decode (mB I_M_outNumber) 50 = .ok (.iload_n 3, 1) := by decide +kernel
theorem e_M_outNumber_51 : decode (mB I_M_outNumber) 51 = .ok (.bipush 10, 2) := by decide +kernel
theorem e_M_outNumber_53 : decode (mB I_M_outNumber) 53 = .ok (.idiv, 1) := by decide +kernel
theorem e_M_outNumber_54 : decode (mB I_M_outNumber) 54 = .ok (.istore_n 3, 1) := by decide +kernel
theorem e_M_outNumber_55 : decode (mB I_M_outNumber) 55 = .ok (.goto (-22), 3) := by decide +kernel
theorem e_M_outNumber_58 : decode (mB I_M_outNumber) 58 = .ok (.return_, 1) := by decide +kernel
theorem e_M_writeStations_0 : decode (mB I_M_writeStations) 0 = .ok (.aload_n 0, 1) := by decide +kernel
theorem e_M_writeStations_1 : decode (mB I_M_writeStations) 1 = .ok (.iconst 0, 1) := by decide +kernel
theorem e_M_writeStations_2 : decode (mB I_M_writeStations) 2 = .ok (.putfield 79, 3) := by decide +kernel
theorem e_M_writeStations_5 : decode (mB I_M_writeStations) 5 = .ok (.aload_n 0, 1) := by decide +kernel
theorem e_M_writeStations_6 : decode (mB I_M_writeStations) 6 = .ok (.invokevirtual 315, 3) := by decide +kernel
theorem e_M_writeStations_9 : decode (mB I_M_writeStations) 9 = .ok (.aload_n 0, 1) := by decide +kernel
theorem e_M_writeStations_10 : decode (mB I_M_writeStations) 10 = .ok (.iconst 0, 1) := by decide +kernel
theorem e_M_writeStations_11 : decode (mB I_M_writeStations) 11 = .ok (.putfield 342, 3) := by decide +kernel
theorem e_M_writeStations_14 : decode (mB I_M_writeStations) 14 = .ok (.iconst 0, 1) := by decide +kernel
theorem e_M_writeStations_15 : decode (mB I_M_writeStations) 15 = .ok (.istore_n 1, 1) := by decide +kernel
theorem e_M_writeStations_16 : decode (mB I_M_writeStations) 16 = .ok (.iload_n 1, 1) := by decide +kernel
theorem e_M_writeStations_17 : decode (mB I_M_writeStations) 17 = .ok (.aload_n 0, 1) := by decide +kernel
theorem e_M_writeStations_18 : decode (mB I_M_writeStations) 18 = .ok (.getfield 9, 3) := by decide +kernel
theorem e_M_writeStations_21 : decode (mB I_M_writeStations) 21 = .ok (.iconst 0, 1) := by decide +kernel
theorem e_M_writeStations_22 : decode (mB I_M_writeStations) 22 = .ok (.iaload, 1) := by decide +kernel
theorem e_M_writeStations_23 : decode (mB I_M_writeStations) 23 = .ok (.if_icmp .gt 45, 3) := by decide +kernel
theorem e_M_writeStations_26 : decode (mB I_M_writeStations) 26 = .ok (.iload_n 1, 1) := by decide +kernel
theorem e_M_writeStations_27 : decode (mB I_M_writeStations) 27 = .ok (.ifCond .le 9, 3) := by decide +kernel
theorem e_M_writeStations_30 : decode (mB I_M_writeStations) 30 = .ok (.aload_n 0, 1) := by decide +kernel
theorem e_M_writeStations_31 : decode (mB I_M_writeStations) 31 = .ok (.bipush 32, 2) := by decide +kernel
theorem e_M_writeStations_33 : decode (mB I_M_writeStations) 33 = .ok (.invokevirtual 345, 3) := by decide +kernel
theorem e_M_writeStations_36 : decode (mB I_M_writeStations) 36 = .ok (.aload_n 0, 1) := by decide +kernel
theorem e_M_writeStations_37 : decode (mB I_M_writeStations) 37 = .ok (.aload_n 0, 1) := by decide +kernel
theorem e_M_writeStations_38 : decode (mB I_M_writeStations) 38 = .ok (.getfield 35, 3) := by decide +kernel
theorem e_M_writeStations_41 : decode (mB I_M_writeStations) 41 = .ok (.iload_n 1, 1) := by decide +kernel
theorem e_M_writeStations_42 : decode (mB I_M_writeStations) 42 = .ok (.iaload, 1) := by decide +kernel
theorem e_M_writeStations_43 : decode (mB I_M_writeStations) 43 = .ok (.invokevirtual 350, 3) := by decide +kernel
theorem e_M_writeStations_46 : decode (mB I_M_writeStations) 46 = .ok (.aload_n 0, 1) := by decide +kernel
theorem e_M_writeStations_47 : decode (mB I_M_writeStations) 47 = .ok (.bipush 44, 2) := by decide +kernel
theorem e_M_writeStations_49 : decode (mB I_M_writeStations) 49 = .ok (.invokevirtual 345, 3) := by decide +kernel
theorem e_M_writeStations_52 : decode (mB I_M_writeStations) 52 = .ok (.aload_n 0, 1) := by decide +kernel
theorem e_M_writeStations_53 : decode (mB I_M_writeStations) 53 = .ok (.aload_n 0, 1) := by decide +kernel
theorem e_M_writeStations_54 : decode (mB I_M_writeStations) 54 = .ok (.getfield 38, 3) := by decide +kernel
theorem e_M_writeStations_57 : decode (mB I_M_writeStations) 57 = .ok (.iload_n 1, 1) := by decide +kernel
theorem e_M_writeStations_58 : decode (mB I_M_writeStations) 58 = .ok (.iaload, 1) := by decide +kernel
theorem e_M_writeStations_59 : decode (mB I_M_writeStations) 59 = .ok (.invokevirtual 350, 3) := by decide +kernel
theorem e_M_writeStations_62 : decode (mB I_M_writeStations) 62 = .ok (.iinc 1 1, 3) := by decide +kernel
theorem e_M_writeStations_65 : decode (mB I_M_writeStations) 65 = .ok (.goto (-49), 3) := by decide +kernel
theorem e_M_writeStations_68 : decode (mB I_M_writeStations) 68 = .ok (.aload_n 0, 1) := by decide +kernel
theorem e_M_writeStations_69 : decode (mB I_M_writeStations) 69 = .ok (.getfield 342, 3) := by decide +kernel
theorem e_M_writeStations_72 : decode (mB I_M_writeStations) 72 = .ok (.ireturn, 1) := by decide +kernel
theorem e_M_outputByte_0 : decode (mB I_M_outputByte) 0 = .ok (.aload_n 0, 1) := by decide +kernel
theorem e_M_outputByte_1 : decode (mB I_M_outputByte) 1 = .ok (.iconst 0, 1) := by decide +kernel
theorem e_M_outputByte_2 : decode (mB I_M_outputByte) 2 = .ok (.putfield 79, 3) := by decide +kernel
theorem e_M_outputByte_5 : decode (mB I_M_outputByte) 5 = .ok (.iload_n 1, 1) := by decide +kernel
theorem e_M_outputByte_6 : decode (mB I_M_outputByte) 6 = .ok (.iconst 0, 1) := by decide +kernel
theorem e_M_outputByte_7 : decode (mB I_M_outputByte) 7 = .ok (.aload_n 0, 1) := by decide +kernel
theorem e_M_outputByte_8 : decode (mB I_M_outputByte) 8 = .ok (.getfield 342, 3) := by decide +kernel
theorem e_M_outputByte_11 : decode (mB I_M_outputByte) 11 = .ok (.iconst 1, 1) := by decide +kernel
theorem e_M_outputByte_12 : decode (mB I_M_outputByte) 12 = .ok (.isub, 1) := by decide +kernel
theorem e_M_outputByte_13 : decode (mB I_M_outputByte) 13 = .ok (.invokestatic 92, 3) := by decide +kernel
theorem e_M_outputByte_16 : decode (mB I_M_outputByte) 16 = .ok (.ifCond .eq 12, 3) := by decide +kernel
theorem e_M_outputByte_19 : decode (mB I_M_outputByte) 19 = .ok (.aload_n 0, 1) := by decide +kernel
theorem e_M_outputByte_20 : decode (mB I_M_outputByte) 20 = .ok (.getfield 32, 3) := by decide +kernel
theorem e_M_outputByte_23 : decode (mB I_M_outputByte) 23 = .ok (.iload_n 1, 1) := by decide +kernel
theorem e_M_outputByte_24 : decode (mB I_M_outputByte) 24 = .ok (.iaload, 1) := by decide +kernel
theorem e_M_outputByte_25 : decode (mB I_M_outputByte) 25 = .ok (.goto 4, 3) := by decide +kernel
theorem e_M_outputByte_28 : decode (mB I_M_outputByte) 28 = .ok (.iconst (-1), 1) := by decide +kernel
theorem e_M_outputByte_29 : decode (mB I_M_outputByte) 29 = .ok (.ireturn, 1) := by decide +kernel
