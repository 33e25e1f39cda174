/-! decoded instructions -/
theorem e_I_begin_0 : decode (mB I_I_begin) 0 = .ok (.aload_n 0, 1) := by decide +kernel
theorem e_I_begin_1 : decode (mB I_I_begin) 1 = .ok (.iconst 0, 1) := by decide +kernel
theorem e_I_begin_2 : decode (mB I_I_begin) 2 = .ok (.putfield 29, 3) := by decide +kernel
theorem e_I_begin_5 : decode (mB I_I_begin) 5 = .ok (.aload_n 0, 1) := by decide +kernel
theorem e_I_begin_6 : decode (mB I_I_begin) 6 = .ok (.iconst (-1), 1) := by decide +kernel
theorem e_I_begin_7 : decode (mB I_I_begin) 7 = .ok (.putfield 25, 3) := by decide +kernel
theorem e_I_begin_10 : decode (mB I_I_begin) 10 = .ok (.aload_n 0, 1) := by decide +kernel
theorem e_I_begin_11 : decode (mB I_I_begin) 11 = .ok (.getfield 12, 3) := by decide +kernel
theorem e_I_begin_14 : decode (mB I_I_begin) 14 = .ok (.iload_n 1, 1) := by decide +kernel
theorem e_I_begin_15 : decode (mB I_I_begin) 15 = .ok (.invokevirtual 32, 3) := by decide +kernel
theorem e_I_begin_18 : decode (mB I_I_begin) 18 = .ok (.return_, 1) := by decide +kernel
theorem e_I_fail_0 : decode (mB I_I_fail) 0 = .ok (.aload_n 0, 1) := by decide +kernel
theorem e_I_fail_1 : decode (mB I_I_fail) 1 = .ok (.iload_n 1, 1) := by decide +kernel
theorem e_I_fail_2 : decode (mB I_I_fail) 2 = .ok (.putfield 29, 3) := by decide +kernel
theorem e_I_fail_5 : decode (mB I_I_fail) 5 = .ok (.aload_n 0, 1) := by decide +kernel
theorem e_I_fail_6 : decode (mB I_I_fail) 6 = .ok (.aload_n 0, 1) := by decide +kernel
theorem e_I_fail_7 : decode (mB I_I_fail) 7 = .ok (.getfield 12, 3) := by decide +kernel
theorem e_I_fail_10 : decode (mB I_I_fail) 10 = .ok (.getfield 36, 3) := by decide +kernel
theorem e_I_fail_13 : decode (mB I_I_fail) 13 = .ok (.putfield 25, 3) := by decide +kernel
theorem e_I_fail_16 : decode (mB I_I_fail) 16 = .ok (.iconst 0, 1) := by decide +kernel
theorem e_I_fail_17 : decode (mB I_I_fail) 17 = .ok (.ireturn, 1) := by decide +kernel
theorem e_I_numberHere_0 : decode (mB I_I_numberHere) 0 = .ok (.aload_n 0, 1) := by decide +kernel
theorem e_I_numberHere_1 : decode (mB I_I_numberHere) 1 = .ok (.getfield 12, 3) := by decide +kernel
theorem e_I_numberHere_4 : decode (mB I_I_numberHere) 4 = .ok (.getfield 67, 3) := by decide +kernel
theorem e_I_numberHere_7 : decode (mB I_I_numberHere) 7 = .ok (.iconst 2, 1) := by decide +kernel
theorem e_I_numberHere_8 : decode (mB I_I_numberHere) 8 = .ok (.if_icmp .eq 11, 3) := by decide +kernel
theorem e_I_numberHere_11 : decode (mB I_I_numberHere) 11 = .ok (.aload_n 0, 1) := by decide +kernel
theorem e_I_numberHere_12 : decode (mB I_I_numberHere) 12 = .ok (.iconst 1, 1) := by decide +kernel
theorem e_I_numberHere_13 : decode (mB I_I_numberHere) 13 = .ok (.invokevirtual 47, 3) := by decide +kernel
theorem e_I_numberHere_16 : decode (mB I_I_numberHere) 16 = .ok (.pop, 1) := by decide +kernel
theorem e_I_numberHere_17 : decode (mB I_I_numberHere) 17 = .ok (.iconst (-1), 1) := by decide +kernel
theorem e_I_numberHere_18 : decode (mB I_I_numberHere) 18 = .ok (.ireturn, 1) := by decide +kernel
theorem e_I_numberHere_19 : decode (mB I_I_numberHere) 19 = .ok (.aload_n 0, 1) := by decide +kernel
theorem e_I_numberHere_20 : decode (mB I_I_numberHere) 20 = .ok (.getfield 12, 3) := by decide +kernel
theorem e_I_numberHere_23 : decode (mB I_I_numberHere) 23 = .ok (.getfield 176, 3) := by decide +kernel
theorem e_I_numberHere_26 : decode (mB I_I_numberHere) 26 = .ok (.istore_n 3, 1) := by decide +kernel
theorem e_I_numberHere_27 : decode (mB I_I_numberHere) 27 = .ok (.iload_n 3, 1) := by decide +kernel
theorem e_I_numberHere_28 : decode (mB I_I_numberHere) 28 = .ok (.iload_n 1, 1) := by decide +kernel
theorem e_I_numberHere_29 : decode (mB I_I_numberHere) 29 = .ok (.iload_n 2, 1) := by decide +kernel
theorem e_I_numberHere_30 : decode (mB I_I_numberHere) 30 = .ok (.invokestatic 182, 3) := by decide +kernel
theorem e_I_numberHere_33 : decode (mB I_I_numberHere) 33 = .ok (.ifCond .ne 11, 3) := by decide +kernel
theorem e_I_numberHere_36 : decode (mB I_I_numberHere) 36 = .ok (.aload_n 0, 1) := by decide +kernel
theorem e_I_numberHere_37 : decode (mB I_I_numberHere) 37 = .ok (.iconst 2, 1) := by decide +kernel
theorem e_I_numberHere_38 : decode (mB I_I_numberHere) 38 = .ok (.invokevirtual 47, 3) := by decide +kernel
theorem e_I_numberHere_41 : decode (mB I_I_numberHere) 41 = .ok (.pop, 1) := by decide +kernel
theorem e_I_numberHere_42 : decode (mB I_I_numberHere) 42 = .ok (.iconst (-1), 1) := by decide +kernel
theorem e_I_numberHere_43 : decode (mB I_I_numberHere) 43 = .ok (.ireturn, 1) := by decide +kernel
theorem e_I_numberHere_44 : decode (mB I_I_numberHere) 44 = .ok (.aload_n 0, 1) := by decide +kernel
theorem e_I_numberHere_45 : decode (mB I_I_numberHere) 45 = .ok (.getfield 12, 3) := by decide +kernel
theorem e_I_numberHere_48 : decode (mB I_I_numberHere) 48 = .ok (.invokevirtual 51, 3) := by decide +kernel
theorem e_I_numberHere_51 : decode (mB I_I_numberHere) 51 = .ok (.iload_n 3, 1) := by decide +kernel
theorem e_I_numberHere_52 : decode (mB I_I_numberHere) 52 = .ok (.ireturn, 1) := by decide +kernel
theorem e_I_readsWear_0 : decode (mB I_I_readsWear) 0 = .ok (.aload_n 0, 1) := by decide +kernel
theorem e_I_readsWear_1 : decode (mB I_I_readsWear) 1 = .ok (.iconst 0, 1) := by decide +kernel
theorem e_I_readsWear_2 : decode (mB I_I_readsWear) 2 = .ok (.sipush 999, 3) := by decide +kernel
theorem e_I_readsWear_5 : decode (mB I_I_readsWear) 5 = .ok (.invokevirtual 114, 3) := by decide +kernel
theorem e_I_readsWear_8 : decode (mB I_I_readsWear) 8 = .ok (.istore_n 1, 1) := by decide +kernel
theorem e_I_readsWear_9 : decode (mB I_I_readsWear) 9 = .ok (.iload_n 1, 1) := by decide +kernel
theorem e_I_readsWear_10 : decode (mB I_I_readsWear) 10 = .ok (.iconst (-1), 1) := by decide +kernel
theorem e_I_readsWear_11 : decode (mB I_I_readsWear) 11 = .ok (.if_icmp .ne 5, 3) := by decide +kernel
theorem e_I_readsWear_14 : decode (mB I_I_readsWear) 14 = .ok (.iconst 0, 1) := by decide +kernel
theorem e_I_readsWear_15 : decode (mB I_I_readsWear) 15 = .ok (.ireturn, 1) := by decide +kernel
theorem e_I_readsWear_16 : decode (mB I_I_readsWear) 16 = .ok (.aload_n 0, 1) := by decide +kernel
theorem e_I_readsWear_17 : decode (mB I_I_readsWear) 17 = .ok (.getfield 21, 3) := by decide +kernel
theorem e_I_readsWear_20 : decode (mB I_I_readsWear) 20 = .ok (.iload_n 1, 1) := by decide +kernel
theorem e_I_readsWear_21 : decode (mB I_I_readsWear) 21 = .ok (.putfield 147, 3) := by decide +kernel
theorem e_I_readsWear_24 : decode (mB I_I_readsWear) 24 = .ok (.iconst 1, 1) := by decide +kernel
theorem e_I_readsWear_25 : decode (mB I_I_readsWear) 25 = .ok (.ireturn, 1) := by decide +kernel
theorem e_I_readsPace_0 : decode (mB I_I_readsPace) 0 = .ok (.aload_n 0, 1) := by decide +kernel
theorem e_I_readsPace_1 : decode (mB I_I_readsPace) 1 = .ok (.bipush 100, 2) := by decide +kernel
theorem e_I_readsPace_3 : decode (mB I_I_readsPace) 3 = .ok (.sipush 999, 3) := by decide +kernel
theorem e_I_readsPace_6 : decode (mB I_I_readsPace) 6 = .ok (.invokevirtual 114, 3) := by decide +kernel
theorem e_I_readsPace_9 : decode (mB I_I_readsPace) 9 = .ok (.istore_n 1, 1) := by decide +kernel
theorem e_I_readsPace_10 : decode (mB I_I_readsPace) 10 = .ok (.iload_n 1, 1) := by decide +kernel
theorem e_I_readsPace_11 : decode (mB I_I_readsPace) 11 = .ok (.iconst (-1), 1) := by decide +kernel
theorem e_I_readsPace_12 : decode (mB I_I_readsPace) 12 = .ok (.if_icmp .ne 5, 3) := by decide +kernel
theorem e_I_readsPace_15 : decode (mB I_I_readsPace) 15 = .ok (.iconst 0, 1) := by decide +kernel
theorem e_I_readsPace_16 : decode (mB I_I_readsPace) 16 = .ok (.ireturn, 1) := by decide +kernel
theorem e_I_readsPace_17 : decode (mB I_I_readsPace) 17 = .ok (.aload_n 0, 1) := by decide +kernel
theorem e_I_readsPace_18 : decode (mB I_I_readsPace) 18 = .ok (.getfield 21, 3) := by decide +kernel
theorem e_I_readsPace_21 : decode (mB I_I_readsPace) 21 = .ok (.iload_n 1, 1) := by decide +kernel
theorem e_I_readsPace_22 : decode (mB I_I_readsPace) 22 = .ok (.putfield 149, 3) := by decide +kernel
theorem e_I_readsPace_25 : decode (mB I_I_readsPace) 25 = .ok (.iconst 1, 1) := by decide +kernel
theorem e_I_readsPace_26 : decode (mB I_I_readsPace) 26 = .ok (.ireturn, 1) := by decide +kernel
theorem e_I_readsSemicolon_0 : decode (mB I_I_readsSemicolon) 0 = .ok (.aload_n 0, 1) := by decide +kernel
theorem e_I_readsSemicolon_1 : decode (mB I_I_readsSemicolon) 1 = .ok (.getfield 12, 3) := by decide +kernel
theorem e_I_readsSemicolon_4 : decode (mB I_I_readsSemicolon) 4 = .ok (.getfield 67, 3) := by decide +kernel
theorem e_I_readsSemicolon_7 : decode (mB I_I_readsSemicolon) 7 = .ok (.iconst 3, 1) := by decide +kernel
theorem e_I_readsSemicolon_8 : decode (mB I_I_readsSemicolon) 8 = .ok (.if_icmp .eq 9, 3) := by decide +kernel
theorem e_I_readsSemicolon_11 : decode (mB I_I_readsSemicolon) 11 = .ok (.aload_n 0, 1) := by decide +kernel
theorem e_I_readsSemicolon_12 : decode (mB I_I_readsSemicolon) 12 = .ok (.iconst 1, 1) := by decide +kernel
theorem e_I_readsSemicolon_13 : decode (mB I_I_readsSemicolon) 13 = .ok (.invokevirtual 47, 3) := by decide +kernel
theorem e_I_readsSemicolon_16 : decode (mB I_I_readsSemicolon) 16 = .ok (.ireturn, 1) := by decide +kernel
theorem e_I_readsSemicolon_17 : decode (mB I_I_readsSemicolon) 17 = .ok (.aload_n 0, 1) := by decide +kernel
theorem e_I_readsSemicolon_18 : decode (mB I_I_readsSemicolon) 18 = .ok (.getfield 12, 3) := by decide +kernel
theorem e_I_readsSemicolon_21 : decode (mB I_I_readsSemicolon) 21 = .ok (.invokevirtual 51, 3) := by decide +kernel
theorem e_I_readsSemicolon_24 : decode (mB I_I_readsSemicolon) 24 = .ok (.iconst 1, 1) := by decide +kernel
theorem e_I_readsSemicolon_25 : decode (mB I_I_readsSemicolon) 25 = .ok (.ireturn, 1) := by decide +kernel
theorem e_I_readsHead_0 : decode (mB I_I_readsHead) 0 = .ok (.aload_n 0, 1) := by decide +kernel
theorem e_I_readsHead_1 : decode (mB I_I_readsHead) 1 = .ok (.getfield 21, 3) := by decide +kernel
theorem e_I_readsHead_4 : decode (mB I_I_readsHead) 4 = .ok (.invokevirtual 39, 3) := by decide +kernel
theorem e_I_readsHead_7 : decode (mB I_I_readsHead) 7 = .ok (.aload_n 0, 1) := by decide +kernel
theorem e_I_readsHead_8 : decode (mB I_I_readsHead) 8 = .ok (.getfield 12, 3) := by decide +kernel
theorem e_I_readsHead_11 : decode (mB I_I_readsHead) 11 = .ok (.ldc 42, 2) := by decide +kernel
theorem e_I_readsHead_13 : decode (mB I_I_readsHead) 13 = .ok (.invokevirtual 43, 3) := by decide +kernel
theorem e_I_readsHead_16 : decode (mB I_I_readsHead) 16 = .ok (.ifCond .ne 9, 3) := by decide +kernel
theorem e_I_readsHead_19 : decode (mB I_I_readsHead) 19 = .ok (.aload_n 0, 1) := by decide +kernel
theorem e_I_readsHead_20 : decode (mB I_I_readsHead) 20 = .ok (.iconst 1, 1) := by decide +kernel
theorem e_I_readsHead_21 : decode (mB I_I_readsHead) 21 = .ok (.invokevirtual 47, 3) := by decide +kernel
theorem e_I_readsHead_24 : decode (mB I_I_readsHead) 24 = .ok (.ireturn, 1) := by decide +kernel
theorem e_I_readsHead_25 : decode (mB I_I_readsHead) 25 = .ok (.aload_n 0, 1) := by decide +kernel
theorem e_I_readsHead_26 : decode (mB I_I_readsHead) 26 = .ok (.getfield 12, 3) := by decide +kernel
theorem e_I_readsHead_29 : decode (mB I_I_readsHead) 29 = .ok (.invokevirtual 51, 3) := by decide +kernel
theorem e_I_readsHead_32 : decode (mB I_I_readsHead) 32 = .ok (.aload_n 0, 1) := by decide +kernel
theorem e_I_readsHead_33 : decode (mB I_I_readsHead) 33 = .ok (.invokevirtual 54, 3) := by decide +kernel
theorem e_I_readsHead_36 : decode (mB I_I_readsHead) 36 = .ok (.ifCond .eq 21, 3) := by decide +kernel
theorem e_I_readsHead_39 : decode (mB I_I_readsHead) 39 = .ok (.aload_n 0, 1) := by decide +kernel
theorem e_I_readsHead_40 : decode (mB I_I_readsHead) 40 = .ok (.invokevirtual 58, 3) := by decide +kernel
theorem e_I_readsHead_43 : decode (mB I_I_readsHead) 43 = .ok (.ifCond .eq 14, 3) := by decide +kernel
theorem e_I_readsHead_46 : decode (mB I_I_readsHead) 46 = .ok (.aload_n 0, 1) := by decide +kernel
theorem e_I_readsHead_47 : decode (mB I_I_readsHead) 47 = .ok (.invokevirtual 61, 3) := by decide +kernel
theorem e_I_readsHead_50 : decode (mB I_I_readsHead) 50 = .ok (.ifCond .eq 7, 3) := by decide +kernel
theorem e_I_readsHead_53 : decode (mB I_I_readsHead) 53 = .ok (.iconst 1, 1) := by decide +kernel
theorem e_I_readsHead_54 : decode (mB I_I_readsHead) 54 = .ok (.goto 4, 3) := by decide +kernel
theorem e_I_readsHead_57 : decode (mB I_I_readsHead) 57 = .ok (.iconst 0, 1) := by decide +kernel
theorem e_I_readsHead_58 : decode (mB I_I_readsHead) 58 = .ok (.ireturn, 1) := by decide +kernel
theorem e_I_nameHere_0 : decode (mB I_I_nameHere) 0 = .ok (.aload_n 0, 1) := by decide +kernel
theorem e_I_nameHere_1 : decode (mB I_I_nameHere) 1 = .ok (.getfield 12, 3) := by decide +kernel
theorem e_I_nameHere_4 : decode (mB I_I_nameHere) 4 = .ok (.getfield 67, 3) := by decide +kernel
theorem e_I_nameHere_7 : decode (mB I_I_nameHere) 7 = .ok (.iconst 1, 1) := by decide +kernel
theorem e_I_nameHere_8 : decode (mB I_I_nameHere) 8 = .ok (.if_icmp .ne 30, 3) := by decide +kernel
theorem e_I_nameHere_11 : decode (mB I_I_nameHere) 11 = .ok (.aload_n 0, 1) := by decide +kernel
theorem e_I_nameHere_12 : decode (mB I_I_nameHere) 12 = .ok (.getfield 12, 3) := by decide +kernel
theorem e_I_nameHere_15 : decode (mB I_I_nameHere) 15 = .ok (.getfield 165, 3) := by decide +kernel
theorem e_I_nameHere_18 : decode (mB I_I_nameHere) 18 = .ok (.aload_n 0, 1) := by decide +kernel
theorem e_I_nameHere_19 : decode (mB I_I_nameHere) 19 = .ok (.getfield 12, 3) := by decide +kernel
theorem e_I_nameHere_22 : decode (mB I_I_nameHere) 22 = .ok (.getfield 36, 3) := by decide +kernel
theorem e_I_nameHere_25 : decode (mB I_I_nameHere) 25 = .ok (.aload_n 0, 1) := by decide +kernel
theorem e_I_nameHere_26 : decode (mB I_I_nameHere) 26 = .ok (.getfield 12, 3) := by decide +kernel
theorem e_I_nameHere_29 : decode (mB I_I_nameHere) 29 = .ok (.getfield 169, 3) := by decide +kernel
theorem e_I_nameHere_32 : decode (mB I_I_nameHere) 32 = .ok (.invokestatic 172, 3) := by decide +kernel
theorem e_I_nameHere_35 : decode (mB I_I_nameHere) 35 = .ok (.goto 4, 3) := by decide +kernel
theorem e_I_nameHere_38 : decode (mB I_I_nameHere) 38 = .ok (.iconst (-1), 1) := by decide +kernel
theorem e_I_nameHere_39 : decode (mB I_I_nameHere) 39 = .ok (.istore_n 1, 1) := by decide +kernel
theorem e_I_nameHere_40 : decode (mB I_I_nameHere) 40 = .ok (.iload_n 1, 1) := by decide +kernel
theorem e_I_nameHere_41 : decode (mB I_I_nameHere) 41 = .ok (.iconst (-1), 1) := by decide +kernel
theorem e_I_nameHere_42 : decode (mB I_I_nameHere) 42 = .ok (.if_icmp .ne 9, 3) := by decide +kernel
theorem e_I_nameHere_45 : decode (mB I_I_nameHere) 45 = .ok (.aload_n 0, 1) := by decide +kernel
theorem e_I_nameHere_46 : decode (mB I_I_nameHere) 46 = .ok (.iconst 1, 1) := by decide +kernel
theorem e_I_nameHere_47 : decode (mB I_I_nameHere) 47 = .ok (.invokevirtual 47, 3) := by decide +kernel
theorem e_I_nameHere_50 : decode (mB I_I_nameHere) 50 = .ok (.pop, 1) := by decide +kernel
theorem e_I_nameHere_51 : decode (mB I_I_nameHere) 51 = .ok (.iload_n 1, 1) := by decide +kernel
theorem e_I_nameHere_52 : decode (mB I_I_nameHere) 52 = .ok (.ireturn, 1) := by decide +kernel
theorem e_I_newName_0 : decode (mB I_I_newName) 0 = .ok (.aload_n 0, 1) := by decide +kernel
theorem e_I_newName_1 : decode (mB I_I_newName) 1 = .ok (.getfield 21, 3) := by decide +kernel
theorem e_I_newName_4 : decode (mB I_I_newName) 4 = .ok (.getfield 155, 3) := by decide +kernel
theorem e_I_newName_7 : decode (mB I_I_newName) 7 = .ok (.bipush 20, 2) := by decide +kernel
theorem e_I_newName_9 : decode (mB I_I_newName) 9 = .ok (.if_icmp .lt 11, 3) := by decide +kernel
theorem e_I_newName_12 : decode (mB I_I_newName) 12 = .ok (.aload_n 0, 1) := by decide +kernel
theorem e_I_newName_13 : decode (mB I_I_newName) 13 = .ok (.iconst 5, 1) := by decide +kernel
theorem e_I_newName_14 : decode (mB I_I_newName) 14 = .ok (.invokevirtual 47, 3) := by decide +kernel
theorem e_I_newName_17 : decode (mB I_I_newName) 17 = .ok (.pop, 1) := by decide +kernel
theorem e_I_newName_18 : decode (mB I_I_newName) 18 = .ok (.iconst (-1), 1) := by decide +kernel
theorem e_I_newName_19 : decode (mB I_I_newName) 19 = .ok (.ireturn, 1) := by decide +kernel
theorem e_I_newName_20 : decode (mB I_I_newName) 20 = .ok (.aload_n 0, 1) := by decide +kernel
theorem e_I_newName_21 : decode (mB I_I_newName) 21 = .ok (.getfield 12, 3) := by decide +kernel
theorem e_I_newName_24 : decode (mB I_I_newName) 24 = .ok (.invokevirtual 51, 3) := by decide +kernel
theorem e_I_newName_27 : decode (mB I_I_newName) 27 = .ok (.aload_n 0, 1) := by decide +kernel
theorem e_I_newName_28 : decode (mB I_I_newName) 28 = .ok (.invokevirtual 158, 3) := by decide +kernel
theorem e_I_newName_31 : decode (mB I_I_newName) 31 = .ok (.istore_n 1, 1) := by decide +kernel
theorem e_I_newName_32 : decode (mB I_I_newName) 32 = .ok (.iload_n 1, 1) := by decide +kernel
theorem e_I_newName_33 : decode (mB I_I_newName) 33 = .ok (.iconst (-1), 1) := by decide +kernel
theorem e_I_newName_34 : decode (mB I_I_newName) 34 = .ok (.if_icmp .eq 23, 3) := by decide +kernel
theorem e_I_newName_37 : decode (mB I_I_newName) 37 = .ok (.aload_n 0, 1) := by decide +kernel
theorem e_I_newName_38 : decode (mB I_I_newName) 38 = .ok (.getfield 21, 3) := by decide +kernel
theorem e_I_newName_41 : decode (mB I_I_newName) 41 = .ok (.iload_n 1, 1) := by decide +kernel
theorem e_I_newName_42 : decode (mB I_I_newName) 42 = .ok (.invokevirtual 161, 3) := by decide +kernel
theorem e_I_newName_45 : decode (mB I_I_newName) 45 = .ok (.iconst (-1), 1) := by decide +kernel
theorem e_I_newName_46 : decode (mB I_I_newName) 46 = .ok (.if_icmp .eq 11, 3) := by decide +kernel
theorem e_I_newName_49 : decode (mB I_I_newName) 49 = .ok (.aload_n 0, 1) := by decide +kernel
theorem e_I_newName_50 : decode (mB I_I_newName) 50 = .ok (.iconst 4, 1) := by decide +kernel
theorem e_I_newName_51 : decode (mB I_I_newName) 51 = .ok (.invokevirtual 47, 3) := by decide +kernel
theorem e_I_newName_54 : decode (mB I_I_newName) 54 = .ok (.pop, 1) := by decide +kernel
theorem e_I_newName_55 : decode (mB I_I_newName) 55 = .ok (.iconst (-1), 1) := by decide +kernel
theorem e_I_newName_56 : decode (mB I_I_newName) 56 = .ok (.ireturn, 1) := by decide +kernel
theorem e_I_newName_57 : decode (mB I_I_newName) 57 = .ok (.iload_n 1, 1) := by decide +kernel
theorem e_I_newName_58 : decode (mB I_I_newName) 58 = .ok (.iconst (-1), 1) := by decide +kernel
theorem e_I_newName_59 : decode (mB I_I_newName) 59 = .ok (.if_icmp .eq 10, 3) := by decide +kernel
theorem e_I_newName_62 : decode (mB I_I_newName) 62 = .ok (.aload_n 0, 1) := by decide +kernel
theorem e_I_newName_63 : decode (mB I_I_newName) 63 = .ok (.getfield 12, 3) := by decide +kernel
theorem e_I_newName_66 : decode (mB I_I_newName) 66 = .ok (.invokevirtual 51, 3) := by decide +kernel
theorem e_I_newName_69 : decode (mB I_I_newName) 69 = .ok (.iload_n 1, 1) := by decide +kernel
theorem e_I_newName_70 : decode (mB I_I_newName) 70 = .ok (.ireturn, 1) := by decide +kernel
theorem e_I_mayTurnHere_0 : decode (mB I_I_mayTurnHere) 0 = .ok (.aload_n 0, 1) := by decide +kernel
theorem e_I_mayTurnHere_1 : decode (mB I_I_mayTurnHere) 1 = .ok (.getfield 12, 3) := by decide +kernel
theorem e_I_mayTurnHere_4 : decode (mB I_I_mayTurnHere) 4 = .ok (.getfield 67, 3) := by decide +kernel
theorem e_I_mayTurnHere_7 : decode (mB I_I_mayTurnHere) 7 = .ok (.iconst 2, 1) := by decide +kernel
theorem e_I_mayTurnHere_8 : decode (mB I_I_mayTurnHere) 8 = .ok (.if_icmp .ne 24, 3) := by decide +kernel
theorem e_I_mayTurnHere_11 : decode (mB I_I_mayTurnHere) 11 = .ok (.aload_n 0, 1) := by decide +kernel
theorem e_I_mayTurnHere_12 : decode (mB I_I_mayTurnHere) 12 = .ok (.getfield 12, 3) := by decide +kernel
theorem e_I_mayTurnHere_15 : decode (mB I_I_mayTurnHere) 15 = .ok (.getfield 176, 3) := by decide +kernel
theorem e_I_mayTurnHere_18 : decode (mB I_I_mayTurnHere) 18 = .ok (.invokestatic 179, 3) := by decide +kernel
theorem e_I_mayTurnHere_21 : decode (mB I_I_mayTurnHere) 21 = .ok (.ifCond .ne 11, 3) := by decide +kernel
theorem e_I_mayTurnHere_24 : decode (mB I_I_mayTurnHere) 24 = .ok (.aload_n 0, 1) := by decide +kernel
theorem e_I_mayTurnHere_25 : decode (mB I_I_mayTurnHere) 25 = .ok (.iconst 2, 1) := by decide +kernel
theorem e_I_mayTurnHere_26 : decode (mB I_I_mayTurnHere) 26 = .ok (.invokevirtual 47, 3) := by decide +kernel
theorem e_I_mayTurnHere_29 : decode (mB I_I_mayTurnHere) 29 = .ok (.ifCond .eq 7, 3) := by decide +kernel
theorem e_I_mayTurnHere_32 : decode (mB I_I_mayTurnHere) 32 = .ok (.iconst 1, 1) := by decide +kernel
theorem e_I_mayTurnHere_33 : decode (mB I_I_mayTurnHere) 33 = .ok (.goto 4, 3) := by decide +kernel
theorem e_I_mayTurnHere_36 : decode (mB I_I_mayTurnHere) 36 = .ok (.iconst 0, 1) := by decide +kernel
theorem e_I_mayTurnHere_37 : decode (mB I_I_mayTurnHere) 37 = .ok (.ireturn, 1) := by decide +kernel
theorem e_I_passes_0 : decode (mB I_I_passes) 0 = .ok (.aload_n 0, 1) := by decide +kernel
theorem e_I_passes_1 : decode (mB I_I_passes) 1 = .ok (.getfield 12, 3) := by decide +kernel
theorem e_I_passes_4 : decode (mB I_I_passes) 4 = .ok (.aload_n 1, 1) := by decide +kernel
theorem e_I_passes_5 : decode (mB I_I_passes) 5 = .ok (.invokevirtual 43, 3) := by decide +kernel
theorem e_I_passes_8 : decode (mB I_I_passes) 8 = .ok (.ifCond .ne 5, 3) := by decide +kernel
theorem e_I_passes_11 : decode (mB I_I_passes) 11 = .ok (.iconst 0, 1) := by decide +kernel
theorem e_I_passes_12 : decode (mB I_I_passes) 12 = .ok (.ireturn, 1) := by decide +kernel
theorem e_I_passes_13 : decode (mB I_I_passes) 13 = .ok (.aload_n 0, 1) := by decide +kernel
theorem e_I_passes_14 : decode (mB I_I_passes) 14 = .ok (.getfield 12, 3) := by decide +kernel
theorem e_I_passes_17 : decode (mB I_I_passes) 17 = .ok (.invokevirtual 51, 3) := by decide +kernel
theorem e_I_passes_20 : decode (mB I_I_passes) 20 = .ok (.iconst 1, 1) := by decide +kernel
theorem e_I_passes_21 : decode (mB I_I_passes) 21 = .ok (.ireturn, 1) := by decide +kernel
theorem e_I_readsChained_0 : decode (mB I_I_readsChained) 0 = .ok (.aload_n 0, 1) := by decide +kernel
theorem e_I_readsChained_1 : decode (mB I_I_readsChained) 1 = .ok (.invokevirtual 107, 3) := by decide +kernel
theorem e_I_readsChained_4 : decode (mB I_I_readsChained) 4 = .ok (.istore_n 1, 1) := by decide +kernel
theorem e_I_readsChained_5 : decode (mB I_I_readsChained) 5 = .ok (.iload_n 1, 1) := by decide +kernel
theorem e_I_readsChained_6 : decode (mB I_I_readsChained) 6 = .ok (.iconst (-1), 1) := by decide +kernel
theorem e_I_readsChained_7 : decode (mB I_I_readsChained) 7 = .ok (.if_icmp .eq 21, 3) := by decide +kernel
theorem e_I_readsChained_10 : decode (mB I_I_readsChained) 10 = .ok (.aload_n 0, 1) := by decide +kernel
theorem e_I_readsChained_11 : decode (mB I_I_readsChained) 11 = .ok (.invokevirtual 111, 3) := by decide +kernel
theorem e_I_readsChained_14 : decode (mB I_I_readsChained) 14 = .ok (.ifCond .eq 14, 3) := by decide +kernel
theorem e_I_readsChained_17 : decode (mB I_I_readsChained) 17 = .ok (.aload_n 0, 1) := by decide +kernel
theorem e_I_readsChained_18 : decode (mB I_I_readsChained) 18 = .ok (.iconst 0, 1) := by decide +kernel
theorem e_I_readsChained_19 : decode (mB I_I_readsChained) 19 = .ok (.sipush 345, 3) := by decide +kernel
theorem e_I_readsChained_22 : decode (mB I_I_readsChained) 22 = .ok (.invokevirtual 114, 3) := by decide +kernel
theorem e_I_readsChained_25 : decode (mB I_I_readsChained) 25 = .ok (.goto 4, 3) := by decide +kernel
theorem e_I_readsChained_28 : decode (mB I_I_readsChained) 28 = .ok (.iconst (-1), 1) := by decide +kernel
theorem e_I_readsChained_29 : decode (mB I_I_readsChained) 29 = .ok (.istore_n 2, 1) := by decide +kernel
theorem e_I_readsChained_30 : decode (mB I_I_readsChained) 30 = .ok (.iload_n 2, 1) := by decide +kernel
theorem e_I_readsChained_31 : decode (mB I_I_readsChained) 31 = .ok (.iconst (-1), 1) := by decide +kernel
theorem e_I_readsChained_32 : decode (mB I_I_readsChained) 32 = .ok (.if_icmp .ne 7, 3) := by decide +kernel
theorem e_I_readsChained_35 : decode (mB I_I_readsChained) 35 = .ok (.iconst (-1), 1) := by decide +kernel
theorem e_I_readsChained_36 : decode (mB I_I_readsChained) 36 = .ok (.goto 10, 3) := by decide +kernel
theorem e_I_readsChained_39 : decode (mB I_I_readsChained) 39 = .ok (.aload_n 0, 1) := by decide +kernel
theorem e_I_readsChained_40 : decode (mB I_I_readsChained) 40 = .ok (.iconst 0, 1) := by decide +kernel
theorem e_I_readsChained_41 : decode (mB I_I_readsChained) 41 = .ok (.bipush 99, 2) := by decide +kernel
theorem e_I_readsChained_43 : decode (mB I_I_readsChained) 43 = .ok (.invokevirtual 114, 3) := by decide +kernel
theorem e_I_readsChained_46 : decode (mB I_I_readsChained) 46 = .ok (.istore_n 3, 1) := by decide +kernel
theorem e_I_readsChained_47 : decode (mB I_I_readsChained) 47 = .ok (.iload_n 3, 1) := by decide +kernel
theorem e_I_readsChained_48 : decode (mB I_I_readsChained) 48 = .ok (.iconst (-1), 1) := by decide +kernel
theorem e_I_readsChained_49 : decode (mB I_I_readsChained) 49 = .ok (.if_icmp .ne 7, 3) := by decide +kernel
theorem e_I_readsChained_52 : decode (mB I_I_readsChained) 52 = .ok (.iconst (-1), 1) := by decide +kernel
theorem e_I_readsChained_53 : decode (mB I_I_readsChained) 53 = .ok (.goto 10, 3) := by decide +kernel
theorem e_I_readsChained_56 : decode (mB I_I_readsChained) 56 = .ok (.aload_n 0, 1) := by decide +kernel
theorem e_I_readsChained_57 : decode (mB I_I_readsChained) 57 = .ok (.iconst 0, 1) := by decide +kernel
theorem e_I_readsChained_58 : decode (mB I_I_readsChained) 58 = .ok (.bipush 99, 2) := by decide +kernel
theorem e_I_readsChained_60 : decode (mB I_I_readsChained) 60 = .ok (.invokevirtual 114, 3) := by decide +kernel
theorem e_I_readsChained_63 : decode (mB I_I_readsChained) 63 = .ok (.istore 4, 2) := by decide +kernel
theorem e_I_readsChained_65 : decode (mB I_I_readsChained) 65 = .ok (.iload 4, 2) := by decide +kernel
theorem e_I_readsChained_67 : decode (mB I_I_readsChained) 67 = .ok (.iconst (-1), 1) := by decide +kernel
theorem e_I_readsChained_68 : decode (mB I_I_readsChained) 68 = .ok (.if_icmp .ne 5, 3) := by decide +kernel
theorem e_I_readsChained_71 : decode (mB I_I_readsChained) 71 = .ok (.iconst 0, 1) := by decide +kernel
theorem e_I_readsChained_72 : decode (mB I_I_readsChained) 72 = .ok (.ireturn, 1) := by decide +kernel
theorem e_I_readsChained_73 : decode (mB I_I_readsChained) 73 = .ok (.aload_n 0, 1) := by decide +kernel
theorem e_I_readsChained_74 : decode (mB I_I_readsChained) 74 = .ok (.ldc 118, 2) := by decide +kernel
theorem e_I_readsChained_76 : decode (mB I_I_readsChained) 76 = .ok (.invokevirtual 120, 3) := by decide +kernel
theorem e_I_readsChained_79 : decode (mB I_I_readsChained) 79 = .ok (.ifCond .eq 13, 3) := by decide +kernel
theorem e_I_readsChained_82 : decode (mB I_I_readsChained) 82 = .ok (.aload_n 0, 1) := by decide +kernel
theorem e_I_readsChained_83 : decode (mB I_I_readsChained) 83 = .ok (.iconst 0, 1) := by decide +kernel
theorem e_I_readsChained_84 : decode (mB I_I_readsChained) 84 = .ok (.bipush 9, 2) := by decide +kernel
theorem e_I_readsChained_86 : decode (mB I_I_readsChained) 86 = .ok (.invokevirtual 114, 3) := by decide +kernel
theorem e_I_readsChained_89 : decode (mB I_I_readsChained) 89 = .ok (.goto 4, 3) := by decide +kernel
theorem e_I_readsChained_92 : decode (mB I_I_readsChained) 92 = .ok (.iconst 0, 1) := by decide +kernel
theorem e_I_readsChained_93 : decode (mB I_I_readsChained) 93 = .ok (.istore 5, 2) := by decide +kernel
theorem e_I_readsChained_95 : decode (mB I_I_readsChained) 95 = .ok (.iload 5, 2) := by decide +kernel
theorem e_I_readsChained_97 : decode (mB I_I_readsChained) 97 = .ok (.iconst (-1), 1) := by decide +kernel
theorem e_I_readsChained_98 : decode (mB I_I_readsChained) 98 = .ok (.if_icmp .ne 5, 3) := by decide +kernel
theorem e_I_readsChained_101 : decode (mB I_I_readsChained) 101 = .ok (.iconst 0, 1) := by decide +kernel
theorem e_I_readsChained_102 : decode (mB I_I_readsChained) 102 = .ok (.ireturn, 1) := by decide +kernel
theorem e_I_readsChained_103 : decode (mB I_I_readsChained) 103 = .ok (.aload_n 0, 1) := by decide +kernel
theorem e_I_readsChained_104 : decode (mB I_I_readsChained) 104 = .ok (.ldc 123, 2) := by decide +kernel
theorem e_I_readsChained_106 : decode (mB I_I_readsChained) 106 = .ok (.invokevirtual 120, 3) := by decide +kernel
theorem e_I_readsChained_109 : decode (mB I_I_readsChained) 109 = .ok (.ifCond .eq 14, 3) := by decide +kernel
theorem e_I_readsChained_112 : decode (mB I_I_readsChained) 112 = .ok (.aload_n 0, 1) := by decide +kernel
theorem e_I_readsChained_113 : decode (mB I_I_readsChained) 113 = .ok (.iconst 0, 1) := by decide +kernel
theorem e_I_readsChained_114 : decode (mB I_I_readsChained) 114 = .ok (.sipush 9999, 3) := by decide +kernel
theorem e_I_readsChained_117 : decode (mB I_I_readsChained) 117 = .ok (.invokevirtual 114, 3) := by decide +kernel
theorem e_I_readsChained_120 : decode (mB I_I_readsChained) 120 = .ok (.goto 4, 3) := by decide +kernel
theorem e_I_readsChained_123 : decode (mB I_I_readsChained) 123 = .ok (.iconst 0, 1) := by decide +kernel
theorem e_I_readsChained_124 : decode (mB I_I_readsChained) 124 = .ok (.istore 6, 2) := by decide +kernel
theorem e_I_readsChained_126 : decode (mB I_I_readsChained) 126 = .ok (.iload 6, 2) := by decide +kernel
theorem e_I_readsChained_128 : decode (mB I_I_readsChained) 128 = .ok (.iconst (-1), 1) := by decide +kernel
theorem e_I_readsChained_129 : decode (mB I_I_readsChained) 129 = .ok (.if_icmp .ne 5, 3) := by decide +kernel
theorem e_I_readsChained_132 : decode (mB I_I_readsChained) 132 = .ok (.iconst 0, 1) := by decide +kernel
theorem e_I_readsChained_133 : decode (mB I_I_readsChained) 133 = .ok (.ireturn, 1) := by decide +kernel
theorem e_I_readsChained_134 : decode (mB I_I_readsChained) 134 = .ok (.aload_n 0, 1) := by decide +kernel
theorem e_I_readsChained_135 : decode (mB I_I_readsChained) 135 = .ok (.ldc 125, 2) := by decide +kernel
theorem e_I_readsChained_137 : decode (mB I_I_readsChained) 137 = .ok (.invokevirtual 120, 3) := by decide +kernel
theorem e_I_readsChained_140 : decode (mB I_I_readsChained) 140 = .ok (.ifCond .eq 13, 3) := by decide +kernel
theorem e_I_readsChained_143 : decode (mB I_I_readsChained) 143 = .ok (.aload_n 0, 1) := by decide +kernel
theorem e_I_readsChained_144 : decode (mB I_I_readsChained) 144 = .ok (.iconst 0, 1) := by decide +kernel
theorem e_I_readsChained_145 : decode (mB I_I_readsChained) 145 = .ok (.bipush 50, 2) := by decide +kernel
theorem e_I_readsChained_147 : decode (mB I_I_readsChained) 147 = .ok (.invokevirtual 114, 3) := by decide +kernel
theorem e_I_readsChained_150 : decode (mB I_I_readsChained) 150 = .ok (.goto 5, 3) := by decide +kernel
theorem e_I_readsChained_153 : decode (mB I_I_readsChained) 153 = .ok (.bipush 15, 2) := by decide +kernel
theorem e_I_readsChained_155 : decode (mB I_I_readsChained) 155 = .ok (.istore 7, 2) := by decide +kernel
theorem e_I_readsChained_157 : decode (mB I_I_readsChained) 157 = .ok (.iload 7, 2) := by decide +kernel
theorem e_I_readsChained_159 : decode (mB I_I_readsChained) 159 = .ok (.iconst (-1), 1) := by decide +kernel
theorem e_I_readsChained_160 : decode (mB I_I_readsChained) 160 = .ok (.if_icmp .eq 10, 3) := by decide +kernel
theorem e_I_readsChained_163 : decode (mB I_I_readsChained) 163 = .ok (.aload_n 0, 1) := by decide +kernel
theorem e_I_readsChained_164 : decode (mB I_I_readsChained) 164 = .ok (.invokevirtual 61, 3) := by decide +kernel
theorem e_I_readsChained_167 : decode (mB I_I_readsChained) 167 = .ok (.ifCond .ne 5, 3) := by decide +kernel
theorem e_I_readsChained_170 : decode (mB I_I_readsChained) 170 = .ok (.iconst 0, 1) := by decide +kernel
theorem e_I_readsChained_171 : decode (mB I_I_readsChained) 171 = .ok (.ireturn, 1) := by decide +kernel
theorem e_I_readsChained_172 : decode (mB I_I_readsChained) 172 = .ok (.aload_n 0, 1) := by decide +kernel
theorem e_I_readsChained_173 : decode (mB I_I_readsChained) 173 = .ok (.getfield 21, 3) := by decide +kernel
theorem e_I_readsChained_176 : decode (mB I_I_readsChained) 176 = .ok (.iload_n 1, 1) := by decide +kernel
theorem e_I_readsChained_177 : decode (mB I_I_readsChained) 177 = .ok (.iload_n 2, 1) := by decide +kernel
theorem e_I_readsChained_178 : decode (mB I_I_readsChained) 178 = .ok (.iload_n 3, 1) := by decide +kernel
theorem e_I_readsChained_179 : decode (mB I_I_readsChained) 179 = .ok (.iload 4, 2) := by decide +kernel
theorem e_I_readsChained_181 : decode (mB I_I_readsChained) 181 = .ok (.iload 5, 2) := by decide +kernel
theorem e_I_readsChained_183 : decode (mB I_I_readsChained) 183 = .ok (.iload 6, 2) := by decide +kernel
theorem e_I_readsChained_185 : decode (mB I_I_readsChained) 185 = .ok (.iload 7, 2) := by decide +kernel
theorem e_I_readsChained_187 : decode (mB I_I_readsChained) 187 = .ok (.invokevirtual 127, 3) := by decide +kernel
theorem e_I_readsChained_190 : decode (mB I_I_readsChained) 190 = .ok (.iconst 1, 1) := by decide +kernel
theorem e_I_readsChained_191 : decode (mB I_I_readsChained) 191 = .ok (.ireturn, 1) := by decide +kernel
theorem e_I_readsBog_0 : decode (mB I_I_readsBog) 0 = .ok (.aload_n 0, 1) := by decide +kernel
theorem e_I_readsBog_1 : decode (mB I_I_readsBog) 1 = .ok (.invokevirtual 107, 3) := by decide +kernel
theorem e_I_readsBog_4 : decode (mB I_I_readsBog) 4 = .ok (.istore_n 1, 1) := by decide +kernel
theorem e_I_readsBog_5 : decode (mB I_I_readsBog) 5 = .ok (.iload_n 1, 1) := by decide +kernel
theorem e_I_readsBog_6 : decode (mB I_I_readsBog) 6 = .ok (.iconst (-1), 1) := by decide +kernel
theorem e_I_readsBog_7 : decode (mB I_I_readsBog) 7 = .ok (.if_icmp .eq 21, 3) := by decide +kernel
theorem e_I_readsBog_10 : decode (mB I_I_readsBog) 10 = .ok (.aload_n 0, 1) := by decide +kernel
theorem e_I_readsBog_11 : decode (mB I_I_readsBog) 11 = .ok (.invokevirtual 111, 3) := by decide +kernel
theorem e_I_readsBog_14 : decode (mB I_I_readsBog) 14 = .ok (.ifCond .eq 14, 3) := by decide +kernel
theorem e_I_readsBog_17 : decode (mB I_I_readsBog) 17 = .ok (.aload_n 0, 1) := by decide +kernel
theorem e_I_readsBog_18 : decode (mB I_I_readsBog) 18 = .ok (.iconst 0, 1) := by decide +kernel
theorem e_I_readsBog_19 : decode (mB I_I_readsBog) 19 = .ok (.sipush 345, 3) := by decide +kernel
theorem e_I_readsBog_22 : decode (mB I_I_readsBog) 22 = .ok (.invokevirtual 114, 3) := by decide +kernel
theorem e_I_readsBog_25 : decode (mB I_I_readsBog) 25 = .ok (.goto 4, 3) := by decide +kernel
theorem e_I_readsBog_28 : decode (mB I_I_readsBog) 28 = .ok (.iconst (-1), 1) := by decide +kernel
theorem e_I_readsBog_29 : decode (mB I_I_readsBog) 29 = .ok (.istore_n 2, 1) := by decide +kernel
theorem e_I_readsBog_30 : decode (mB I_I_readsBog) 30 = .ok (.iload_n 2, 1) := by decide +kernel
theorem e_I_readsBog_31 : decode (mB I_I_readsBog) 31 = .ok (.iconst (-1), 1) := by decide +kernel
theorem e_I_readsBog_32 : decode (mB I_I_readsBog) 32 = .ok (.if_icmp .ne 7, 3) := by decide +kernel
theorem e_I_readsBog_35 : decode (mB I_I_readsBog) 35 = .ok (.iconst (-1), 1) := by decide +kernel
theorem e_I_readsBog_36 : decode (mB I_I_readsBog) 36 = .ok (.goto 11, 3) := by decide +kernel
theorem e_I_readsBog_39 : decode (mB I_I_readsBog) 39 = .ok (.aload_n 0, 1) := by decide +kernel
theorem e_I_readsBog_40 : decode (mB I_I_readsBog) 40 = .ok (.iconst 1, 1) := by decide +kernel
theorem e_I_readsBog_41 : decode (mB I_I_readsBog) 41 = .ok (.sipush 999, 3) := by decide +kernel
theorem e_I_readsBog_44 : decode (mB I_I_readsBog) 44 = .ok (.invokevirtual 114, 3) := by decide +kernel
theorem e_I_readsBog_47 : decode (mB I_I_readsBog) 47 = .ok (.istore_n 3, 1) := by decide +kernel
theorem e_I_readsBog_48 : decode (mB I_I_readsBog) 48 = .ok (.iload_n 3, 1) := by decide +kernel
theorem e_I_readsBog_49 : decode (mB I_I_readsBog) 49 = .ok (.iconst (-1), 1) := by decide +kernel
theorem e_I_readsBog_50 : decode (mB I_I_readsBog) 50 = .ok (.if_icmp .eq 10, 3) := by decide +kernel
theorem e_I_readsBog_53 : decode (mB I_I_readsBog) 53 = .ok (.aload_n 0, 1) := by decide +kernel
theorem e_I_readsBog_54 : decode (mB I_I_readsBog) 54 = .ok (.invokevirtual 61, 3) := by decide +kernel
theorem e_I_readsBog_57 : decode (mB I_I_readsBog) 57 = .ok (.ifCond .ne 5, 3) := by decide +kernel
theorem e_I_readsBog_60 : decode (mB I_I_readsBog) 60 = .ok (.iconst 0, 1) := by decide +kernel
theorem e_I_readsBog_61 : decode (mB I_I_readsBog) 61 = .ok (.ireturn, 1) := by decide +kernel
theorem e_I_readsBog_62 : decode (mB I_I_readsBog) 62 = .ok (.aload_n 0, 1) := by decide +kernel
theorem e_I_readsBog_63 : decode (mB I_I_readsBog) 63 = .ok (.getfield 21, 3) := by decide +kernel
theorem e_I_readsBog_66 : decode (mB I_I_readsBog) 66 = .ok (.iload_n 1, 1) := by decide +kernel
theorem e_I_readsBog_67 : decode (mB I_I_readsBog) 67 = .ok (.iload_n 2, 1) := by decide +kernel
theorem e_I_readsBog_68 : decode (mB I_I_readsBog) 68 = .ok (.iload_n 3, 1) := by decide +kernel
theorem e_I_readsBog_69 : decode (mB I_I_readsBog) 69 = .ok (.invokevirtual 131, 3) := by decide +kernel
theorem e_I_readsBog_72 : decode (mB I_I_readsBog) 72 = .ok (.iconst 1, 1) := by decide +kernel
theorem e_I_readsBog_73 : decode (mB I_I_readsBog) 73 = .ok (.ireturn, 1) := by decide +kernel
theorem e_I_legHere_0 : decode (mB I_I_legHere) 0 = .ok (.aload_n 0, 1) := by decide +kernel
theorem e_I_legHere_1 : decode (mB I_I_legHere) 1 = .ok (.invokevirtual 158, 3) := by decide +kernel
theorem e_I_legHere_4 : decode (mB I_I_legHere) 4 = .ok (.istore_n 1, 1) := by decide +kernel
theorem e_I_legHere_5 : decode (mB I_I_legHere) 5 = .ok (.iload_n 1, 1) := by decide +kernel
theorem e_I_legHere_6 : decode (mB I_I_legHere) 6 = .ok (.iconst (-1), 1) := by decide +kernel
theorem e_I_legHere_7 : decode (mB I_I_legHere) 7 = .ok (.if_icmp .ne 5, 3) := by decide +kernel
theorem e_I_legHere_10 : decode (mB I_I_legHere) 10 = .ok (.iconst (-1), 1) := by decide +kernel
theorem e_I_legHere_11 : decode (mB I_I_legHere) 11 = .ok (.ireturn, 1) := by decide +kernel
theorem e_I_legHere_12 : decode (mB I_I_legHere) 12 = .ok (.aload_n 0, 1) := by decide +kernel
theorem e_I_legHere_13 : decode (mB I_I_legHere) 13 = .ok (.getfield 21, 3) := by decide +kernel
theorem e_I_legHere_16 : decode (mB I_I_legHere) 16 = .ok (.iload_n 1, 1) := by decide +kernel
theorem e_I_legHere_17 : decode (mB I_I_legHere) 17 = .ok (.invokevirtual 161, 3) := by decide +kernel
theorem e_I_legHere_20 : decode (mB I_I_legHere) 20 = .ok (.istore_n 2, 1) := by decide +kernel
theorem e_I_legHere_21 : decode (mB I_I_legHere) 21 = .ok (.iload_n 2, 1) := by decide +kernel
theorem e_I_legHere_22 : decode (mB I_I_legHere) 22 = .ok (.iconst (-1), 1) := by decide +kernel
theorem e_I_legHere_23 : decode (mB I_I_legHere) 23 = .ok (.if_icmp .ne 11, 3) := by decide +kernel
theorem e_I_legHere_26 : decode (mB I_I_legHere) 26 = .ok (.aload_n 0, 1) := by decide +kernel
theorem e_I_legHere_27 : decode (mB I_I_legHere) 27 = .ok (.iconst 3, 1) := by decide +kernel
theorem e_I_legHere_28 : decode (mB I_I_legHere) 28 = .ok (.invokevirtual 47, 3) := by decide +kernel
theorem e_I_legHere_31 : decode (mB I_I_legHere) 31 = .ok (.pop, 1) := by decide +kernel
theorem e_I_legHere_32 : decode (mB I_I_legHere) 32 = .ok (.iconst (-1), 1) := by decide +kernel
theorem e_I_legHere_33 : decode (mB I_I_legHere) 33 = .ok (.ireturn, 1) := by decide +kernel
theorem e_I_legHere_34 : decode (mB I_I_legHere) 34 = .ok (.aload_n 0, 1) := by decide +kernel
theorem e_I_legHere_35 : decode (mB I_I_legHere) 35 = .ok (.getfield 12, 3) := by decide +kernel
theorem e_I_legHere_38 : decode (mB I_I_legHere) 38 = .ok (.invokevirtual 51, 3) := by decide +kernel
theorem e_I_legHere_41 : decode (mB I_I_legHere) 41 = .ok (.iload_n 2, 1) := by decide +kernel
theorem e_I_legHere_42 : decode (mB I_I_legHere) 42 = .ok (.ireturn, 1) := by decide +kernel
theorem e_I_readsPin_0 : decode (mB I_I_readsPin) 0 = .ok (.aload_n 0, 1) := by decide +kernel
theorem e_I_readsPin_1 : decode (mB I_I_readsPin) 1 = .ok (.getfield 12, 3) := by decide +kernel
theorem e_I_readsPin_4 : decode (mB I_I_readsPin) 4 = .ok (.invokevirtual 51, 3) := by decide +kernel
theorem e_I_readsPin_7 : decode (mB I_I_readsPin) 7 = .ok (.aload_n 0, 1) := by decide +kernel
theorem e_I_readsPin_8 : decode (mB I_I_readsPin) 8 = .ok (.invokevirtual 135, 3) := by decide +kernel
theorem e_I_readsPin_11 : decode (mB I_I_readsPin) 11 = .ok (.istore_n 2, 1) := by decide +kernel
theorem e_I_readsPin_12 : decode (mB I_I_readsPin) 12 = .ok (.iload_n 2, 1) := by decide +kernel
theorem e_I_readsPin_13 : decode (mB I_I_readsPin) 13 = .ok (.iconst (-1), 1) := by decide +kernel
theorem e_I_readsPin_14 : decode (mB I_I_readsPin) 14 = .ok (.if_icmp .ne 5, 3) := by decide +kernel
theorem e_I_readsPin_17 : decode (mB I_I_readsPin) 17 = .ok (.iconst 0, 1) := by decide +kernel
theorem e_I_readsPin_18 : decode (mB I_I_readsPin) 18 = .ok (.ireturn, 1) := by decide +kernel
theorem e_I_readsPin_19 : decode (mB I_I_readsPin) 19 = .ok (.aload_n 0, 1) := by decide +kernel
theorem e_I_readsPin_20 : decode (mB I_I_readsPin) 20 = .ok (.getfield 12, 3) := by decide +kernel
theorem e_I_readsPin_23 : decode (mB I_I_readsPin) 23 = .ok (.getfield 67, 3) := by decide +kernel
theorem e_I_readsPin_26 : decode (mB I_I_readsPin) 26 = .ok (.iconst 3, 1) := by decide +kernel
theorem e_I_readsPin_27 : decode (mB I_I_readsPin) 27 = .ok (.if_icmp .ne 39, 3) := by decide +kernel
theorem e_I_readsPin_30 : decode (mB I_I_readsPin) 30 = .ok (.iload_n 1, 1) := by decide +kernel
theorem e_I_readsPin_31 : decode (mB I_I_readsPin) 31 = .ok (.ifCond .eq 17, 3) := by decide +kernel
theorem e_I_readsPin_34 : decode (mB I_I_readsPin) 34 = .ok (.aload_n 0, 1) := by decide +kernel
theorem e_I_readsPin_35 : decode (mB I_I_readsPin) 35 = .ok (.getfield 21, 3) := by decide +kernel
theorem e_I_readsPin_38 : decode (mB I_I_readsPin) 38 = .ok (.iload_n 2, 1) := by decide +kernel
theorem e_I_readsPin_39 : decode (mB I_I_readsPin) 39 = .ok (.invokevirtual 138, 3) := by decide +kernel
theorem e_I_readsPin_42 : decode (mB I_I_readsPin) 42 = .ok (.ifCond .eq 17, 3) := by decide +kernel
theorem e_I_readsPin_45 : decode (mB I_I_readsPin) 45 = .ok (.goto 21, 3) := by decide +kernel
theorem e_I_readsPin_48 : decode (mB I_I_readsPin) 48 = .ok (.aload_n 0, 1) := by decide +kernel
theorem e_I_readsPin_49 : decode (mB I_I_readsPin) 49 = .ok (.getfield 21, 3) := by decide +kernel
theorem e_I_readsPin_52 : decode (mB I_I_readsPin) 52 = .ok (.iload_n 2, 1) := by decide +kernel
theorem e_I_readsPin_53 : decode (mB I_I_readsPin) 53 = .ok (.invokevirtual 141, 3) := by decide +kernel
theorem e_I_readsPin_56 : decode (mB I_I_readsPin) 56 = .ok (.ifCond .ne 10, 3) := by decide +kernel
theorem e_I_readsPin_59 : decode (mB I_I_readsPin) 59 = .ok (.aload_n 0, 1) := by decide +kernel
theorem e_I_readsPin_60 : decode (mB I_I_readsPin) 60 = .ok (.bipush 6, 2) := by decide +kernel
theorem e_I_readsPin_62 : decode (mB I_I_readsPin) 62 = .ok (.invokevirtual 47, 3) := by decide +kernel
theorem e_I_readsPin_65 : decode (mB I_I_readsPin) 65 = .ok (.ireturn, 1) := by decide +kernel
theorem e_I_readsPin_66 : decode (mB I_I_readsPin) 66 = .ok (.aload_n 0, 1) := by decide +kernel
theorem e_I_readsPin_67 : decode (mB I_I_readsPin) 67 = .ok (.invokevirtual 61, 3) := by decide +kernel
theorem e_I_readsPin_70 : decode (mB I_I_readsPin) 70 = .ok (.ifCond .ne 5, 3) := by decide +kernel
theorem e_I_readsPin_73 : decode (mB I_I_readsPin) 73 = .ok (.iconst 0, 1) := by decide +kernel
theorem e_I_readsPin_74 : decode (mB I_I_readsPin) 74 = .ok (.ireturn, 1) := by decide +kernel
theorem e_I_readsPin_75 : decode (mB I_I_readsPin) 75 = .ok (.aload_n 0, 1) := by decide +kernel
theorem e_I_readsPin_76 : decode (mB I_I_readsPin) 76 = .ok (.getfield 21, 3) := by decide +kernel
theorem e_I_readsPin_79 : decode (mB I_I_readsPin) 79 = .ok (.getfield 144, 3) := by decide +kernel
theorem e_I_readsPin_82 : decode (mB I_I_readsPin) 82 = .ok (.iload_n 2, 1) := by decide +kernel
theorem e_I_readsPin_83 : decode (mB I_I_readsPin) 83 = .ok (.dup2, 1) := by decide +kernel
theorem e_I_readsPin_84 : decode (mB I_I_readsPin) 84 = .ok (.iaload, 1) := by decide +kernel
theorem e_I_readsPin_85 : decode (mB I_I_readsPin) 85 = .ok (.iload_n 1, 1) := by decide +kernel
theorem e_I_readsPin_86 : decode (mB I_I_readsPin) 86 = .ok (.ifCond .eq 7, 3) := by decide +kernel
theorem e_I_readsPin_89 : decode (mB I_I_readsPin) 89 = .ok (.iconst 1, 1) := by decide +kernel
theorem e_I_readsPin_90 : decode (mB I_I_readsPin) 90 = .ok (.goto 4, 3) := by decide +kernel
theorem e_I_readsPin_93 : decode (mB I_I_readsPin) 93 = .ok (.iconst (-1), 1) := by decide +kernel
theorem e_I_readsPin_94 : decode (mB I_I_readsPin) 94 = .ok (.iadd, 1) := by decide +kernel
theorem e_I_readsPin_95 : decode (mB I_I_readsPin) 95 = .ok (.iastore, 1) := by decide +kernel
theorem e_I_readsPin_96 : decode (mB I_I_readsPin) 96 = .ok (.iconst 1, 1) := by decide +kernel
theorem e_I_readsPin_97 : decode (mB I_I_readsPin) 97 = .ok (.ireturn, 1) := by decide +kernel
theorem e_I_readsAdjusted_0 : decode (mB I_I_readsAdjusted) 0 = .ok (.aload_n 0, 1) := by decide +kernel
theorem e_I_readsAdjusted_1 : decode (mB I_I_readsAdjusted) 1 = .ok (.getfield 12, 3) := by decide +kernel
theorem e_I_readsAdjusted_4 : decode (mB I_I_readsAdjusted) 4 = .ok (.invokevirtual 51, 3) := by decide +kernel
theorem e_I_readsAdjusted_7 : decode (mB I_I_readsAdjusted) 7 = .ok (.aload_n 0, 1) := by decide +kernel
theorem e_I_readsAdjusted_8 : decode (mB I_I_readsAdjusted) 8 = .ok (.getfield 21, 3) := by decide +kernel
theorem e_I_readsAdjusted_11 : decode (mB I_I_readsAdjusted) 11 = .ok (.iload_n 1, 1) := by decide +kernel
theorem e_I_readsAdjusted_12 : decode (mB I_I_readsAdjusted) 12 = .ok (.putfield 151, 3) := by decide +kernel
theorem e_I_readsAdjusted_15 : decode (mB I_I_readsAdjusted) 15 = .ok (.aload_n 0, 1) := by decide +kernel
theorem e_I_readsAdjusted_16 : decode (mB I_I_readsAdjusted) 16 = .ok (.invokevirtual 61, 3) := by decide +kernel
theorem e_I_readsAdjusted_19 : decode (mB I_I_readsAdjusted) 19 = .ok (.ireturn, 1) := by decide +kernel
theorem e_I_readsBack_0 : decode (mB I_I_readsBack) 0 = .ok (.aload_n 0, 1) := by decide +kernel
theorem e_I_readsBack_1 : decode (mB I_I_readsBack) 1 = .ok (.getfield 12, 3) := by decide +kernel
theorem e_I_readsBack_4 : decode (mB I_I_readsBack) 4 = .ok (.invokevirtual 51, 3) := by decide +kernel
theorem e_I_readsBack_7 : decode (mB I_I_readsBack) 7 = .ok (.aload_n 0, 1) := by decide +kernel
theorem e_I_readsBack_8 : decode (mB I_I_readsBack) 8 = .ok (.getfield 12, 3) := by decide +kernel
theorem e_I_readsBack_11 : decode (mB I_I_readsBack) 11 = .ok (.getfield 67, 3) := by decide +kernel
theorem e_I_readsBack_14 : decode (mB I_I_readsBack) 14 = .ok (.iconst 3, 1) := by decide +kernel
theorem e_I_readsBack_15 : decode (mB I_I_readsBack) 15 = .ok (.if_icmp .ne 20, 3) := by decide +kernel
theorem e_I_readsBack_18 : decode (mB I_I_readsBack) 18 = .ok (.aload_n 0, 1) := by decide +kernel
theorem e_I_readsBack_19 : decode (mB I_I_readsBack) 19 = .ok (.getfield 21, 3) := by decide +kernel
theorem e_I_readsBack_22 : decode (mB I_I_readsBack) 22 = .ok (.getfield 155, 3) := by decide +kernel
theorem e_I_readsBack_25 : decode (mB I_I_readsBack) 25 = .ok (.ifCond .ne 10, 3) := by decide +kernel
theorem e_I_readsBack_28 : decode (mB I_I_readsBack) 28 = .ok (.aload_n 0, 1) := by decide +kernel
theorem e_I_readsBack_29 : decode (mB I_I_readsBack) 29 = .ok (.bipush 6, 2) := by decide +kernel
theorem e_I_readsBack_31 : decode (mB I_I_readsBack) 31 = .ok (.invokevirtual 47, 3) := by decide +kernel
theorem e_I_readsBack_34 : decode (mB I_I_readsBack) 34 = .ok (.ireturn, 1) := by decide +kernel
theorem e_I_readsBack_35 : decode (mB I_I_readsBack) 35 = .ok (.aload_n 0, 1) := by decide +kernel
theorem e_I_readsBack_36 : decode (mB I_I_readsBack) 36 = .ok (.invokevirtual 61, 3) := by decide +kernel
theorem e_I_readsBack_39 : decode (mB I_I_readsBack) 39 = .ok (.ifCond .ne 5, 3) := by decide +kernel
theorem e_I_readsBack_42 : decode (mB I_I_readsBack) 42 = .ok (.iconst 0, 1) := by decide +kernel
theorem e_I_readsBack_43 : decode (mB I_I_readsBack) 43 = .ok (.ireturn, 1) := by decide +kernel
theorem e_I_readsBack_44 : decode (mB I_I_readsBack) 44 = .ok (.aload_n 0, 1) := by decide +kernel
theorem e_I_readsBack_45 : decode (mB I_I_readsBack) 45 = .ok (.getfield 21, 3) := by decide +kernel
theorem e_I_readsBack_48 : decode (mB I_I_readsBack) 48 = .ok (.dup, 1) := by decide +kernel
theorem e_I_readsBack_49 : decode (mB I_I_readsBack) 49 = .ok (.getfield 155, 3) := by decide +kernel
theorem e_I_readsBack_52 : decode (mB I_I_readsBack) 52 = .ok (.iconst 1, 1) := by decide +kernel
theorem e_I_readsBack_53 : decode (mB I_I_readsBack) 53 = .ok (.isub, 1) := by decide +kernel
theorem e_I_readsBack_54 : decode (mB I_I_readsBack) 54 = .ok (.putfield 155, 3) := by decide +kernel
theorem e_I_readsBack_57 : decode (mB I_I_readsBack) 57 = .ok (.iconst 1, 1) := by decide +kernel
theorem e_I_readsBack_58 : decode (mB I_I_readsBack) 58 = .ok (.ireturn, 1) := by decide +kernel
theorem e_I_readsCommand_0 : decode (mB I_I_readsCommand) 0 = .ok (.aload_n 0, 1) := by decide +kernel
theorem e_I_readsCommand_1 : decode (mB I_I_readsCommand) 1 = .ok (.getfield 12, 3) := by decide +kernel
theorem e_I_readsCommand_4 : decode (mB I_I_readsCommand) 4 = .ok (.ldc 73, 2) := by decide +kernel
theorem e_I_readsCommand_6 : decode (mB I_I_readsCommand) 6 = .ok (.invokevirtual 43, 3) := by decide +kernel
theorem e_I_readsCommand_9 : decode (mB I_I_readsCommand) 9 = .ok (.ifCond .eq 8, 3) := by decide +kernel
theorem e_I_readsCommand_12 : decode (mB I_I_readsCommand) 12 = .ok (.aload_n 0, 1) := by decide +kernel
theorem e_I_readsCommand_13 : decode (mB I_I_readsCommand) 13 = .ok (.invokevirtual 75, 3) := by decide +kernel
theorem e_I_readsCommand_16 : decode (mB I_I_readsCommand) 16 = .ok (.ireturn, 1) := by decide +kernel
theorem e_I_readsCommand_17 : decode (mB I_I_readsCommand) 17 = .ok (.aload_n 0, 1) := by decide +kernel
theorem e_I_readsCommand_18 : decode (mB I_I_readsCommand) 18 = .ok (.getfield 12, 3) := by decide +kernel
theorem e_I_readsCommand_21 : decode (mB I_I_readsCommand) 21 = .ok (.ldc 78, 2) := by decide +kernel
theorem e_I_readsCommand_23 : decode (mB I_I_readsCommand) 23 = .ok (.invokevirtual 43, 3) := by decide +kernel
theorem e_I_readsCommand_26 : decode (mB I_I_readsCommand) 26 = .ok (.ifCond .eq 8, 3) := by decide +kernel
theorem e_I_readsCommand_29 : decode (mB I_I_readsCommand) 29 = .ok (.aload_n 0, 1) := by decide +kernel
theorem e_I_readsCommand_30 : decode (mB I_I_readsCommand) 30 = .ok (.invokevirtual 80, 3) := by decide +kernel
theorem e_I_readsCommand_33 : decode (mB I_I_readsCommand) 33 = .ok (.ireturn, 1) := by decide +kernel
theorem e_I_readsCommand_34 : decode (mB I_I_readsCommand) 34 = .ok (.aload_n 0, 1) := by decide +kernel
theorem e_I_readsCommand_35 : decode (mB I_I_readsCommand) 35 = .ok (.getfield 12, 3) := by decide +kernel
theorem e_I_readsCommand_38 : decode (mB I_I_readsCommand) 38 = .ok (.ldc 83, 2) := by decide +kernel
theorem e_I_readsCommand_40 : decode (mB I_I_readsCommand) 40 = .ok (.invokevirtual 43, 3) := by decide +kernel
theorem e_I_readsCommand_43 : decode (mB I_I_readsCommand) 43 = .ok (.ifCond .eq 9, 3) := by decide +kernel
theorem e_I_readsCommand_46 : decode (mB I_I_readsCommand) 46 = .ok (.aload_n 0, 1) := by decide +kernel
theorem e_I_readsCommand_47 : decode (mB I_I_readsCommand) 47 = .ok (.iconst 1, 1) := by decide +kernel
theorem e_I_readsCommand_48 : decode (mB I_I_readsCommand) 48 = .ok (.invokevirtual 85, 3) := by decide +kernel
theorem e_I_readsCommand_51 : decode (mB I_I_readsCommand) 51 = .ok (.ireturn, 1) := by decide +kernel
theorem e_I_readsCommand_52 : decode (mB I_I_readsCommand) 52 = .ok (.aload_n 0, 1) := by decide +kernel
theorem e_I_readsCommand_53 : decode (mB I_I_readsCommand) 53 = .ok (.getfield 12, 3) := by decide +kernel
theorem e_I_readsCommand_56 : decode (mB I_I_readsCommand) 56 = .ok (.ldc 89, 2) := by decide +kernel
theorem e_I_readsCommand_58 : decode (mB I_I_readsCommand) 58 = .ok (.invokevirtual 43, 3) := by decide +kernel
theorem e_I_readsCommand_61 : decode (mB I_I_readsCommand) 61 = .ok (.ifCond .eq 9, 3) := by decide +kernel
theorem e_I_readsCommand_64 : decode (mB I_I_readsCommand) 64 = .ok (.aload_n 0, 1) := by decide +kernel
theorem e_I_readsCommand_65 : decode (mB I_I_readsCommand) 65 = .ok (.iconst 0, 1) := by decide +kernel
theorem e_I_readsCommand_66 : decode (mB I_I_readsCommand) 66 = .ok (.invokevirtual 85, 3) := by decide +kernel
theorem e_I_readsCommand_69 : decode (mB I_I_readsCommand) 69 = .ok (.ireturn, 1) := by decide +kernel
theorem e_I_readsCommand_70 : decode (mB I_I_readsCommand) 70 = .ok (.aload_n 0, 1) := by decide +kernel
theorem e_I_readsCommand_71 : decode (mB I_I_readsCommand) 71 = .ok (.getfield 12, 3) := by decide +kernel
theorem e_I_readsCommand_74 : decode (mB I_I_readsCommand) 74 = .ok (.ldc 91, 2) := by decide +kernel
theorem e_I_readsCommand_76 : decode (mB I_I_readsCommand) 76 = .ok (.invokevirtual 43, 3) := by decide +kernel
theorem e_I_readsCommand_79 : decode (mB I_I_readsCommand) 79 = .ok (.ifCond .eq 30, 3) := by decide +kernel
theorem e_I_readsCommand_82 : decode (mB I_I_readsCommand) 82 = .ok (.aload_n 0, 1) := by decide +kernel
theorem e_I_readsCommand_83 : decode (mB I_I_readsCommand) 83 = .ok (.getfield 12, 3) := by decide +kernel
theorem e_I_readsCommand_86 : decode (mB I_I_readsCommand) 86 = .ok (.invokevirtual 51, 3) := by decide +kernel
theorem e_I_readsCommand_89 : decode (mB I_I_readsCommand) 89 = .ok (.aload_n 0, 1) := by decide +kernel
theorem e_I_readsCommand_90 : decode (mB I_I_readsCommand) 90 = .ok (.invokevirtual 54, 3) := by decide +kernel
theorem e_I_readsCommand_93 : decode (mB I_I_readsCommand) 93 = .ok (.ifCond .eq 14, 3) := by decide +kernel
theorem e_I_readsCommand_96 : decode (mB I_I_readsCommand) 96 = .ok (.aload_n 0, 1) := by decide +kernel
theorem e_I_readsCommand_97 : decode (mB I_I_readsCommand) 97 = .ok (.invokevirtual 61, 3) := by decide +kernel
theorem e_I_readsCommand_100 : decode (mB I_I_readsCommand) 100 = .ok (.ifCond .eq 7, 3) := by decide +kernel
theorem e_I_readsCommand_103 : decode (mB I_I_readsCommand) 103 = .ok (.iconst 1, 1) := by decide +kernel
theorem e_I_readsCommand_104 : decode (mB I_I_readsCommand) 104 = .ok (.goto 4, 3) := by decide +kernel
theorem e_I_readsCommand_107 : decode (mB I_I_readsCommand) 107 = .ok (.iconst 0, 1) := by decide +kernel
theorem e_I_readsCommand_108 : decode (mB I_I_readsCommand) 108 = .ok (.ireturn, 1) := by decide +kernel
theorem e_I_readsCommand_109 : decode (mB I_I_readsCommand) 109 = .ok (.aload_n 0, 1) := by decide +kernel
theorem e_I_readsCommand_110 : decode (mB I_I_readsCommand) 110 = .ok (.getfield 12, 3) := by decide +kernel
theorem e_I_readsCommand_113 : decode (mB I_I_readsCommand) 113 = .ok (.ldc 93, 2) := by decide +kernel
theorem e_I_readsCommand_115 : decode (mB I_I_readsCommand) 115 = .ok (.invokevirtual 43, 3) := by decide +kernel
theorem e_I_readsCommand_118 : decode (mB I_I_readsCommand) 118 = .ok (.ifCond .eq 30, 3) := by decide +kernel
theorem e_I_readsCommand_121 : decode (mB I_I_readsCommand) 121 = .ok (.aload_n 0, 1) := by decide +kernel
theorem e_I_readsCommand_122 : decode (mB I_I_readsCommand) 122 = .ok (.getfield 12, 3) := by decide +kernel
theorem e_I_readsCommand_125 : decode (mB I_I_readsCommand) 125 = .ok (.invokevirtual 51, 3) := by decide +kernel
theorem e_I_readsCommand_128 : decode (mB I_I_readsCommand) 128 = .ok (.aload_n 0, 1) := by decide +kernel
theorem e_I_readsCommand_129 : decode (mB I_I_readsCommand) 129 = .ok (.invokevirtual 58, 3) := by decide +kernel
theorem e_I_readsCommand_132 : decode (mB I_I_readsCommand) 132 = .ok (.ifCond .eq 14, 3) := by decide +kernel
theorem e_I_readsCommand_135 : decode (mB I_I_readsCommand) 135 = .ok (.aload_n 0, 1) := by decide +kernel
theorem e_I_readsCommand_136 : decode (mB I_I_readsCommand) 136 = .ok (.invokevirtual 61, 3) := by decide +kernel
theorem e_I_readsCommand_139 : decode (mB I_I_readsCommand) 139 = .ok (.ifCond .eq 7, 3) := by decide +kernel
theorem e_I_readsCommand_142 : decode (mB I_I_readsCommand) 142 = .ok (.iconst 1, 1) := by decide +kernel
theorem e_I_readsCommand_143 : decode (mB I_I_readsCommand) 143 = .ok (.goto 4, 3) := by decide +kernel
theorem e_I_readsCommand_146 : decode (mB I_I_readsCommand) 146 = .ok (.iconst 0, 1) := by decide +kernel
theorem e_I_readsCommand_147 : decode (mB I_I_readsCommand) 147 = .ok (.ireturn, 1) := by decide +kernel
theorem e_I_readsCommand_148 : decode (mB I_I_readsCommand) 148 = .ok (.aload_n 0, 1) := by decide +kernel
theorem e_I_readsCommand_149 : decode (mB I_I_readsCommand) 149 = .ok (.getfield 12, 3) := by decide +kernel
theorem e_I_readsCommand_152 : decode (mB I_I_readsCommand) 152 = .ok (.ldc 95, 2) := by decide +kernel
theorem e_I_readsCommand_154 : decode (mB I_I_readsCommand) 154 = .ok (.invokevirtual 43, 3) := by decide +kernel
theorem e_I_readsCommand_157 : decode (mB I_I_readsCommand) 157 = .ok (.ifCond .eq 9, 3) := by decide +kernel
theorem e_I_readsCommand_160 : decode (mB I_I_readsCommand) 160 = .ok (.aload_n 0, 1) := by decide +kernel
theorem e_I_readsCommand_161 : decode (mB I_I_readsCommand) 161 = .ok (.iconst 1, 1) := by decide +kernel
theorem e_I_readsCommand_162 : decode (mB I_I_readsCommand) 162 = .ok (.invokevirtual 97, 3) := by decide +kernel
theorem e_I_readsCommand_165 : decode (mB I_I_readsCommand) 165 = .ok (.ireturn, 1) := by decide +kernel
theorem e_I_readsCommand_166 : decode (mB I_I_readsCommand) 166 = .ok (.aload_n 0, 1) := by decide +kernel
theorem e_I_readsCommand_167 : decode (mB I_I_readsCommand) 167 = .ok (.getfield 12, 3) := by decide +kernel
theorem e_I_readsCommand_170 : decode (mB I_I_readsCommand) 170 = .ok (.ldc 100, 2) := by decide +kernel
theorem e_I_readsCommand_172 : decode (mB I_I_readsCommand) 172 = .ok (.invokevirtual 43, 3) := by decide +kernel
theorem e_I_readsCommand_175 : decode (mB I_I_readsCommand) 175 = .ok (.ifCond .eq 9, 3) := by decide +kernel
theorem e_I_readsCommand_178 : decode (mB I_I_readsCommand) 178 = .ok (.aload_n 0, 1) := by decide +kernel
theorem e_I_readsCommand_179 : decode (mB I_I_readsCommand) 179 = .ok (.iconst 0, 1) := by decide +kernel
theorem e_I_readsCommand_180 : decode (mB I_I_readsCommand) 180 = .ok (.invokevirtual 97, 3) := by decide +kernel
theorem e_I_readsCommand_183 : decode (mB I_I_readsCommand) 183 = .ok (.ireturn, 1) := by decide +kernel
theorem e_I_readsCommand_184 : decode (mB I_I_readsCommand) 184 = .ok (.aload_n 0, 1) := by decide +kernel
theorem e_I_readsCommand_185 : decode (mB I_I_readsCommand) 185 = .ok (.getfield 12, 3) := by decide +kernel
theorem e_I_readsCommand_188 : decode (mB I_I_readsCommand) 188 = .ok (.ldc 102, 2) := by decide +kernel
theorem e_I_readsCommand_190 : decode (mB I_I_readsCommand) 190 = .ok (.invokevirtual 43, 3) := by decide +kernel
theorem e_I_readsCommand_193 : decode (mB I_I_readsCommand) 193 = .ok (.ifCond .eq 8, 3) := by decide +kernel
theorem e_I_readsCommand_196 : decode (mB I_I_readsCommand) 196 = .ok (.aload_n 0, 1) := by decide +kernel
theorem e_I_readsCommand_197 : decode (mB I_I_readsCommand) 197 = .ok (.invokevirtual 104, 3) := by decide +kernel
theorem e_I_readsCommand_200 : decode (mB I_I_readsCommand) 200 = .ok (.ireturn, 1) := by decide +kernel
theorem e_I_readsCommand_201 : decode (mB I_I_readsCommand) 201 = .ok (.aload_n 0, 1) := by decide +kernel
theorem e_I_readsCommand_202 : decode (mB I_I_readsCommand) 202 = .ok (.iconst 1, 1) := by decide +kernel
theorem e_I_readsCommand_203 : decode (mB I_I_readsCommand) 203 = .ok (.invokevirtual 47, 3) := by decide +kernel
theorem e_I_readsCommand_206 : decode (mB I_I_readsCommand) 206 = .ok (.ireturn, 1) := by decide +kernel
theorem e_I_readsCommands_0 : decode (mB I_I_readsCommands) 0 = .ok (.aload_n 0, 1) := by decide +kernel
theorem e_I_readsCommands_1 : decode (mB I_I_readsCommands) 1 = .ok (.iconst 0, 1) := by decide +kernel
theorem e_I_readsCommands_2 : decode (mB I_I_readsCommands) 2 = .ok (.putfield 64, 3) := by decide +kernel
theorem e_I_readsCommands_5 : decode (mB I_I_readsCommands) 5 = .ok (.aload_n 0, 1) := by decide +kernel
theorem e_I_readsCommands_6 : decode (mB I_I_readsCommands) 6 = .ok (.getfield 64, 3) := by decide +kernel
theorem e_I_readsCommands_9 : decode (mB I_I_readsCommands) 9 = .ok (.sipush 900, 3) := by decide +kernel
theorem e_I_readsCommands_12 : decode (mB I_I_readsCommands) 12 = .ok (.if_icmp .ge 35, 3) := by decide +kernel
theorem e_I_readsCommands_15 : decode (mB I_I_readsCommands) 15 = .ok (.aload_n 0, 1) := by decide +kernel
theorem e_I_readsCommands_16 : decode (mB I_I_readsCommands) 16 = .ok (.getfield 12, 3) := by decide +kernel
theorem e_I_readsCommands_19 : decode (mB I_I_readsCommands) 19 = .ok (.getfield 67, 3) := by decide +kernel
theorem e_I_readsCommands_22 : decode (mB I_I_readsCommands) 22 = .ok (.ifCond .eq 25, 3) := by decide +kernel
theorem e_I_readsCommands_25 : decode (mB I_I_readsCommands) 25 = .ok (.aload_n 0, 1) := by decide +kernel
theorem e_I_readsCommands_26 : decode (mB I_I_readsCommands) 26 = .ok (.invokevirtual 70, 3) := by decide +kernel
theorem e_I_readsCommands_29 : decode (mB I_I_readsCommands) 29 = .ok (.ifCond .ne 5, 3) := by decide +kernel
theorem e_I_readsCommands_32 : decode (mB I_I_readsCommands) 32 = .ok (.iconst 0, 1) := by decide +kernel
theorem e_I_readsCommands_33 : decode (mB I_I_readsCommands) 33 = .ok (.ireturn, 1) := by decide +kernel
theorem e_I_readsCommands_34 : decode (mB I_I_readsCommands) 34 = .ok (.aload_n 0, 1) := by decide +kernel
theorem e_I_readsCommands_35 : decode (mB I_I_readsCommands) 35 = .ok (.dup, 1) := by decide +kernel
theorem e_I_readsCommands_36 : decode (mB I_I_readsCommands) 36 = .ok (.getfield 64, 3) := by decide +kernel
theorem e_I_readsCommands_39 : decode (mB I_I_readsCommands) 39 = .ok (.iconst 1, 1) := by decide +kernel
theorem e_I_readsCommands_40 : decode (mB I_I_readsCommands) 40 = .ok (.iadd, 1) := by decide +kernel
theorem e_I_readsCommands_41 : decode (mB I_I_readsCommands) 41 = .ok (.putfield 64, 3) := by decide +kernel
theorem e_I_readsCommands_44 : decode (mB I_I_readsCommands) 44 = .ok (.goto (-39), 3) := by decide +kernel
theorem e_I_readsCommands_47 : decode (mB I_I_readsCommands) 47 = .ok (.iconst 1, 1) := by decide +kernel
theorem e_I_readsCommands_48 : decode (mB I_I_readsCommands) 48 = .ok (.ireturn, 1) := by decide +kernel
