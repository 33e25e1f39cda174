/-! decoded instructions -/
theorem e_B_length_0 : decode (mB I_B_length) 0 = .ok (.aload_n 0, 1) := by decide +kernel
theorem e_B_length_1 : decode (mB I_B_length) 1 = .ok (.invokespecial 343, 3) := by decide +kernel
theorem e_B_length_4 : decode (mB I_B_length) 4 = .ok (.ireturn, 1) := by decide +kernel
theorem e_R_checkLength_0 : decode (mB I_R_checkLength) 0 = .ok (.iload_n 1, 1) := by decide +kernel
theorem e_R_checkLength_1 : decode (mB I_R_checkLength) 1 = .ok (.iload_n 0, 1) := by decide +kernel
theorem e_R_checkLength_2 : decode (mB I_R_checkLength) 2 = .ok (.if_icmp .ge 35, 3) := by decide +kernel
theorem e_R_checkLength_37 : decode (mB I_R_checkLength) 37 = .ok (.return_, 1) := by decide +kernel
theorem e_R_copyOfRangeByte_0 : decode (mB I_R_copyOfRangeByte) 0 = .ok (.iload_n 1, 1) := by decide +kernel
theorem e_R_copyOfRangeByte_1 : decode (mB I_R_copyOfRangeByte) 1 = .ok (.iload_n 2, 1) := by decide +kernel
theorem e_R_copyOfRangeByte_2 : decode (mB I_R_copyOfRangeByte) 2 = .ok (.invokestatic 343, 3) := by decide +kernel
theorem e_R_copyOfRangeByte_5 : decode (mB I_R_copyOfRangeByte) 5 = .ok (.iload_n 2, 1) := by decide +kernel
theorem e_R_copyOfRangeByte_6 : decode (mB I_R_copyOfRangeByte) 6 = .ok (.iload_n 1, 1) := by decide +kernel
theorem e_R_copyOfRangeByte_7 : decode (mB I_R_copyOfRangeByte) 7 = .ok (.isub, 1) := by decide +kernel
theorem e_R_copyOfRangeByte_8 : decode (mB I_R_copyOfRangeByte) 8 = .ok (.istore_n 3, 1) := by decide +kernel
theorem e_R_copyOfRangeByte_9 : decode (mB I_R_copyOfRangeByte) 9 = .ok (.iload_n 3, 1) := by decide +kernel
theorem e_R_copyOfRangeByte_10 : decode (mB I_R_copyOfRangeByte) 10 = .ok (.newarray .byte, 2) := by decide +kernel
theorem e_R_copyOfRangeByte_12 : decode (mB I_R_copyOfRangeByte) 12 = .ok (.astore 4, 2) := by decide +kernel
theorem e_R_copyOfRangeByte_14 : decode (mB I_R_copyOfRangeByte) 14 = .ok (.aload_n 0, 1) := by decide +kernel
theorem e_R_copyOfRangeByte_15 : decode (mB I_R_copyOfRangeByte) 15 = .ok (.iload_n 1, 1) := by decide +kernel
theorem e_R_copyOfRangeByte_16 : decode (mB I_R_copyOfRangeByte) 16 = .ok (.aload 4, 2) := by decide +kernel
theorem e_R_copyOfRangeByte_18 : decode (mB I_R_copyOfRangeByte) 18 = .ok (.iconst 0, 1) := by decide +kernel
theorem e_R_copyOfRangeByte_19 : decode (mB I_R_copyOfRangeByte) 19 = .ok (.aload_n 0, 1) := by decide +kernel
theorem e_R_copyOfRangeByte_20 : decode (mB I_R_copyOfRangeByte) 20 = .ok (.arraylength, 1) := by decide +kernel
theorem e_R_copyOfRangeByte_21 : decode (mB I_R_copyOfRangeByte) 21 = .ok (.iload_n 1, 1) := by decide +kernel
theorem e_R_copyOfRangeByte_22 : decode (mB I_R_copyOfRangeByte) 22 = .ok (.isub, 1) := by decide +kernel
theorem e_R_copyOfRangeByte_23 : decode (mB I_R_copyOfRangeByte) 23 = .ok (.iload_n 3, 1) := by decide +kernel
theorem e_R_copyOfRangeByte_24 : decode (mB I_R_copyOfRangeByte) 24 = .ok (.invokestatic 304, 3) := by decide +kernel
theorem e_R_copyOfRangeByte_27 : decode (mB I_R_copyOfRangeByte) 27 = .ok (.invokestatic 150, 3) := by decide +kernel
theorem e_R_copyOfRangeByte_30 : decode (mB I_R_copyOfRangeByte) 30 = .ok (.aload 4, 2) := by decide +kernel
theorem e_R_copyOfRangeByte_32 : decode (mB I_R_copyOfRangeByte) 32 = .ok (.areturn, 1) := by decide +kernel
theorem e_R_copyOfRange_0 : decode (mB I_R_copyOfRange) 0 = .ok (.iload_n 1, 1) := by decide +kernel
theorem e_R_copyOfRange_1 : decode (mB I_R_copyOfRange) 1 = .ok (.ifCond .ne 9, 3) := by decide +kernel
theorem e_R_copyOfRange_4 : decode (mB I_R_copyOfRange) 4 = .ok (.iload_n 2, 1) := by decide +kernel
theorem e_R_copyOfRange_5 : decode (mB I_R_copyOfRange) 5 = .ok (.aload_n 0, 1) := by decide +kernel
theorem e_R_copyOfRange_6 : decode (mB I_R_copyOfRange) 6 = .ok (.arraylength, 1) := by decide +kernel
theorem e_R_copyOfRange_7 : decode (mB I_R_copyOfRange) 7 = .ok (.if_icmp .eq 10, 3) := by decide +kernel
theorem e_R_copyOfRange_10 : decode (mB I_R_copyOfRange) 10 = .ok (.aload_n 0, 1) := by decide +kernel
theorem e_R_copyOfRange_11 : decode (mB I_R_copyOfRange) 11 = .ok (.iload_n 1, 1) := by decide +kernel
theorem e_R_copyOfRange_12 : decode (mB I_R_copyOfRange) 12 = .ok (.iload_n 2, 1) := by decide +kernel
theorem e_R_copyOfRange_13 : decode (mB I_R_copyOfRange) 13 = .ok (.invokestatic 339, 3) := by decide +kernel
theorem e_R_copyOfRange_16 : decode (mB I_R_copyOfRange) 16 = .ok (.areturn, 1) := by decide +kernel
theorem e_X_init2_0 : decode (mB I_X_init2) 0 = .ok (.aload_n 0, 1) := by decide +kernel
theorem e_X_init2_1 : decode (mB I_X_init2) 1 = .ok (.invokespecial 1, 3) := by decide +kernel
theorem e_X_init2_4 : decode (mB I_X_init2) 4 = .ok (.aload_n 1, 1) := by decide +kernel
theorem e_X_init2_5 : decode (mB I_X_init2) 5 = .ok (.invokevirtual 552, 3) := by decide +kernel
theorem e_X_init2_8 : decode (mB I_X_init2) 8 = .ok (.astore_n 3, 1) := by decide +kernel
theorem e_X_init2_9 : decode (mB I_X_init2) 9 = .ok (.aload_n 1, 1) := by decide +kernel
theorem e_X_init2_10 : decode (mB I_X_init2) 10 = .ok (.invokevirtual 549, 3) := by decide +kernel
theorem e_X_init2_13 : decode (mB I_X_init2) 13 = .ok (.istore 4, 2) := by decide +kernel
theorem e_X_init2_15 : decode (mB I_X_init2) 15 = .ok (.aload_n 1, 1) := by decide +kernel
theorem e_X_init2_16 : decode (mB I_X_init2) 16 = .ok (.invokevirtual 1047, 3) := by decide +kernel
theorem e_X_init2_19 : decode (mB I_X_init2) 19 = .ok (.ifCond .eq 22, 3) := by decide +kernel
theorem e_X_init2_22 : decode (mB I_X_init2) 22 = .ok (.aload_n 0, 1) := by decide +kernel
theorem e_X_init2_23 : decode (mB I_X_init2) 23 = .ok (.iconst 0, 1) := by decide +kernel
theorem e_X_init2_24 : decode (mB I_X_init2) 24 = .ok (.putfield 15, 3) := by decide +kernel
theorem e_X_init2_27 : decode (mB I_X_init2) 27 = .ok (.aload_n 0, 1) := by decide +kernel
theorem e_X_init2_28 : decode (mB I_X_init2) 28 = .ok (.aload_n 3, 1) := by decide +kernel
theorem e_X_init2_29 : decode (mB I_X_init2) 29 = .ok (.iconst 0, 1) := by decide +kernel
theorem e_X_init2_30 : decode (mB I_X_init2) 30 = .ok (.iload 4, 2) := by decide +kernel
theorem e_X_init2_32 : decode (mB I_X_init2) 32 = .ok (.invokestatic 54, 3) := by decide +kernel
theorem e_X_init2_35 : decode (mB I_X_init2) 35 = .ok (.putfield 9, 3) := by decide +kernel
theorem e_X_init2_38 : decode (mB I_X_init2) 38 = .ok (.goto 59, 3) := by decide +kernel
theorem e_X_init2_97 : decode (mB I_X_init2) 97 = .ok (.return_, 1) := by decide +kernel
theorem e_X_init_0 : decode (mB I_X_init) 0 = .ok (.aload_n 0, 1) := by decide +kernel
theorem e_X_init_1 : decode (mB I_X_init) 1 = .ok (.aload_n 1, 1) := by decide +kernel
theorem e_X_init_2 : decode (mB I_X_init) 2 = .ok (.aconst_null, 1) := by decide +kernel
theorem e_X_init_3 : decode (mB I_X_init) 3 = .ok (.invokespecial 489, 3) := by decide +kernel
theorem e_X_init_6 : decode (mB I_X_init) 6 = .ok (.return_, 1) := by decide +kernel
theorem e_B_toString_0 : decode (mB I_B_toString) 0 = .ok (.new 18, 3) := by decide +kernel
theorem e_B_toString_3 : decode (mB I_B_toString) 3 = .ok (.dup, 1) := by decide +kernel
theorem e_B_toString_4 : decode (mB I_B_toString) 4 = .ok (.aload_n 0, 1) := by decide +kernel
theorem e_B_toString_5 : decode (mB I_B_toString) 5 = .ok (.invokespecial 137, 3) := by decide +kernel
theorem e_B_toString_8 : decode (mB I_B_toString) 8 = .ok (.areturn, 1) := by decide +kernel
theorem e_X_coder_0 : decode (mB I_X_coder) 0 = .ok (.getstatic 38, 3) := by decide +kernel
theorem e_X_coder_3 : decode (mB I_X_coder) 3 = .ok (.ifCond .eq 10, 3) := by decide +kernel
theorem e_X_coder_6 : decode (mB I_X_coder) 6 = .ok (.aload_n 0, 1) := by decide +kernel
theorem e_X_coder_7 : decode (mB I_X_coder) 7 = .ok (.getfield 15, 3) := by decide +kernel
theorem e_X_coder_10 : decode (mB I_X_coder) 10 = .ok (.goto 4, 3) := by decide +kernel
theorem e_X_coder_14 : decode (mB I_X_coder) 14 = .ok (.ireturn, 1) := by decide +kernel
theorem e_X_length_0 : decode (mB I_X_length) 0 = .ok (.aload_n 0, 1) := by decide +kernel
theorem e_X_length_1 : decode (mB I_X_length) 1 = .ok (.getfield 9, 3) := by decide +kernel
theorem e_X_length_4 : decode (mB I_X_length) 4 = .ok (.arraylength, 1) := by decide +kernel
theorem e_X_length_5 : decode (mB I_X_length) 5 = .ok (.aload_n 0, 1) := by decide +kernel
theorem e_X_length_6 : decode (mB I_X_length) 6 = .ok (.invokevirtual 335, 3) := by decide +kernel
theorem e_X_length_9 : decode (mB I_X_length) 9 = .ok (.ishr, 1) := by decide +kernel
theorem e_X_length_10 : decode (mB I_X_length) 10 = .ok (.ireturn, 1) := by decide +kernel
theorem e_X_isLatin1_0 : decode (mB I_X_isLatin1) 0 = .ok (.getstatic 38, 3) := by decide +kernel
theorem e_X_isLatin1_3 : decode (mB I_X_isLatin1) 3 = .ok (.ifCond .eq 14, 3) := by decide +kernel
theorem e_X_isLatin1_6 : decode (mB I_X_isLatin1) 6 = .ok (.aload_n 0, 1) := by decide +kernel
theorem e_X_isLatin1_7 : decode (mB I_X_isLatin1) 7 = .ok (.getfield 15, 3) := by decide +kernel
theorem e_X_isLatin1_10 : decode (mB I_X_isLatin1) 10 = .ok (.ifCond .ne 7, 3) := by decide +kernel
theorem e_X_isLatin1_13 : decode (mB I_X_isLatin1) 13 = .ok (.iconst 1, 1) := by decide +kernel
theorem e_X_isLatin1_14 : decode (mB I_X_isLatin1) 14 = .ok (.goto 4, 3) := by decide +kernel
theorem e_X_isLatin1_18 : decode (mB I_X_isLatin1) 18 = .ok (.ireturn, 1) := by decide +kernel
theorem e_Y_charAt_0 : decode (mB I_Y_charAt) 0 = .ok (.iload_n 1, 1) := by decide +kernel
theorem e_Y_charAt_1 : decode (mB I_Y_charAt) 1 = .ok (.aload_n 0, 1) := by decide +kernel
theorem e_Y_charAt_2 : decode (mB I_Y_charAt) 2 = .ok (.arraylength, 1) := by decide +kernel
theorem e_Y_charAt_3 : decode (mB I_Y_charAt) 3 = .ok (.invokestatic 9, 3) := by decide +kernel
theorem e_Y_charAt_6 : decode (mB I_Y_charAt) 6 = .ok (.aload_n 0, 1) := by decide +kernel
theorem e_Y_charAt_7 : decode (mB I_Y_charAt) 7 = .ok (.iload_n 1, 1) := by decide +kernel
theorem e_Y_charAt_8 : decode (mB I_Y_charAt) 8 = .ok (.baload, 1) := by decide +kernel
theorem e_Y_charAt_9 : decode (mB I_Y_charAt) 9 = .ok (.sipush 255, 3) := by decide +kernel
theorem e_Y_charAt_12 : decode (mB I_Y_charAt) 12 = .ok (.iand, 1) := by decide +kernel
theorem e_Y_charAt_13 : decode (mB I_Y_charAt) 13 = .ok (.i2c, 1) := by decide +kernel
theorem e_Y_charAt_14 : decode (mB I_Y_charAt) 14 = .ok (.ireturn, 1) := by decide +kernel
theorem e_X_charAt_0 : decode (mB I_X_charAt) 0 = .ok (.aload_n 0, 1) := by decide +kernel
theorem e_X_charAt_1 : decode (mB I_X_charAt) 1 = .ok (.invokevirtual 492, 3) := by decide +kernel
theorem e_X_charAt_4 : decode (mB I_X_charAt) 4 = .ok (.ifCond .eq 12, 3) := by decide +kernel
theorem e_X_charAt_7 : decode (mB I_X_charAt) 7 = .ok (.aload_n 0, 1) := by decide +kernel
theorem e_X_charAt_8 : decode (mB I_X_charAt) 8 = .ok (.getfield 9, 3) := by decide +kernel
theorem e_X_charAt_11 : decode (mB I_X_charAt) 11 = .ok (.iload_n 1, 1) := by decide +kernel
theorem e_X_charAt_12 : decode (mB I_X_charAt) 12 = .ok (.invokestatic 495, 3) := by decide +kernel
theorem e_X_charAt_15 : decode (mB I_X_charAt) 15 = .ok (.ireturn, 1) := by decide +kernel
theorem e_W_truncateInput_0 : decode (mB I_W_truncateInput) 0 = .ok (.aload_n 0, 1) := by decide +kernel
theorem e_W_truncateInput_1 : decode (mB I_W_truncateInput) 1 = .ok (.iload_n 1, 1) := by decide +kernel
theorem e_W_truncateInput_2 : decode (mB I_W_truncateInput) 2 = .ok (.invokevirtual 7, 3) := by decide +kernel
theorem e_W_truncateInput_5 : decode (mB I_W_truncateInput) 5 = .ok (.ireturn, 1) := by decide +kernel
theorem e_W_truncateInput_6 : decode (mB I_W_truncateInput) 6 = .ok (.astore_n 2, 1) := by decide +kernel
theorem e_W_truncateInput_7 : decode (mB I_W_truncateInput) 7 = .ok (.ldc 15, 2) := by decide +kernel
theorem e_W_truncateInput_9 : decode (mB I_W_truncateInput) 9 = .ok (.ireturn, 1) := by decide +kernel
theorem e_W_addLeg_0 : decode (mB I_W_addLeg) 0 = .ok (.aload_n 0, 1) := by decide +kernel
theorem e_W_addLeg_1 : decode (mB I_W_addLeg) 1 = .ok (.iload_n 1, 1) := by decide +kernel
theorem e_W_addLeg_2 : decode (mB I_W_addLeg) 2 = .ok (.iload_n 2, 1) := by decide +kernel
theorem e_W_addLeg_3 : decode (mB I_W_addLeg) 3 = .ok (.iload_n 3, 1) := by decide +kernel
theorem e_W_addLeg_4 : decode (mB I_W_addLeg) 4 = .ok (.iload 4, 2) := by decide +kernel
theorem e_W_addLeg_6 : decode (mB I_W_addLeg) 6 = .ok (.iload 5, 2) := by decide +kernel
theorem e_W_addLeg_8 : decode (mB I_W_addLeg) 8 = .ok (.invokevirtual 16, 3) := by decide +kernel
theorem e_W_addLeg_11 : decode (mB I_W_addLeg) 11 = .ok (.ireturn, 1) := by decide +kernel
theorem e_W_addLeg_12 : decode (mB I_W_addLeg) 12 = .ok (.astore 6, 2) := by decide +kernel
theorem e_W_addLeg_14 : decode (mB I_W_addLeg) 14 = .ok (.ldc 15, 2) := by decide +kernel
theorem e_W_addLeg_16 : decode (mB I_W_addLeg) 16 = .ok (.ireturn, 1) := by decide +kernel
theorem e_W_addLeg_17 : decode (mB I_W_addLeg) 17 = .ok (.astore 6, 2) := by decide +kernel
theorem e_W_addLeg_19 : decode (mB I_W_addLeg) 19 = .ok (.ldc 22, 2) := by decide +kernel
theorem e_W_addLeg_21 : decode (mB I_W_addLeg) 21 = .ok (.ireturn, 1) := by decide +kernel
theorem e_W_addBog_0 : decode (mB I_W_addBog) 0 = .ok (.aload_n 0, 1) := by decide +kernel
theorem e_W_addBog_1 : decode (mB I_W_addBog) 1 = .ok (.iload_n 1, 1) := by decide +kernel
theorem e_W_addBog_2 : decode (mB I_W_addBog) 2 = .ok (.iload_n 2, 1) := by decide +kernel
theorem e_W_addBog_3 : decode (mB I_W_addBog) 3 = .ok (.invokevirtual 23, 3) := by decide +kernel
theorem e_W_addBog_6 : decode (mB I_W_addBog) 6 = .ok (.ireturn, 1) := by decide +kernel
theorem e_W_addBog_7 : decode (mB I_W_addBog) 7 = .ok (.astore_n 3, 1) := by decide +kernel
theorem e_W_addBog_8 : decode (mB I_W_addBog) 8 = .ok (.ldc 15, 2) := by decide +kernel
theorem e_W_addBog_10 : decode (mB I_W_addBog) 10 = .ok (.ireturn, 1) := by decide +kernel
theorem e_W_addBog_11 : decode (mB I_W_addBog) 11 = .ok (.astore_n 3, 1) := by decide +kernel
theorem e_W_addBog_12 : decode (mB I_W_addBog) 12 = .ok (.ldc 22, 2) := by decide +kernel
theorem e_W_addBog_14 : decode (mB I_W_addBog) 14 = .ok (.ireturn, 1) := by decide +kernel
theorem e_W_dropPin_0 : decode (mB I_W_dropPin) 0 = .ok (.aload_n 0, 1) := by decide +kernel
theorem e_W_dropPin_1 : decode (mB I_W_dropPin) 1 = .ok (.iload_n 1, 1) := by decide +kernel
theorem e_W_dropPin_2 : decode (mB I_W_dropPin) 2 = .ok (.invokevirtual 27, 3) := by decide +kernel
theorem e_W_dropPin_5 : decode (mB I_W_dropPin) 5 = .ok (.ireturn, 1) := by decide +kernel
theorem e_W_dropPin_6 : decode (mB I_W_dropPin) 6 = .ok (.astore_n 2, 1) := by decide +kernel
theorem e_W_dropPin_7 : decode (mB I_W_dropPin) 7 = .ok (.ldc 32, 2) := by decide +kernel
theorem e_W_dropPin_9 : decode (mB I_W_dropPin) 9 = .ok (.ireturn, 1) := by decide +kernel
theorem e_W_dropPin_10 : decode (mB I_W_dropPin) 10 = .ok (.astore_n 2, 1) := by decide +kernel
theorem e_W_dropPin_11 : decode (mB I_W_dropPin) 11 = .ok (.ldc 22, 2) := by decide +kernel
theorem e_W_dropPin_13 : decode (mB I_W_dropPin) 13 = .ok (.ireturn, 1) := by decide +kernel
theorem e_W_findPin_0 : decode (mB I_W_findPin) 0 = .ok (.aload_n 0, 1) := by decide +kernel
theorem e_W_findPin_1 : decode (mB I_W_findPin) 1 = .ok (.iload_n 1, 1) := by decide +kernel
theorem e_W_findPin_2 : decode (mB I_W_findPin) 2 = .ok (.invokevirtual 33, 3) := by decide +kernel
theorem e_W_findPin_5 : decode (mB I_W_findPin) 5 = .ok (.ireturn, 1) := by decide +kernel
theorem e_W_findPin_6 : decode (mB I_W_findPin) 6 = .ok (.astore_n 2, 1) := by decide +kernel
theorem e_W_findPin_7 : decode (mB I_W_findPin) 7 = .ok (.ldc 32, 2) := by decide +kernel
theorem e_W_findPin_9 : decode (mB I_W_findPin) 9 = .ok (.ireturn, 1) := by decide +kernel
theorem e_W_findPin_10 : decode (mB I_W_findPin) 10 = .ok (.astore_n 2, 1) := by decide +kernel
theorem e_W_findPin_11 : decode (mB I_W_findPin) 11 = .ok (.ldc 22, 2) := by decide +kernel
theorem e_W_findPin_13 : decode (mB I_W_findPin) 13 = .ok (.ireturn, 1) := by decide +kernel
theorem e_W_removeLast_0 : decode (mB I_W_removeLast) 0 = .ok (.aload_n 0, 1) := by decide +kernel
theorem e_W_removeLast_1 : decode (mB I_W_removeLast) 1 = .ok (.invokevirtual 36, 3) := by decide +kernel
theorem e_W_removeLast_4 : decode (mB I_W_removeLast) 4 = .ok (.ireturn, 1) := by decide +kernel
theorem e_W_removeLast_5 : decode (mB I_W_removeLast) 5 = .ok (.astore_n 1, 1) := by decide +kernel
theorem e_W_removeLast_6 : decode (mB I_W_removeLast) 6 = .ok (.ldc 22, 2) := by decide +kernel
theorem e_W_removeLast_8 : decode (mB I_W_removeLast) 8 = .ok (.ireturn, 1) := by decide +kernel
theorem e_W_setWear_0 : decode (mB I_W_setWear) 0 = .ok (.aload_n 0, 1) := by decide +kernel
theorem e_W_setWear_1 : decode (mB I_W_setWear) 1 = .ok (.iload_n 1, 1) := by decide +kernel
theorem e_W_setWear_2 : decode (mB I_W_setWear) 2 = .ok (.invokevirtual 40, 3) := by decide +kernel
theorem e_W_setWear_5 : decode (mB I_W_setWear) 5 = .ok (.ireturn, 1) := by decide +kernel
theorem e_W_setWear_6 : decode (mB I_W_setWear) 6 = .ok (.astore_n 2, 1) := by decide +kernel
theorem e_W_setWear_7 : decode (mB I_W_setWear) 7 = .ok (.ldc 15, 2) := by decide +kernel
theorem e_W_setWear_9 : decode (mB I_W_setWear) 9 = .ok (.ireturn, 1) := by decide +kernel
theorem e_W_setPace_0 : decode (mB I_W_setPace) 0 = .ok (.aload_n 0, 1) := by decide +kernel
theorem e_W_setPace_1 : decode (mB I_W_setPace) 1 = .ok (.iload_n 1, 1) := by decide +kernel
theorem e_W_setPace_2 : decode (mB I_W_setPace) 2 = .ok (.invokevirtual 43, 3) := by decide +kernel
theorem e_W_setPace_5 : decode (mB I_W_setPace) 5 = .ok (.ireturn, 1) := by decide +kernel
theorem e_W_setPace_6 : decode (mB I_W_setPace) 6 = .ok (.astore_n 2, 1) := by decide +kernel
theorem e_W_setPace_7 : decode (mB I_W_setPace) 7 = .ok (.ldc 15, 2) := by decide +kernel
theorem e_W_setPace_9 : decode (mB I_W_setPace) 9 = .ok (.ireturn, 1) := by decide +kernel
theorem e_W_undo_0 : decode (mB I_W_undo) 0 = .ok (.aload_n 0, 1) := by decide +kernel
theorem e_W_undo_1 : decode (mB I_W_undo) 1 = .ok (.invokevirtual 46, 3) := by decide +kernel
theorem e_W_undo_4 : decode (mB I_W_undo) 4 = .ok (.ireturn, 1) := by decide +kernel
theorem e_W_undo_5 : decode (mB I_W_undo) 5 = .ok (.astore_n 1, 1) := by decide +kernel
theorem e_W_undo_6 : decode (mB I_W_undo) 6 = .ok (.ldc 22, 2) := by decide +kernel
theorem e_W_undo_8 : decode (mB I_W_undo) 8 = .ok (.ireturn, 1) := by decide +kernel
theorem e_W_bearing_0 : decode (mB I_W_bearing) 0 = .ok (.aload_n 0, 1) := by decide +kernel
theorem e_W_bearing_1 : decode (mB I_W_bearing) 1 = .ok (.iload_n 1, 1) := by decide +kernel
theorem e_W_bearing_2 : decode (mB I_W_bearing) 2 = .ok (.invokevirtual 49, 3) := by decide +kernel
theorem e_W_bearing_5 : decode (mB I_W_bearing) 5 = .ok (.ireturn, 1) := by decide +kernel
theorem e_W_bearing_6 : decode (mB I_W_bearing) 6 = .ok (.astore_n 2, 1) := by decide +kernel
theorem e_W_bearing_7 : decode (mB I_W_bearing) 7 = .ok (.ldc 32, 2) := by decide +kernel
theorem e_W_bearing_9 : decode (mB I_W_bearing) 9 = .ok (.ireturn, 1) := by decide +kernel
theorem e_W_pins_0 : decode (mB I_W_pins) 0 = .ok (.aload_n 0, 1) := by decide +kernel
theorem e_W_pins_1 : decode (mB I_W_pins) 1 = .ok (.iload_n 1, 1) := by decide +kernel
theorem e_W_pins_2 : decode (mB I_W_pins) 2 = .ok (.invokevirtual 52, 3) := by decide +kernel
theorem e_W_pins_5 : decode (mB I_W_pins) 5 = .ok (.ireturn, 1) := by decide +kernel
theorem e_W_pins_6 : decode (mB I_W_pins) 6 = .ok (.astore_n 2, 1) := by decide +kernel
theorem e_W_pins_7 : decode (mB I_W_pins) 7 = .ok (.ldc 32, 2) := by decide +kernel
theorem e_W_pins_9 : decode (mB I_W_pins) 9 = .ok (.ireturn, 1) := by decide +kernel
theorem e_W_droppedPins_0 : decode (mB I_W_droppedPins) 0 = .ok (.aload_n 0, 1) := by decide +kernel
theorem e_W_droppedPins_1 : decode (mB I_W_droppedPins) 1 = .ok (.iload_n 1, 1) := by decide +kernel
theorem e_W_droppedPins_2 : decode (mB I_W_droppedPins) 2 = .ok (.invokevirtual 55, 3) := by decide +kernel
theorem e_W_droppedPins_5 : decode (mB I_W_droppedPins) 5 = .ok (.ireturn, 1) := by decide +kernel
theorem e_W_droppedPins_6 : decode (mB I_W_droppedPins) 6 = .ok (.astore_n 2, 1) := by decide +kernel
theorem e_W_droppedPins_7 : decode (mB I_W_droppedPins) 7 = .ok (.ldc 32, 2) := by decide +kernel
theorem e_W_droppedPins_9 : decode (mB I_W_droppedPins) 9 = .ok (.ireturn, 1) := by decide +kernel
theorem e_W_readLength_0 : decode (mB I_W_readLength) 0 = .ok (.aload_n 0, 1) := by decide +kernel
theorem e_W_readLength_1 : decode (mB I_W_readLength) 1 = .ok (.iload_n 1, 1) := by decide +kernel
theorem e_W_readLength_2 : decode (mB I_W_readLength) 2 = .ok (.invokevirtual 58, 3) := by decide +kernel
theorem e_W_readLength_5 : decode (mB I_W_readLength) 5 = .ok (.ireturn, 1) := by decide +kernel
theorem e_W_readLength_6 : decode (mB I_W_readLength) 6 = .ok (.astore_n 2, 1) := by decide +kernel
theorem e_W_readLength_7 : decode (mB I_W_readLength) 7 = .ok (.ldc 32, 2) := by decide +kernel
theorem e_W_readLength_9 : decode (mB I_W_readLength) 9 = .ok (.ireturn, 1) := by decide +kernel
theorem e_W_slopeLength_0 : decode (mB I_W_slopeLength) 0 = .ok (.aload_n 0, 1) := by decide +kernel
theorem e_W_slopeLength_1 : decode (mB I_W_slopeLength) 1 = .ok (.iload_n 1, 1) := by decide +kernel
theorem e_W_slopeLength_2 : decode (mB I_W_slopeLength) 2 = .ok (.invokevirtual 61, 3) := by decide +kernel
theorem e_W_slopeLength_5 : decode (mB I_W_slopeLength) 5 = .ok (.ireturn, 1) := by decide +kernel
theorem e_W_slopeLength_6 : decode (mB I_W_slopeLength) 6 = .ok (.astore_n 2, 1) := by decide +kernel
theorem e_W_slopeLength_7 : decode (mB I_W_slopeLength) 7 = .ok (.ldc 32, 2) := by decide +kernel
theorem e_W_slopeLength_9 : decode (mB I_W_slopeLength) 9 = .ok (.ireturn, 1) := by decide +kernel
theorem e_W_horizontalLength_0 : decode (mB I_W_horizontalLength) 0 = .ok (.aload_n 0, 1) := by decide +kernel
theorem e_W_horizontalLength_1 : decode (mB I_W_horizontalLength) 1 = .ok (.iload_n 1, 1) := by decide +kernel
theorem e_W_horizontalLength_2 : decode (mB I_W_horizontalLength) 2 = .ok (.invokevirtual 64, 3) := by decide +kernel
theorem e_W_horizontalLength_5 : decode (mB I_W_horizontalLength) 5 = .ok (.ireturn, 1) := by decide +kernel
theorem e_W_horizontalLength_6 : decode (mB I_W_horizontalLength) 6 = .ok (.astore_n 2, 1) := by decide +kernel
theorem e_W_horizontalLength_7 : decode (mB I_W_horizontalLength) 7 = .ok (.ldc 32, 2) := by decide +kernel
theorem e_W_horizontalLength_9 : decode (mB I_W_horizontalLength) 9 = .ok (.ireturn, 1) := by decide +kernel
theorem e_W_eastStep_0 : decode (mB I_W_eastStep) 0 = .ok (.aload_n 0, 1) := by decide +kernel
theorem e_W_eastStep_1 : decode (mB I_W_eastStep) 1 = .ok (.iload_n 1, 1) := by decide +kernel
theorem e_W_eastStep_2 : decode (mB I_W_eastStep) 2 = .ok (.invokevirtual 67, 3) := by decide +kernel
theorem e_W_eastStep_5 : decode (mB I_W_eastStep) 5 = .ok (.ireturn, 1) := by decide +kernel
theorem e_W_eastStep_6 : decode (mB I_W_eastStep) 6 = .ok (.astore_n 2, 1) := by decide +kernel
theorem e_W_eastStep_7 : decode (mB I_W_eastStep) 7 = .ok (.ldc 32, 2) := by decide +kernel
theorem e_W_eastStep_9 : decode (mB I_W_eastStep) 9 = .ok (.ireturn, 1) := by decide +kernel
theorem e_W_northStep_0 : decode (mB I_W_northStep) 0 = .ok (.aload_n 0, 1) := by decide +kernel
theorem e_W_northStep_1 : decode (mB I_W_northStep) 1 = .ok (.iload_n 1, 1) := by decide +kernel
theorem e_W_northStep_2 : decode (mB I_W_northStep) 2 = .ok (.invokevirtual 70, 3) := by decide +kernel
theorem e_W_northStep_5 : decode (mB I_W_northStep) 5 = .ok (.ireturn, 1) := by decide +kernel
theorem e_W_northStep_6 : decode (mB I_W_northStep) 6 = .ok (.astore_n 2, 1) := by decide +kernel
theorem e_W_northStep_7 : decode (mB I_W_northStep) 7 = .ok (.ldc 32, 2) := by decide +kernel
theorem e_W_northStep_9 : decode (mB I_W_northStep) 9 = .ok (.ireturn, 1) := by decide +kernel
theorem e_W_tallies_0 : decode (mB I_W_tallies) 0 = .ok (.aload_n 0, 1) := by decide +kernel
theorem e_W_tallies_1 : decode (mB I_W_tallies) 1 = .ok (.iload_n 1, 1) := by decide +kernel
theorem e_W_tallies_2 : decode (mB I_W_tallies) 2 = .ok (.invokevirtual 73, 3) := by decide +kernel
theorem e_W_tallies_5 : decode (mB I_W_tallies) 5 = .ok (.ireturn, 1) := by decide +kernel
theorem e_W_tallies_6 : decode (mB I_W_tallies) 6 = .ok (.astore_n 2, 1) := by decide +kernel
theorem e_W_tallies_7 : decode (mB I_W_tallies) 7 = .ok (.ldc 32, 2) := by decide +kernel
theorem e_W_tallies_9 : decode (mB I_W_tallies) 9 = .ok (.ireturn, 1) := by decide +kernel
theorem e_W_misclosureIfDropped_0 : decode (mB I_W_misclosureIfDropped) 0 = .ok (.aload_n 0, 1) := by decide +kernel
theorem e_W_misclosureIfDropped_1 : decode (mB I_W_misclosureIfDropped) 1 = .ok (.iload_n 1, 1) := by decide +kernel
theorem e_W_misclosureIfDropped_2 : decode (mB I_W_misclosureIfDropped) 2 = .ok (.invokevirtual 76, 3) := by decide +kernel
theorem e_W_misclosureIfDropped_5 : decode (mB I_W_misclosureIfDropped) 5 = .ok (.ireturn, 1) := by decide +kernel
theorem e_W_misclosureIfDropped_6 : decode (mB I_W_misclosureIfDropped) 6 = .ok (.astore_n 2, 1) := by decide +kernel
theorem e_W_misclosureIfDropped_7 : decode (mB I_W_misclosureIfDropped) 7 = .ok (.ldc 32, 2) := by decide +kernel
theorem e_W_misclosureIfDropped_9 : decode (mB I_W_misclosureIfDropped) 9 = .ok (.ireturn, 1) := by decide +kernel
theorem e_W_isBog_0 : decode (mB I_W_isBog) 0 = .ok (.aload_n 0, 1) := by decide +kernel
theorem e_W_isBog_1 : decode (mB I_W_isBog) 1 = .ok (.iload_n 1, 1) := by decide +kernel
theorem e_W_isBog_2 : decode (mB I_W_isBog) 2 = .ok (.invokevirtual 79, 3) := by decide +kernel
theorem e_W_isBog_5 : decode (mB I_W_isBog) 5 = .ok (.ifCond .eq 7, 3) := by decide +kernel
theorem e_W_isBog_8 : decode (mB I_W_isBog) 8 = .ok (.iconst 1, 1) := by decide +kernel
theorem e_W_isBog_9 : decode (mB I_W_isBog) 9 = .ok (.goto 4, 3) := by decide +kernel
theorem e_W_isBog_12 : decode (mB I_W_isBog) 12 = .ok (.iconst 0, 1) := by decide +kernel
theorem e_W_isBog_13 : decode (mB I_W_isBog) 13 = .ok (.ireturn, 1) := by decide +kernel
theorem e_W_isBog_14 : decode (mB I_W_isBog) 14 = .ok (.astore_n 2, 1) := by decide +kernel
theorem e_W_isBog_15 : decode (mB I_W_isBog) 15 = .ok (.ldc 32, 2) := by decide +kernel
theorem e_W_isBog_17 : decode (mB I_W_isBog) 17 = .ok (.ireturn, 1) := by decide +kernel
theorem e_W_nameByte_0 : decode (mB I_W_nameByte) 0 = .ok (.aload_n 0, 1) := by decide +kernel
theorem e_W_nameByte_1 : decode (mB I_W_nameByte) 1 = .ok (.iload_n 1, 1) := by decide +kernel
theorem e_W_nameByte_2 : decode (mB I_W_nameByte) 2 = .ok (.iload_n 2, 1) := by decide +kernel
theorem e_W_nameByte_3 : decode (mB I_W_nameByte) 3 = .ok (.invokevirtual 83, 3) := by decide +kernel
theorem e_W_nameByte_6 : decode (mB I_W_nameByte) 6 = .ok (.ireturn, 1) := by decide +kernel
theorem e_W_nameByte_7 : decode (mB I_W_nameByte) 7 = .ok (.astore_n 3, 1) := by decide +kernel
theorem e_W_nameByte_8 : decode (mB I_W_nameByte) 8 = .ok (.ldc 32, 2) := by decide +kernel
theorem e_W_nameByte_10 : decode (mB I_W_nameByte) 10 = .ok (.ireturn, 1) := by decide +kernel
theorem e_W_rawEast_0 : decode (mB I_W_rawEast) 0 = .ok (.aload_n 0, 1) := by decide +kernel
theorem e_W_rawEast_1 : decode (mB I_W_rawEast) 1 = .ok (.iload_n 1, 1) := by decide +kernel
theorem e_W_rawEast_2 : decode (mB I_W_rawEast) 2 = .ok (.invokevirtual 86, 3) := by decide +kernel
theorem e_W_rawEast_5 : decode (mB I_W_rawEast) 5 = .ok (.ireturn, 1) := by decide +kernel
theorem e_W_rawEast_6 : decode (mB I_W_rawEast) 6 = .ok (.astore_n 2, 1) := by decide +kernel
theorem e_W_rawEast_7 : decode (mB I_W_rawEast) 7 = .ok (.ldc 32, 2) := by decide +kernel
theorem e_W_rawEast_9 : decode (mB I_W_rawEast) 9 = .ok (.ireturn, 1) := by decide +kernel
theorem e_W_rawNorth_0 : decode (mB I_W_rawNorth) 0 = .ok (.aload_n 0, 1) := by decide +kernel
theorem e_W_rawNorth_1 : decode (mB I_W_rawNorth) 1 = .ok (.iload_n 1, 1) := by decide +kernel
theorem e_W_rawNorth_2 : decode (mB I_W_rawNorth) 2 = .ok (.invokevirtual 89, 3) := by decide +kernel
theorem e_W_rawNorth_5 : decode (mB I_W_rawNorth) 5 = .ok (.ireturn, 1) := by decide +kernel
theorem e_W_rawNorth_6 : decode (mB I_W_rawNorth) 6 = .ok (.astore_n 2, 1) := by decide +kernel
theorem e_W_rawNorth_7 : decode (mB I_W_rawNorth) 7 = .ok (.ldc 32, 2) := by decide +kernel
theorem e_W_rawNorth_9 : decode (mB I_W_rawNorth) 9 = .ok (.ireturn, 1) := by decide +kernel
theorem e_W_east_0 : decode (mB I_W_east) 0 = .ok (.aload_n 0, 1) := by decide +kernel
theorem e_W_east_1 : decode (mB I_W_east) 1 = .ok (.iload_n 1, 1) := by decide +kernel
theorem e_W_east_2 : decode (mB I_W_east) 2 = .ok (.invokevirtual 92, 3) := by decide +kernel
theorem e_W_east_5 : decode (mB I_W_east) 5 = .ok (.ireturn, 1) := by decide +kernel
theorem e_W_east_6 : decode (mB I_W_east) 6 = .ok (.astore_n 2, 1) := by decide +kernel
theorem e_W_east_7 : decode (mB I_W_east) 7 = .ok (.ldc 32, 2) := by decide +kernel
theorem e_W_east_9 : decode (mB I_W_east) 9 = .ok (.ireturn, 1) := by decide +kernel
theorem e_W_north_0 : decode (mB I_W_north) 0 = .ok (.aload_n 0, 1) := by decide +kernel
theorem e_W_north_1 : decode (mB I_W_north) 1 = .ok (.iload_n 1, 1) := by decide +kernel
theorem e_W_north_2 : decode (mB I_W_north) 2 = .ok (.invokevirtual 95, 3) := by decide +kernel
theorem e_W_north_5 : decode (mB I_W_north) 5 = .ok (.ireturn, 1) := by decide +kernel
theorem e_W_north_6 : decode (mB I_W_north) 6 = .ok (.astore_n 2, 1) := by decide +kernel
theorem e_W_north_7 : decode (mB I_W_north) 7 = .ok (.ldc 32, 2) := by decide +kernel
theorem e_W_north_9 : decode (mB I_W_north) 9 = .ok (.ireturn, 1) := by decide +kernel
theorem e_W_run_0 : decode (mB I_W_run) 0 = .ok (.aload_n 0, 1) := by decide +kernel
theorem e_W_run_1 : decode (mB I_W_run) 1 = .ok (.iload_n 1, 1) := by decide +kernel
theorem e_W_run_2 : decode (mB I_W_run) 2 = .ok (.invokevirtual 98, 3) := by decide +kernel
theorem e_W_run_5 : decode (mB I_W_run) 5 = .ok (.ireturn, 1) := by decide +kernel
theorem e_W_run_6 : decode (mB I_W_run) 6 = .ok (.astore_n 2, 1) := by decide +kernel
theorem e_W_run_7 : decode (mB I_W_run) 7 = .ok (.ldc 32, 2) := by decide +kernel
theorem e_W_run_9 : decode (mB I_W_run) 9 = .ok (.ireturn, 1) := by decide +kernel
theorem e_W_distanceFromStart_0 : decode (mB I_W_distanceFromStart) 0 = .ok (.aload_n 0, 1) := by decide +kernel
theorem e_W_distanceFromStart_1 : decode (mB I_W_distanceFromStart) 1 = .ok (.iload_n 1, 1) := by decide +kernel
theorem e_W_distanceFromStart_2 : decode (mB I_W_distanceFromStart) 2 = .ok (.invokevirtual 101, 3) := by decide +kernel
theorem e_W_distanceFromStart_5 : decode (mB I_W_distanceFromStart) 5 = .ok (.ireturn, 1) := by decide +kernel
theorem e_W_distanceFromStart_6 : decode (mB I_W_distanceFromStart) 6 = .ok (.astore_n 2, 1) := by decide +kernel
theorem e_W_distanceFromStart_7 : decode (mB I_W_distanceFromStart) 7 = .ok (.ldc 32, 2) := by decide +kernel
theorem e_W_distanceFromStart_9 : decode (mB I_W_distanceFromStart) 9 = .ok (.ireturn, 1) := by decide +kernel
theorem e_W_word_0 : decode (mB I_W_word) 0 = .ok (.iconst 0, 1) := by decide +kernel
theorem e_W_word_1 : decode (mB I_W_word) 1 = .ok (.istore_n 2, 1) := by decide +kernel
theorem e_W_word_2 : decode (mB I_W_word) 2 = .ok (.iload_n 1, 1) := by decide +kernel
theorem e_W_word_3 : decode (mB I_W_word) 3 = .ok (.istore_n 3, 1) := by decide +kernel
theorem e_W_word_4 : decode (mB I_W_word) 4 = .ok (.iload_n 3, 1) := by decide +kernel
theorem e_W_word_5 : decode (mB I_W_word) 5 = .ok (.iload_n 1, 1) := by decide +kernel
theorem e_W_word_6 : decode (mB I_W_word) 6 = .ok (.iconst 4, 1) := by decide +kernel
theorem e_W_word_7 : decode (mB I_W_word) 7 = .ok (.iadd, 1) := by decide +kernel
theorem e_W_word_8 : decode (mB I_W_word) 8 = .ok (.if_icmp .ge 32, 3) := by decide +kernel
theorem e_W_word_11 : decode (mB I_W_word) 11 = .ok (.iload_n 2, 1) := by decide +kernel
theorem e_W_word_12 : decode (mB I_W_word) 12 = .ok (.bipush 8, 2) := by decide +kernel
theorem e_W_word_14 : decode (mB I_W_word) 14 = .ok (.ishl, 1) := by decide +kernel
theorem e_W_word_15 : decode (mB I_W_word) 15 = .ok (.iload_n 3, 1) := by decide +kernel
theorem e_W_word_16 : decode (mB I_W_word) 16 = .ok (.aload_n 0, 1) := by decide +kernel
theorem e_W_word_17 : decode (mB I_W_word) 17 = .ok (.invokevirtual 104, 3) := by decide +kernel
theorem e_W_word_20 : decode (mB I_W_word) 20 = .ok (.if_icmp .ge 11, 3) := by decide +kernel
theorem e_W_word_23 : decode (mB I_W_word) 23 = .ok (.aload_n 0, 1) := by decide +kernel
theorem e_W_word_24 : decode (mB I_W_word) 24 = .ok (.iload_n 3, 1) := by decide +kernel
theorem e_W_word_25 : decode (mB I_W_word) 25 = .ok (.invokevirtual 109, 3) := by decide +kernel
theorem e_W_word_28 : decode (mB I_W_word) 28 = .ok (.goto 4, 3) := by decide +kernel
theorem e_W_word_31 : decode (mB I_W_word) 31 = .ok (.iconst 0, 1) := by decide +kernel
theorem e_W_word_32 : decode (mB I_W_word) 32 = .ok (.ior, 1) := by decide +kernel
theorem e_W_word_33 : decode (mB I_W_word) 33 = .ok (.istore_n 2, 1) := by decide +kernel
theorem e_W_word_34 : decode (mB I_W_word) 34 = .ok (.iinc 3 1, 3) := by decide +kernel
theorem e_W_word_37 : decode (mB I_W_word) 37 = .ok (.goto (-33), 3) := by decide +kernel
theorem e_W_word_40 : decode (mB I_W_word) 40 = .ok (.iload_n 2, 1) := by decide +kernel
theorem e_W_word_41 : decode (mB I_W_word) 41 = .ok (.ireturn, 1) := by decide +kernel
theorem e_W_write_0 : decode (mB I_W_write) 0 = .ok (.aload_n 0, 1) := by decide +kernel
theorem e_W_write_1 : decode (mB I_W_write) 1 = .ok (.iconst 0, 1) := by decide +kernel
theorem e_W_write_2 : decode (mB I_W_write) 2 = .ok (.invokestatic 113, 3) := by decide +kernel
theorem e_W_write_5 : decode (mB I_W_write) 5 = .ok (.ifCond .eq 5, 3) := by decide +kernel
theorem e_W_write_8 : decode (mB I_W_write) 8 = .ok (.iconst 0, 1) := by decide +kernel
theorem e_W_write_9 : decode (mB I_W_write) 9 = .ok (.ireturn, 1) := by decide +kernel
theorem e_W_write_10 : decode (mB I_W_write) 10 = .ok (.iconst 0, 1) := by decide +kernel
theorem e_W_write_11 : decode (mB I_W_write) 11 = .ok (.istore_n 2, 1) := by decide +kernel
theorem e_W_write_12 : decode (mB I_W_write) 12 = .ok (.iload_n 2, 1) := by decide +kernel
theorem e_W_write_13 : decode (mB I_W_write) 13 = .ok (.aload_n 1, 1) := by decide +kernel
theorem e_W_write_14 : decode (mB I_W_write) 14 = .ok (.invokevirtual 104, 3) := by decide +kernel
theorem e_W_write_17 : decode (mB I_W_write) 17 = .ok (.if_icmp .ge 58, 3) := by decide +kernel
theorem e_W_write_20 : decode (mB I_W_write) 20 = .ok (.aload_n 0, 1) := by decide +kernel
theorem e_W_write_21 : decode (mB I_W_write) 21 = .ok (.aload_n 1, 1) := by decide +kernel
theorem e_W_write_22 : decode (mB I_W_write) 22 = .ok (.iload_n 2, 1) := by decide +kernel
theorem e_W_write_23 : decode (mB I_W_write) 23 = .ok (.invokestatic 118, 3) := by decide +kernel
theorem e_W_write_26 : decode (mB I_W_write) 26 = .ok (.aload_n 1, 1) := by decide +kernel
theorem e_W_write_27 : decode (mB I_W_write) 27 = .ok (.iload_n 2, 1) := by decide +kernel
theorem e_W_write_28 : decode (mB I_W_write) 28 = .ok (.iconst 4, 1) := by decide +kernel
theorem e_W_write_29 : decode (mB I_W_write) 29 = .ok (.iadd, 1) := by decide +kernel
theorem e_W_write_30 : decode (mB I_W_write) 30 = .ok (.invokestatic 118, 3) := by decide +kernel
theorem e_W_write_33 : decode (mB I_W_write) 33 = .ok (.aload_n 1, 1) := by decide +kernel
theorem e_W_write_34 : decode (mB I_W_write) 34 = .ok (.iload_n 2, 1) := by decide +kernel
theorem e_W_write_35 : decode (mB I_W_write) 35 = .ok (.bipush 8, 2) := by decide +kernel
theorem e_W_write_37 : decode (mB I_W_write) 37 = .ok (.iadd, 1) := by decide +kernel
theorem e_W_write_38 : decode (mB I_W_write) 38 = .ok (.invokestatic 118, 3) := by decide +kernel
theorem e_W_write_41 : decode (mB I_W_write) 41 = .ok (.aload_n 1, 1) := by decide +kernel
theorem e_W_write_42 : decode (mB I_W_write) 42 = .ok (.iload_n 2, 1) := by decide +kernel
theorem e_W_write_43 : decode (mB I_W_write) 43 = .ok (.bipush 12, 2) := by decide +kernel
theorem e_W_write_45 : decode (mB I_W_write) 45 = .ok (.iadd, 1) := by decide +kernel
theorem e_W_write_46 : decode (mB I_W_write) 46 = .ok (.invokestatic 118, 3) := by decide +kernel
theorem e_W_write_49 : decode (mB I_W_write) 49 = .ok (.aload_n 1, 1) := by decide +kernel
theorem e_W_write_50 : decode (mB I_W_write) 50 = .ok (.iload_n 2, 1) := by decide +kernel
theorem e_W_write_51 : decode (mB I_W_write) 51 = .ok (.bipush 16, 2) := by decide +kernel
theorem e_W_write_53 : decode (mB I_W_write) 53 = .ok (.iadd, 1) := by decide +kernel
theorem e_W_write_54 : decode (mB I_W_write) 54 = .ok (.invokestatic 118, 3) := by decide +kernel
theorem e_W_write_57 : decode (mB I_W_write) 57 = .ok (.invokevirtual 122, 3) := by decide +kernel
theorem e_W_write_60 : decode (mB I_W_write) 60 = .ok (.iload_n 2, 1) := by decide +kernel
theorem e_W_write_61 : decode (mB I_W_write) 61 = .ok (.bipush 20, 2) := by decide +kernel
theorem e_W_write_63 : decode (mB I_W_write) 63 = .ok (.iadd, 1) := by decide +kernel
theorem e_W_write_64 : decode (mB I_W_write) 64 = .ok (.if_icmp .eq 5, 3) := by decide +kernel
theorem e_W_write_67 : decode (mB I_W_write) 67 = .ok (.iconst 0, 1) := by decide +kernel
theorem e_W_write_68 : decode (mB I_W_write) 68 = .ok (.ireturn, 1) := by decide +kernel
theorem e_W_write_69 : decode (mB I_W_write) 69 = .ok (.iinc 2 20, 3) := by decide +kernel
theorem e_W_write_72 : decode (mB I_W_write) 72 = .ok (.goto (-60), 3) := by decide +kernel
theorem e_W_write_75 : decode (mB I_W_write) 75 = .ok (.aload_n 0, 1) := by decide +kernel
theorem e_W_write_76 : decode (mB I_W_write) 76 = .ok (.aload_n 1, 1) := by decide +kernel
theorem e_W_write_77 : decode (mB I_W_write) 77 = .ok (.invokevirtual 104, 3) := by decide +kernel
theorem e_W_write_80 : decode (mB I_W_write) 80 = .ok (.invokestatic 113, 3) := by decide +kernel
theorem e_W_write_83 : decode (mB I_W_write) 83 = .ok (.aload_n 1, 1) := by decide +kernel
theorem e_W_write_84 : decode (mB I_W_write) 84 = .ok (.invokevirtual 104, 3) := by decide +kernel
theorem e_W_write_87 : decode (mB I_W_write) 87 = .ok (.if_icmp .ne 7, 3) := by decide +kernel
theorem e_W_write_90 : decode (mB I_W_write) 90 = .ok (.iconst 1, 1) := by decide +kernel
theorem e_W_write_91 : decode (mB I_W_write) 91 = .ok (.goto 4, 3) := by decide +kernel
theorem e_W_write_94 : decode (mB I_W_write) 94 = .ok (.iconst 0, 1) := by decide +kernel
theorem e_W_write_95 : decode (mB I_W_write) 95 = .ok (.ireturn, 1) := by decide +kernel
theorem e_W_draw_0 : decode (mB I_W_draw) 0 = .ok (.aload_n 0, 1) := by decide +kernel
theorem e_W_draw_1 : decode (mB I_W_draw) 1 = .ok (.iconst 0, 1) := by decide +kernel
theorem e_W_draw_2 : decode (mB I_W_draw) 2 = .ok (.aload_n 0, 1) := by decide +kernel
theorem e_W_draw_3 : decode (mB I_W_draw) 3 = .ok (.iconst 0, 1) := by decide +kernel
theorem e_W_draw_4 : decode (mB I_W_draw) 4 = .ok (.iaload, 1) := by decide +kernel
theorem e_W_draw_5 : decode (mB I_W_draw) 5 = .ok (.ldc 125, 2) := by decide +kernel
theorem e_W_draw_7 : decode (mB I_W_draw) 7 = .ok (.imul, 1) := by decide +kernel
theorem e_W_draw_8 : decode (mB I_W_draw) 8 = .ok (.sipush 12345, 3) := by decide +kernel
theorem e_W_draw_11 : decode (mB I_W_draw) 11 = .ok (.iadd, 1) := by decide +kernel
theorem e_W_draw_12 : decode (mB I_W_draw) 12 = .ok (.iastore, 1) := by decide +kernel
theorem e_W_draw_13 : decode (mB I_W_draw) 13 = .ok (.aload_n 0, 1) := by decide +kernel
theorem e_W_draw_14 : decode (mB I_W_draw) 14 = .ok (.iconst 0, 1) := by decide +kernel
theorem e_W_draw_15 : decode (mB I_W_draw) 15 = .ok (.iaload, 1) := by decide +kernel
theorem e_W_draw_16 : decode (mB I_W_draw) 16 = .ok (.bipush 8, 2) := by decide +kernel
theorem e_W_draw_18 : decode (mB I_W_draw) 18 = .ok (.iushr, 1) := by decide +kernel
theorem e_W_draw_19 : decode (mB I_W_draw) 19 = .ok (.iload_n 1, 1) := by decide +kernel
theorem e_W_draw_20 : decode (mB I_W_draw) 20 = .ok (.irem, 1) := by decide +kernel
theorem e_W_draw_21 : decode (mB I_W_draw) 21 = .ok (.ireturn, 1) := by decide +kernel
theorem e_W_isRoot_0 : decode (mB I_W_isRoot) 0 = .ok (.lload_n 0, 1) := by decide +kernel
theorem e_W_isRoot_1 : decode (mB I_W_isRoot) 1 = .ok (.lconst 0, 1) := by decide +kernel
theorem e_W_isRoot_2 : decode (mB I_W_isRoot) 2 = .ok (.lcmp, 1) := by decide +kernel
theorem e_W_isRoot_3 : decode (mB I_W_isRoot) 3 = .ok (.ifCond .lt 27, 3) := by decide +kernel
theorem e_W_isRoot_6 : decode (mB I_W_isRoot) 6 = .ok (.lload_n 0, 1) := by decide +kernel
theorem e_W_isRoot_7 : decode (mB I_W_isRoot) 7 = .ok (.lload_n 0, 1) := by decide +kernel
theorem e_W_isRoot_8 : decode (mB I_W_isRoot) 8 = .ok (.lmul, 1) := by decide +kernel
theorem e_W_isRoot_9 : decode (mB I_W_isRoot) 9 = .ok (.lload_n 2, 1) := by decide +kernel
theorem e_W_isRoot_10 : decode (mB I_W_isRoot) 10 = .ok (.lcmp, 1) := by decide +kernel
theorem e_W_isRoot_11 : decode (mB I_W_isRoot) 11 = .ok (.ifCond .gt 19, 3) := by decide +kernel
theorem e_W_isRoot_14 : decode (mB I_W_isRoot) 14 = .ok (.lload_n 0, 1) := by decide +kernel
theorem e_W_isRoot_15 : decode (mB I_W_isRoot) 15 = .ok (.lconst 1, 1) := by decide +kernel
theorem e_W_isRoot_16 : decode (mB I_W_isRoot) 16 = .ok (.ladd, 1) := by decide +kernel
theorem e_W_isRoot_17 : decode (mB I_W_isRoot) 17 = .ok (.lload_n 0, 1) := by decide +kernel
theorem e_W_isRoot_18 : decode (mB I_W_isRoot) 18 = .ok (.lconst 1, 1) := by decide +kernel
theorem e_W_isRoot_19 : decode (mB I_W_isRoot) 19 = .ok (.ladd, 1) := by decide +kernel
theorem e_W_isRoot_20 : decode (mB I_W_isRoot) 20 = .ok (.lmul, 1) := by decide +kernel
theorem e_W_isRoot_21 : decode (mB I_W_isRoot) 21 = .ok (.lload_n 2, 1) := by decide +kernel
theorem e_W_isRoot_22 : decode (mB I_W_isRoot) 22 = .ok (.lcmp, 1) := by decide +kernel
theorem e_W_isRoot_23 : decode (mB I_W_isRoot) 23 = .ok (.ifCond .le 7, 3) := by decide +kernel
theorem e_W_isRoot_26 : decode (mB I_W_isRoot) 26 = .ok (.iconst 1, 1) := by decide +kernel
theorem e_W_isRoot_27 : decode (mB I_W_isRoot) 27 = .ok (.goto 4, 3) := by decide +kernel
theorem e_W_isRoot_30 : decode (mB I_W_isRoot) 30 = .ok (.iconst 0, 1) := by decide +kernel
theorem e_W_isRoot_31 : decode (mB I_W_isRoot) 31 = .ok (.ireturn, 1) := by decide +kernel
