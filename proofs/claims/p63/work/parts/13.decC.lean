/-! decoded instructions -/
theorem e_C_isLetter_0 : decode (mB I_C_isLetter) 0 = .ok (.iload_n 0, 1) := by decide +kernel
theorem e_C_isLetter_1 : decode (mB I_C_isLetter) 1 = .ok (.bipush 97, 2) := by decide +kernel
theorem e_C_isLetter_3 : decode (mB I_C_isLetter) 3 = .ok (.if_icmp .lt 13, 3) := by decide +kernel
theorem e_C_isLetter_6 : decode (mB I_C_isLetter) 6 = .ok (.iload_n 0, 1) := by decide +kernel
theorem e_C_isLetter_7 : decode (mB I_C_isLetter) 7 = .ok (.bipush 122, 2) := by decide +kernel
theorem e_C_isLetter_9 : decode (mB I_C_isLetter) 9 = .ok (.if_icmp .gt 7, 3) := by decide +kernel
theorem e_C_isLetter_12 : decode (mB I_C_isLetter) 12 = .ok (.iconst 1, 1) := by decide +kernel
theorem e_C_isLetter_13 : decode (mB I_C_isLetter) 13 = .ok (.goto 4, 3) := by decide +kernel
theorem e_C_isLetter_16 : decode (mB I_C_isLetter) 16 = .ok (.iconst 0, 1) := by decide +kernel
theorem e_C_isLetter_17 : decode (mB I_C_isLetter) 17 = .ok (.ireturn, 1) := by decide +kernel
theorem e_C_isDigit_0 : decode (mB I_C_isDigit) 0 = .ok (.iload_n 0, 1) := by decide +kernel
theorem e_C_isDigit_1 : decode (mB I_C_isDigit) 1 = .ok (.bipush 48, 2) := by decide +kernel
theorem e_C_isDigit_3 : decode (mB I_C_isDigit) 3 = .ok (.if_icmp .lt 13, 3) := by decide +kernel
theorem e_C_isDigit_6 : decode (mB I_C_isDigit) 6 = .ok (.iload_n 0, 1) := by decide +kernel
theorem e_C_isDigit_7 : decode (mB I_C_isDigit) 7 = .ok (.bipush 57, 2) := by decide +kernel
theorem e_C_isDigit_9 : decode (mB I_C_isDigit) 9 = .ok (.if_icmp .gt 7, 3) := by decide +kernel
theorem e_C_isDigit_12 : decode (mB I_C_isDigit) 12 = .ok (.iconst 1, 1) := by decide +kernel
theorem e_C_isDigit_13 : decode (mB I_C_isDigit) 13 = .ok (.goto 4, 3) := by decide +kernel
theorem e_C_isDigit_16 : decode (mB I_C_isDigit) 16 = .ok (.iconst 0, 1) := by decide +kernel
theorem e_C_isDigit_17 : decode (mB I_C_isDigit) 17 = .ok (.ireturn, 1) := by decide +kernel
theorem e_C_isBetween_0 : decode (mB I_C_isBetween) 0 = .ok (.iload_n 0, 1) := by decide +kernel
theorem e_C_isBetween_1 : decode (mB I_C_isBetween) 1 = .ok (.iload_n 1, 1) := by decide +kernel
theorem e_C_isBetween_2 : decode (mB I_C_isBetween) 2 = .ok (.if_icmp .lt 12, 3) := by decide +kernel
theorem e_C_isBetween_5 : decode (mB I_C_isBetween) 5 = .ok (.iload_n 0, 1) := by decide +kernel
theorem e_C_isBetween_6 : decode (mB I_C_isBetween) 6 = .ok (.iload_n 2, 1) := by decide +kernel
theorem e_C_isBetween_7 : decode (mB I_C_isBetween) 7 = .ok (.if_icmp .gt 7, 3) := by decide +kernel
theorem e_C_isBetween_10 : decode (mB I_C_isBetween) 10 = .ok (.iconst 1, 1) := by decide +kernel
theorem e_C_isBetween_11 : decode (mB I_C_isBetween) 11 = .ok (.goto 4, 3) := by decide +kernel
theorem e_C_isBetween_14 : decode (mB I_C_isBetween) 14 = .ok (.iconst 0, 1) := by decide +kernel
theorem e_C_isBetween_15 : decode (mB I_C_isBetween) 15 = .ok (.ireturn, 1) := by decide +kernel
theorem e_C_packedName_0 : decode (mB I_C_packedName) 0 = .ok (.iload_n 1, 1) := by decide +kernel
theorem e_C_packedName_1 : decode (mB I_C_packedName) 1 = .ok (.iload_n 2, 1) := by decide +kernel
theorem e_C_packedName_2 : decode (mB I_C_packedName) 2 = .ok (.if_icmp .ge 11, 3) := by decide +kernel
theorem e_C_packedName_5 : decode (mB I_C_packedName) 5 = .ok (.iload_n 2, 1) := by decide +kernel
theorem e_C_packedName_6 : decode (mB I_C_packedName) 6 = .ok (.iload_n 1, 1) := by decide +kernel
theorem e_C_packedName_7 : decode (mB I_C_packedName) 7 = .ok (.isub, 1) := by decide +kernel
theorem e_C_packedName_8 : decode (mB I_C_packedName) 8 = .ok (.bipush 6, 2) := by decide +kernel
theorem e_C_packedName_10 : decode (mB I_C_packedName) 10 = .ok (.if_icmp .le 5, 3) := by decide +kernel
theorem e_C_packedName_13 : decode (mB I_C_packedName) 13 = .ok (.iconst (-1), 1) := by decide +kernel
theorem e_C_packedName_14 : decode (mB I_C_packedName) 14 = .ok (.ireturn, 1) := by decide +kernel
theorem e_C_packedName_15 : decode (mB I_C_packedName) 15 = .ok (.iconst 0, 1) := by decide +kernel
theorem e_C_packedName_16 : decode (mB I_C_packedName) 16 = .ok (.istore_n 3, 1) := by decide +kernel
theorem e_C_packedName_17 : decode (mB I_C_packedName) 17 = .ok (.iload_n 1, 1) := by decide +kernel
theorem e_C_packedName_18 : decode (mB I_C_packedName) 18 = .ok (.istore 4, 2) := by decide +kernel
theorem e_C_packedName_20 : decode (mB I_C_packedName) 20 = .ok (.iload 4, 2) := by decide +kernel
theorem e_C_packedName_22 : decode (mB I_C_packedName) 22 = .ok (.iload_n 2, 1) := by decide +kernel
theorem e_C_packedName_23 : decode (mB I_C_packedName) 23 = .ok (.if_icmp .ge 40, 3) := by decide +kernel
theorem e_C_packedName_26 : decode (mB I_C_packedName) 26 = .ok (.aload_n 0, 1) := by decide +kernel
theorem e_C_packedName_27 : decode (mB I_C_packedName) 27 = .ok (.iload 4, 2) := by decide +kernel
theorem e_C_packedName_29 : decode (mB I_C_packedName) 29 = .ok (.baload, 1) := by decide +kernel
theorem e_C_packedName_30 : decode (mB I_C_packedName) 30 = .ok (.bipush 96, 2) := by decide +kernel
theorem e_C_packedName_32 : decode (mB I_C_packedName) 32 = .ok (.isub, 1) := by decide +kernel
theorem e_C_packedName_33 : decode (mB I_C_packedName) 33 = .ok (.istore 5, 2) := by decide +kernel
theorem e_C_packedName_35 : decode (mB I_C_packedName) 35 = .ok (.iload 5, 2) := by decide +kernel
theorem e_C_packedName_37 : decode (mB I_C_packedName) 37 = .ok (.iconst 1, 1) := by decide +kernel
theorem e_C_packedName_38 : decode (mB I_C_packedName) 38 = .ok (.if_icmp .lt 10, 3) := by decide +kernel
theorem e_C_packedName_41 : decode (mB I_C_packedName) 41 = .ok (.iload 5, 2) := by decide +kernel
theorem e_C_packedName_43 : decode (mB I_C_packedName) 43 = .ok (.bipush 26, 2) := by decide +kernel
theorem e_C_packedName_45 : decode (mB I_C_packedName) 45 = .ok (.if_icmp .le 5, 3) := by decide +kernel
theorem e_C_packedName_48 : decode (mB I_C_packedName) 48 = .ok (.iconst (-1), 1) := by decide +kernel
theorem e_C_packedName_49 : decode (mB I_C_packedName) 49 = .ok (.ireturn, 1) := by decide +kernel
theorem e_C_packedName_50 : decode (mB I_C_packedName) 50 = .ok (.iload_n 3, 1) := by decide +kernel
theorem e_C_packedName_51 : decode (mB I_C_packedName) 51 = .ok (.iconst 5, 1) := by decide +kernel
theorem e_C_packedName_52 : decode (mB I_C_packedName) 52 = .ok (.ishl, 1) := by decide +kernel
theorem e_C_packedName_53 : decode (mB I_C_packedName) 53 = .ok (.iload 5, 2) := by decide +kernel
theorem e_C_packedName_55 : decode (mB I_C_packedName) 55 = .ok (.iadd, 1) := by decide +kernel
theorem e_C_packedName_56 : decode (mB I_C_packedName) 56 = .ok (.istore_n 3, 1) := by decide +kernel
theorem e_C_packedName_57 : decode (mB I_C_packedName) 57 = .ok (.iinc 4 1, 3) := by decide +kernel
theorem e_C_packedName_60 : decode (mB I_C_packedName) 60 = .ok (.goto (-40), 3) := by decide +kernel
theorem e_C_packedName_63 : decode (mB I_C_packedName) 63 = .ok (.iload_n 3, 1) := by decide +kernel
theorem e_C_packedName_64 : decode (mB I_C_packedName) 64 = .ok (.ireturn, 1) := by decide +kernel
theorem e_C_isBearing_0 : decode (mB I_C_isBearing) 0 = .ok (.iload_n 0, 1) := by decide +kernel
theorem e_C_isBearing_1 : decode (mB I_C_isBearing) 1 = .ok (.iconst 0, 1) := by decide +kernel
theorem e_C_isBearing_2 : decode (mB I_C_isBearing) 2 = .ok (.sipush 345, 3) := by decide +kernel
theorem e_C_isBearing_5 : decode (mB I_C_isBearing) 5 = .ok (.invokestatic 100, 3) := by decide +kernel
theorem e_C_isBearing_8 : decode (mB I_C_isBearing) 8 = .ok (.ifCond .eq 14, 3) := by decide +kernel
theorem e_C_isBearing_11 : decode (mB I_C_isBearing) 11 = .ok (.iload_n 0, 1) := by decide +kernel
theorem e_C_isBearing_12 : decode (mB I_C_isBearing) 12 = .ok (.bipush 15, 2) := by decide +kernel
theorem e_C_isBearing_14 : decode (mB I_C_isBearing) 14 = .ok (.irem, 1) := by decide +kernel
theorem e_C_isBearing_15 : decode (mB I_C_isBearing) 15 = .ok (.ifCond .ne 7, 3) := by decide +kernel
theorem e_C_isBearing_18 : decode (mB I_C_isBearing) 18 = .ok (.iconst 1, 1) := by decide +kernel
theorem e_C_isBearing_19 : decode (mB I_C_isBearing) 19 = .ok (.goto 4, 3) := by decide +kernel
theorem e_C_isBearing_22 : decode (mB I_C_isBearing) 22 = .ok (.iconst 0, 1) := by decide +kernel
theorem e_C_isBearing_23 : decode (mB I_C_isBearing) 23 = .ok (.ireturn, 1) := by decide +kernel
theorem e_C_root_0 : decode (mB I_C_root) 0 = .ok (.iconst 0, 1) := by decide +kernel
theorem e_C_root_1 : decode (mB I_C_root) 1 = .ok (.istore_n 2, 1) := by decide +kernel
theorem e_C_root_2 : decode (mB I_C_root) 2 = .ok (.ldc_w 357, 3) := by decide +kernel
theorem e_C_root_5 : decode (mB I_C_root) 5 = .ok (.istore_n 3, 1) := by decide +kernel
theorem e_C_root_6 : decode (mB I_C_root) 6 = .ok (.iload_n 3, 1) := by decide +kernel
theorem e_C_root_7 : decode (mB I_C_root) 7 = .ok (.ifCond .le 30, 3) := by decide +kernel
theorem e_C_root_10 : decode (mB I_C_root) 10 = .ok (.iload_n 2, 1) := by decide +kernel
theorem e_C_root_11 : decode (mB I_C_root) 11 = .ok (.iload_n 3, 1) := by decide +kernel
theorem e_C_root_12 : decode (mB I_C_root) 12 = .ok (.ior, 1) := by decide +kernel
theorem e_C_root_13 : decode (mB I_C_root) 13 = .ok (.i2l, 1) := by decide +kernel
theorem e_C_root_14 : decode (mB I_C_root) 14 = .ok (.lstore 4, 2) := by decide +kernel
theorem e_C_root_16 : decode (mB I_C_root) 16 = .ok (.lload 4, 2) := by decide +kernel
theorem e_C_root_18 : decode (mB I_C_root) 18 = .ok (.lload 4, 2) := by decide +kernel
theorem e_C_root_20 : decode (mB I_C_root) 20 = .ok (.lmul, 1) := by decide +kernel
theorem e_C_root_21 : decode (mB I_C_root) 21 = .ok (.lload_n 0, 1) := by decide +kernel
theorem e_C_root_22 : decode (mB I_C_root) 22 = .ok (.lcmp, 1) := by decide +kernel
theorem e_C_root_23 : decode (mB I_C_root) 23 = .ok (.ifCond .gt 7, 3) := by decide +kernel
theorem e_C_root_26 : decode (mB I_C_root) 26 = .ok (.iload_n 2, 1) := by decide +kernel
theorem e_C_root_27 : decode (mB I_C_root) 27 = .ok (.iload_n 3, 1) := by decide +kernel
theorem e_C_root_28 : decode (mB I_C_root) 28 = .ok (.ior, 1) := by decide +kernel
theorem e_C_root_29 : decode (mB I_C_root) 29 = .ok (.istore_n 2, 1) := by decide +kernel
theorem e_C_root_30 : decode (mB I_C_root) 30 = .ok (.iload_n 3, 1) := by decide +kernel
theorem e_C_root_31 : decode (mB I_C_root) 31 = .ok (.iconst 1, 1) := by decide +kernel
theorem e_C_root_32 : decode (mB I_C_root) 32 = .ok (.ishr, 1) := by decide +kernel
theorem e_C_root_33 : decode (mB I_C_root) 33 = .ok (.istore_n 3, 1) := by decide +kernel
theorem e_C_root_34 : decode (mB I_C_root) 34 = .ok (.goto (-28), 3) := by decide +kernel
theorem e_C_root_37 : decode (mB I_C_root) 37 = .ok (.iload_n 2, 1) := by decide +kernel
theorem e_C_root_38 : decode (mB I_C_root) 38 = .ok (.ireturn, 1) := by decide +kernel
theorem e_C_cosine_0 : decode (mB I_C_cosine) 0 = .ok (.iload_n 0, 1) := by decide +kernel
theorem e_C_cosine_1 : decode (mB I_C_cosine) 1 = .ok (.sipush 360, 3) := by decide +kernel
theorem e_C_cosine_4 : decode (mB I_C_cosine) 4 = .ok (.invokestatic 345, 3) := by decide +kernel
theorem e_C_cosine_7 : decode (mB I_C_cosine) 7 = .ok (.istore_n 1, 1) := by decide +kernel
theorem e_C_cosine_8 : decode (mB I_C_cosine) 8 = .ok (.iload_n 1, 1) := by decide +kernel
theorem e_C_cosine_9 : decode (mB I_C_cosine) 9 = .ok (.sipush 180, 3) := by decide +kernel
theorem e_C_cosine_12 : decode (mB I_C_cosine) 12 = .ok (.if_icmp .le 11, 3) := by decide +kernel
theorem e_C_cosine_15 : decode (mB I_C_cosine) 15 = .ok (.sipush 360, 3) := by decide +kernel
theorem e_C_cosine_18 : decode (mB I_C_cosine) 18 = .ok (.iload_n 1, 1) := by decide +kernel
theorem e_C_cosine_19 : decode (mB I_C_cosine) 19 = .ok (.isub, 1) := by decide +kernel
theorem e_C_cosine_20 : decode (mB I_C_cosine) 20 = .ok (.goto 4, 3) := by decide +kernel
theorem e_C_cosine_23 : decode (mB I_C_cosine) 23 = .ok (.iload_n 1, 1) := by decide +kernel
theorem e_C_cosine_24 : decode (mB I_C_cosine) 24 = .ok (.istore_n 2, 1) := by decide +kernel
theorem e_C_cosine_25 : decode (mB I_C_cosine) 25 = .ok (.iload_n 2, 1) := by decide +kernel
theorem e_C_cosine_26 : decode (mB I_C_cosine) 26 = .ok (.bipush 90, 2) := by decide +kernel
theorem e_C_cosine_28 : decode (mB I_C_cosine) 28 = .ok (.if_icmp .le 17, 3) := by decide +kernel
theorem e_C_cosine_31 : decode (mB I_C_cosine) 31 = .ok (.getstatic 348, 3) := by decide +kernel
theorem e_C_cosine_34 : decode (mB I_C_cosine) 34 = .ok (.sipush 180, 3) := by decide +kernel
theorem e_C_cosine_37 : decode (mB I_C_cosine) 37 = .ok (.iload_n 2, 1) := by decide +kernel
theorem e_C_cosine_38 : decode (mB I_C_cosine) 38 = .ok (.isub, 1) := by decide +kernel
theorem e_C_cosine_39 : decode (mB I_C_cosine) 39 = .ok (.bipush 15, 2) := by decide +kernel
theorem e_C_cosine_41 : decode (mB I_C_cosine) 41 = .ok (.idiv, 1) := by decide +kernel
theorem e_C_cosine_42 : decode (mB I_C_cosine) 42 = .ok (.iaload, 1) := by decide +kernel
theorem e_C_cosine_43 : decode (mB I_C_cosine) 43 = .ok (.ineg, 1) := by decide +kernel
theorem e_C_cosine_44 : decode (mB I_C_cosine) 44 = .ok (.ireturn, 1) := by decide +kernel
theorem e_C_cosine_45 : decode (mB I_C_cosine) 45 = .ok (.getstatic 348, 3) := by decide +kernel
theorem e_C_cosine_48 : decode (mB I_C_cosine) 48 = .ok (.iload_n 2, 1) := by decide +kernel
theorem e_C_cosine_49 : decode (mB I_C_cosine) 49 = .ok (.bipush 15, 2) := by decide +kernel
theorem e_C_cosine_51 : decode (mB I_C_cosine) 51 = .ok (.idiv, 1) := by decide +kernel
theorem e_C_cosine_52 : decode (mB I_C_cosine) 52 = .ok (.iaload, 1) := by decide +kernel
theorem e_C_cosine_53 : decode (mB I_C_cosine) 53 = .ok (.ireturn, 1) := by decide +kernel
theorem e_C_sine_0 : decode (mB I_C_sine) 0 = .ok (.bipush 90, 2) := by decide +kernel
theorem e_C_sine_2 : decode (mB I_C_sine) 2 = .ok (.iload_n 0, 1) := by decide +kernel
theorem e_C_sine_3 : decode (mB I_C_sine) 3 = .ok (.isub, 1) := by decide +kernel
theorem e_C_sine_4 : decode (mB I_C_sine) 4 = .ok (.invokestatic 236, 3) := by decide +kernel
theorem e_C_sine_7 : decode (mB I_C_sine) 7 = .ok (.ireturn, 1) := by decide +kernel
theorem e_C_stepOf_0 : decode (mB I_C_stepOf) 0 = .ok (.iload_n 0, 1) := by decide +kernel
theorem e_C_stepOf_1 : decode (mB I_C_stepOf) 1 = .ok (.i2l, 1) := by decide +kernel
theorem e_C_stepOf_2 : decode (mB I_C_stepOf) 2 = .ok (.iload_n 1, 1) := by decide +kernel
theorem e_C_stepOf_3 : decode (mB I_C_stepOf) 3 = .ok (.i2l, 1) := by decide +kernel
theorem e_C_stepOf_4 : decode (mB I_C_stepOf) 4 = .ok (.lmul, 1) := by decide +kernel
theorem e_C_stepOf_5 : decode (mB I_C_stepOf) 5 = .ok (.ldc2_w 351, 3) := by decide +kernel
theorem e_C_stepOf_8 : decode (mB I_C_stepOf) 8 = .ok (.ldiv, 1) := by decide +kernel
theorem e_C_stepOf_9 : decode (mB I_C_stepOf) 9 = .ok (.l2i, 1) := by decide +kernel
theorem e_C_stepOf_10 : decode (mB I_C_stepOf) 10 = .ok (.ireturn, 1) := by decide +kernel
theorem e_C_distance_0 : decode (mB I_C_distance) 0 = .ok (.iload_n 0, 1) := by decide +kernel
theorem e_C_distance_1 : decode (mB I_C_distance) 1 = .ok (.i2l, 1) := by decide +kernel
theorem e_C_distance_2 : decode (mB I_C_distance) 2 = .ok (.iload_n 0, 1) := by decide +kernel
theorem e_C_distance_3 : decode (mB I_C_distance) 3 = .ok (.i2l, 1) := by decide +kernel
theorem e_C_distance_4 : decode (mB I_C_distance) 4 = .ok (.lmul, 1) := by decide +kernel
theorem e_C_distance_5 : decode (mB I_C_distance) 5 = .ok (.iload_n 1, 1) := by decide +kernel
theorem e_C_distance_6 : decode (mB I_C_distance) 6 = .ok (.i2l, 1) := by decide +kernel
theorem e_C_distance_7 : decode (mB I_C_distance) 7 = .ok (.iload_n 1, 1) := by decide +kernel
theorem e_C_distance_8 : decode (mB I_C_distance) 8 = .ok (.i2l, 1) := by decide +kernel
theorem e_C_distance_9 : decode (mB I_C_distance) 9 = .ok (.lmul, 1) := by decide +kernel
theorem e_C_distance_10 : decode (mB I_C_distance) 10 = .ok (.ladd, 1) := by decide +kernel
theorem e_C_distance_11 : decode (mB I_C_distance) 11 = .ok (.invokestatic 353, 3) := by decide +kernel
theorem e_C_distance_14 : decode (mB I_C_distance) 14 = .ok (.ireturn, 1) := by decide +kernel
theorem e_C_appendWord_0 : decode (mB I_C_appendWord) 0 = .ok (.bipush 24, 2) := by decide +kernel
theorem e_C_appendWord_2 : decode (mB I_C_appendWord) 2 = .ok (.istore_n 2, 1) := by decide +kernel
theorem e_C_appendWord_3 : decode (mB I_C_appendWord) 3 = .ok (.iload_n 2, 1) := by decide +kernel
theorem e_C_appendWord_4 : decode (mB I_C_appendWord) 4 = .ok (.ifCond .lt 42, 3) := by decide +kernel
theorem e_C_appendWord_7 : decode (mB I_C_appendWord) 7 = .ok (.aload_n 0, 1) := by decide +kernel
theorem e_C_appendWord_8 : decode (mB I_C_appendWord) 8 = .ok (.getfield 94, 3) := by decide +kernel
theorem e_C_appendWord_11 : decode (mB I_C_appendWord) 11 = .ok (.sipush 900, 3) := by decide +kernel
theorem e_C_appendWord_14 : decode (mB I_C_appendWord) 14 = .ok (.if_icmp .ge 32, 3) := by decide +kernel
theorem e_C_appendWord_17 : decode (mB I_C_appendWord) 17 = .ok (.aload_n 0, 1) := by decide +kernel
theorem e_C_appendWord_18 : decode (mB I_C_appendWord) 18 = .ok (.getfield 26, 3) := by decide +kernel
theorem e_C_appendWord_21 : decode (mB I_C_appendWord) 21 = .ok (.aload_n 0, 1) := by decide +kernel
theorem e_C_appendWord_22 : decode (mB I_C_appendWord) 22 = .ok (.getfield 94, 3) := by decide +kernel
theorem e_C_appendWord_25 : decode (mB I_C_appendWord) 25 = .ok (.iload_n 1, 1) := by decide +kernel
theorem e_C_appendWord_26 : decode (mB I_C_appendWord) 26 = .ok (.iload_n 2, 1) := by decide +kernel
theorem e_C_appendWord_27 : decode (mB I_C_appendWord) 27 = .ok (.ishr, 1) := by decide +kernel
theorem e_C_appendWord_28 : decode (mB I_C_appendWord) 28 = .ok (.i2b, 1) := by decide +kernel
theorem e_C_appendWord_29 : decode (mB I_C_appendWord) 29 = .ok (.bastore, 1) := by decide +kernel
theorem e_C_appendWord_30 : decode (mB I_C_appendWord) 30 = .ok (.aload_n 0, 1) := by decide +kernel
theorem e_C_appendWord_31 : decode (mB I_C_appendWord) 31 = .ok (.dup, 1) := by decide +kernel
theorem e_C_appendWord_32 : decode (mB I_C_appendWord) 32 = .ok (.getfield 94, 3) := by decide +kernel
theorem e_C_appendWord_35 : decode (mB I_C_appendWord) 35 = .ok (.iconst 1, 1) := by decide +kernel
theorem e_C_appendWord_36 : decode (mB I_C_appendWord) 36 = .ok (.iadd, 1) := by decide +kernel
theorem e_C_appendWord_37 : decode (mB I_C_appendWord) 37 = .ok (.putfield 94, 3) := by decide +kernel
theorem e_C_appendWord_40 : decode (mB I_C_appendWord) 40 = .ok (.iinc 2 (-8), 3) := by decide +kernel
theorem e_C_appendWord_43 : decode (mB I_C_appendWord) 43 = .ok (.goto (-40), 3) := by decide +kernel
theorem e_C_appendWord_46 : decode (mB I_C_appendWord) 46 = .ok (.return_, 1) := by decide +kernel
theorem e_C_append_0 : decode (mB I_C_append) 0 = .ok (.aload_n 0, 1) := by decide +kernel
theorem e_C_append_1 : decode (mB I_C_append) 1 = .ok (.getfield 94, 3) := by decide +kernel
theorem e_C_append_4 : decode (mB I_C_append) 4 = .ok (.bipush 20, 2) := by decide +kernel
theorem e_C_append_6 : decode (mB I_C_append) 6 = .ok (.iadd, 1) := by decide +kernel
theorem e_C_append_7 : decode (mB I_C_append) 7 = .ok (.sipush 900, 3) := by decide +kernel
theorem e_C_append_10 : decode (mB I_C_append) 10 = .ok (.if_icmp .le 5, 3) := by decide +kernel
theorem e_C_append_13 : decode (mB I_C_append) 13 = .ok (.iconst (-1), 1) := by decide +kernel
theorem e_C_append_14 : decode (mB I_C_append) 14 = .ok (.ireturn, 1) := by decide +kernel
theorem e_C_append_15 : decode (mB I_C_append) 15 = .ok (.aload_n 0, 1) := by decide +kernel
theorem e_C_append_16 : decode (mB I_C_append) 16 = .ok (.iload_n 1, 1) := by decide +kernel
theorem e_C_append_17 : decode (mB I_C_append) 17 = .ok (.invokevirtual 97, 3) := by decide +kernel
theorem e_C_append_20 : decode (mB I_C_append) 20 = .ok (.aload_n 0, 1) := by decide +kernel
theorem e_C_append_21 : decode (mB I_C_append) 21 = .ok (.iload_n 2, 1) := by decide +kernel
theorem e_C_append_22 : decode (mB I_C_append) 22 = .ok (.invokevirtual 97, 3) := by decide +kernel
theorem e_C_append_25 : decode (mB I_C_append) 25 = .ok (.aload_n 0, 1) := by decide +kernel
theorem e_C_append_26 : decode (mB I_C_append) 26 = .ok (.iload_n 3, 1) := by decide +kernel
theorem e_C_append_27 : decode (mB I_C_append) 27 = .ok (.invokevirtual 97, 3) := by decide +kernel
theorem e_C_append_30 : decode (mB I_C_append) 30 = .ok (.aload_n 0, 1) := by decide +kernel
theorem e_C_append_31 : decode (mB I_C_append) 31 = .ok (.iload 4, 2) := by decide +kernel
theorem e_C_append_33 : decode (mB I_C_append) 33 = .ok (.invokevirtual 97, 3) := by decide +kernel
theorem e_C_append_36 : decode (mB I_C_append) 36 = .ok (.aload_n 0, 1) := by decide +kernel
theorem e_C_append_37 : decode (mB I_C_append) 37 = .ok (.iload 5, 2) := by decide +kernel
theorem e_C_append_39 : decode (mB I_C_append) 39 = .ok (.invokevirtual 97, 3) := by decide +kernel
theorem e_C_append_42 : decode (mB I_C_append) 42 = .ok (.aload_n 0, 1) := by decide +kernel
theorem e_C_append_43 : decode (mB I_C_append) 43 = .ok (.getfield 94, 3) := by decide +kernel
theorem e_C_append_46 : decode (mB I_C_append) 46 = .ok (.ireturn, 1) := by decide +kernel
theorem e_C_truncateInput_0 : decode (mB I_C_truncateInput) 0 = .ok (.iload_n 1, 1) := by decide +kernel
theorem e_C_truncateInput_1 : decode (mB I_C_truncateInput) 1 = .ok (.iconst 0, 1) := by decide +kernel
theorem e_C_truncateInput_2 : decode (mB I_C_truncateInput) 2 = .ok (.aload_n 0, 1) := by decide +kernel
theorem e_C_truncateInput_3 : decode (mB I_C_truncateInput) 3 = .ok (.getfield 94, 3) := by decide +kernel
theorem e_C_truncateInput_6 : decode (mB I_C_truncateInput) 6 = .ok (.invokestatic 100, 3) := by decide +kernel
theorem e_C_truncateInput_9 : decode (mB I_C_truncateInput) 9 = .ok (.ifCond .ne 13, 3) := by decide +kernel
theorem e_C_truncateInput_12 : decode (mB I_C_truncateInput) 12 = .ok (.new 104, 3) := by decide +kernel
theorem e_C_truncateInput_15 : decode (mB I_C_truncateInput) 15 = .ok (.dup, 1) := by decide +kernel
theorem e_C_truncateInput_16 : decode (mB I_C_truncateInput) 16 = .ok (.ldc 106, 2) := by decide +kernel
theorem e_C_truncateInput_18 : decode (mB I_C_truncateInput) 18 = .ok (.invokespecial 108, 3) := by decide +kernel
theorem e_C_truncateInput_21 : decode (mB I_C_truncateInput) 21 = .ok (.athrow, 1) := by decide +kernel
theorem e_C_truncateInput_22 : decode (mB I_C_truncateInput) 22 = .ok (.aload_n 0, 1) := by decide +kernel
theorem e_C_truncateInput_23 : decode (mB I_C_truncateInput) 23 = .ok (.iload_n 1, 1) := by decide +kernel
theorem e_C_truncateInput_24 : decode (mB I_C_truncateInput) 24 = .ok (.putfield 94, 3) := by decide +kernel
theorem e_C_truncateInput_27 : decode (mB I_C_truncateInput) 27 = .ok (.aload_n 0, 1) := by decide +kernel
theorem e_C_truncateInput_28 : decode (mB I_C_truncateInput) 28 = .ok (.getfield 94, 3) := by decide +kernel
theorem e_C_truncateInput_31 : decode (mB I_C_truncateInput) 31 = .ok (.ireturn, 1) := by decide +kernel
theorem e_C_remember_0 : decode (mB I_C_remember) 0 = .ok (.aload_n 0, 1) := by decide +kernel
theorem e_C_remember_1 : decode (mB I_C_remember) 1 = .ok (.getfield 56, 3) := by decide +kernel
theorem e_C_remember_4 : decode (mB I_C_remember) 4 = .ok (.aload_n 0, 1) := by decide +kernel
theorem e_C_remember_5 : decode (mB I_C_remember) 5 = .ok (.getfield 201, 3) := by decide +kernel
theorem e_C_remember_8 : decode (mB I_C_remember) 8 = .ok (.aaload, 1) := by decide +kernel
theorem e_C_remember_9 : decode (mB I_C_remember) 9 = .ok (.aload_n 0, 1) := by decide +kernel
theorem e_C_remember_10 : decode (mB I_C_remember) 10 = .ok (.getfield 39, 3) := by decide +kernel
theorem e_C_remember_13 : decode (mB I_C_remember) 13 = .ok (.invokevirtual 90, 3) := by decide +kernel
theorem e_C_remember_16 : decode (mB I_C_remember) 16 = .ok (.aload_n 0, 1) := by decide +kernel
theorem e_C_remember_17 : decode (mB I_C_remember) 17 = .ok (.aload_n 0, 1) := by decide +kernel
theorem e_C_remember_18 : decode (mB I_C_remember) 18 = .ok (.getfield 201, 3) := by decide +kernel
theorem e_C_remember_21 : decode (mB I_C_remember) 21 = .ok (.bipush 7, 2) := by decide +kernel
theorem e_C_remember_23 : decode (mB I_C_remember) 23 = .ok (.if_icmp .ne 7, 3) := by decide +kernel
theorem e_C_remember_26 : decode (mB I_C_remember) 26 = .ok (.iconst 0, 1) := by decide +kernel
theorem e_C_remember_27 : decode (mB I_C_remember) 27 = .ok (.goto 9, 3) := by decide +kernel
theorem e_C_remember_30 : decode (mB I_C_remember) 30 = .ok (.aload_n 0, 1) := by decide +kernel
theorem e_C_remember_31 : decode (mB I_C_remember) 31 = .ok (.getfield 201, 3) := by decide +kernel
theorem e_C_remember_34 : decode (mB I_C_remember) 34 = .ok (.iconst 1, 1) := by decide +kernel
theorem e_C_remember_35 : decode (mB I_C_remember) 35 = .ok (.iadd, 1) := by decide +kernel
theorem e_C_remember_36 : decode (mB I_C_remember) 36 = .ok (.putfield 201, 3) := by decide +kernel
theorem e_C_remember_39 : decode (mB I_C_remember) 39 = .ok (.aload_n 0, 1) := by decide +kernel
theorem e_C_remember_40 : decode (mB I_C_remember) 40 = .ok (.aload_n 0, 1) := by decide +kernel
theorem e_C_remember_41 : decode (mB I_C_remember) 41 = .ok (.getfield 196, 3) := by decide +kernel
theorem e_C_remember_44 : decode (mB I_C_remember) 44 = .ok (.iconst 1, 1) := by decide +kernel
theorem e_C_remember_45 : decode (mB I_C_remember) 45 = .ok (.iadd, 1) := by decide +kernel
theorem e_C_remember_46 : decode (mB I_C_remember) 46 = .ok (.bipush 8, 2) := by decide +kernel
theorem e_C_remember_48 : decode (mB I_C_remember) 48 = .ok (.invokestatic 204, 3) := by decide +kernel
theorem e_C_remember_51 : decode (mB I_C_remember) 51 = .ok (.putfield 196, 3) := by decide +kernel
theorem e_C_remember_54 : decode (mB I_C_remember) 54 = .ok (.return_, 1) := by decide +kernel
theorem e_C_settleText_0 : decode (mB I_C_settleText) 0 = .ok (.aload_n 0, 1) := by decide +kernel
theorem e_C_settleText_1 : decode (mB I_C_settleText) 1 = .ok (.iconst 0, 1) := by decide +kernel
theorem e_C_settleText_2 : decode (mB I_C_settleText) 2 = .ok (.putfield 94, 3) := by decide +kernel
theorem e_C_settleText_5 : decode (mB I_C_settleText) 5 = .ok (.aload_n 0, 1) := by decide +kernel
theorem e_C_settleText_6 : decode (mB I_C_settleText) 6 = .ok (.aload_n 0, 1) := by decide +kernel
theorem e_C_settleText_7 : decode (mB I_C_settleText) 7 = .ok (.getfield 10, 3) := by decide +kernel
theorem e_C_settleText_10 : decode (mB I_C_settleText) 10 = .ok (.getfield 121, 3) := by decide +kernel
theorem e_C_settleText_13 : decode (mB I_C_settleText) 13 = .ok (.putfield 124, 3) := by decide +kernel
theorem e_C_settleText_16 : decode (mB I_C_settleText) 16 = .ok (.aload_n 0, 1) := by decide +kernel
theorem e_C_settleText_17 : decode (mB I_C_settleText) 17 = .ok (.aload_n 0, 1) := by decide +kernel
theorem e_C_settleText_18 : decode (mB I_C_settleText) 18 = .ok (.getfield 10, 3) := by decide +kernel
theorem e_C_settleText_21 : decode (mB I_C_settleText) 21 = .ok (.getfield 127, 3) := by decide +kernel
theorem e_C_settleText_24 : decode (mB I_C_settleText) 24 = .ok (.putfield 29, 3) := by decide +kernel
theorem e_C_settleText_27 : decode (mB I_C_settleText) 27 = .ok (.iload_n 1, 1) := by decide +kernel
theorem e_C_settleText_28 : decode (mB I_C_settleText) 28 = .ok (.ifCond .eq 18, 3) := by decide +kernel
theorem e_C_settleText_31 : decode (mB I_C_settleText) 31 = .ok (.aload_n 0, 1) := by decide +kernel
theorem e_C_settleText_32 : decode (mB I_C_settleText) 32 = .ok (.invokevirtual 130, 3) := by decide +kernel
theorem e_C_settleText_35 : decode (mB I_C_settleText) 35 = .ok (.aload_n 0, 1) := by decide +kernel
theorem e_C_settleText_36 : decode (mB I_C_settleText) 36 = .ok (.getfield 39, 3) := by decide +kernel
theorem e_C_settleText_39 : decode (mB I_C_settleText) 39 = .ok (.aload_n 0, 1) := by decide +kernel
theorem e_C_settleText_40 : decode (mB I_C_settleText) 40 = .ok (.getfield 46, 3) := by decide +kernel
theorem e_C_settleText_43 : decode (mB I_C_settleText) 43 = .ok (.invokevirtual 90, 3) := by decide +kernel
theorem e_C_settleText_46 : decode (mB I_C_settleText) 46 = .ok (.iload_n 1, 1) := by decide +kernel
theorem e_C_settleText_47 : decode (mB I_C_settleText) 47 = .ok (.ireturn, 1) := by decide +kernel
theorem e_C_load_0 : decode (mB I_C_load) 0 = .ok (.aload_n 0, 1) := by decide +kernel
theorem e_C_load_1 : decode (mB I_C_load) 1 = .ok (.getfield 10, 3) := by decide +kernel
theorem e_C_load_4 : decode (mB I_C_load) 4 = .ok (.aload_n 0, 1) := by decide +kernel
theorem e_C_load_5 : decode (mB I_C_load) 5 = .ok (.getfield 94, 3) := by decide +kernel
theorem e_C_load_8 : decode (mB I_C_load) 8 = .ok (.invokevirtual 79, 3) := by decide +kernel
theorem e_C_load_11 : decode (mB I_C_load) 11 = .ok (.aload_n 0, 1) := by decide +kernel
theorem e_C_load_12 : decode (mB I_C_load) 12 = .ok (.getfield 10, 3) := by decide +kernel
theorem e_C_load_15 : decode (mB I_C_load) 15 = .ok (.invokevirtual 83, 3) := by decide +kernel
theorem e_C_load_18 : decode (mB I_C_load) 18 = .ok (.ifCond .eq 17, 3) := by decide +kernel
theorem e_C_load_21 : decode (mB I_C_load) 21 = .ok (.aload_n 0, 1) := by decide +kernel
theorem e_C_load_22 : decode (mB I_C_load) 22 = .ok (.getfield 10, 3) := by decide +kernel
theorem e_C_load_25 : decode (mB I_C_load) 25 = .ok (.invokevirtual 87, 3) := by decide +kernel
theorem e_C_load_28 : decode (mB I_C_load) 28 = .ok (.ifCond .eq 7, 3) := by decide +kernel
theorem e_C_load_31 : decode (mB I_C_load) 31 = .ok (.iconst 1, 1) := by decide +kernel
theorem e_C_load_32 : decode (mB I_C_load) 32 = .ok (.goto 4, 3) := by decide +kernel
theorem e_C_load_35 : decode (mB I_C_load) 35 = .ok (.iconst 0, 1) := by decide +kernel
theorem e_C_load_36 : decode (mB I_C_load) 36 = .ok (.istore_n 1, 1) := by decide +kernel
theorem e_C_load_37 : decode (mB I_C_load) 37 = .ok (.aload_n 0, 1) := by decide +kernel
theorem e_C_load_38 : decode (mB I_C_load) 38 = .ok (.iload_n 1, 1) := by decide +kernel
theorem e_C_load_39 : decode (mB I_C_load) 39 = .ok (.invokevirtual 111, 3) := by decide +kernel
theorem e_C_load_42 : decode (mB I_C_load) 42 = .ok (.ifCond .eq 13, 3) := by decide +kernel
theorem e_C_load_45 : decode (mB I_C_load) 45 = .ok (.aload_n 0, 1) := by decide +kernel
theorem e_C_load_46 : decode (mB I_C_load) 46 = .ok (.getfield 39, 3) := by decide +kernel
theorem e_C_load_49 : decode (mB I_C_load) 49 = .ok (.getfield 115, 3) := by decide +kernel
theorem e_C_load_52 : decode (mB I_C_load) 52 = .ok (.goto 4, 3) := by decide +kernel
theorem e_C_load_55 : decode (mB I_C_load) 55 = .ok (.iconst (-1), 1) := by decide +kernel
theorem e_C_load_56 : decode (mB I_C_load) 56 = .ok (.ireturn, 1) := by decide +kernel
theorem e_C_nameForNextLeg_0 : decode (mB I_C_nameForNextLeg) 0 = .ok (.aload_n 0, 1) := by decide +kernel
theorem e_C_nameForNextLeg_1 : decode (mB I_C_nameForNextLeg) 1 = .ok (.getfield 39, 3) := by decide +kernel
theorem e_C_nameForNextLeg_4 : decode (mB I_C_nameForNextLeg) 4 = .ok (.getfield 115, 3) := by decide +kernel
theorem e_C_nameForNextLeg_7 : decode (mB I_C_nameForNextLeg) 7 = .ok (.bipush 20, 2) := by decide +kernel
theorem e_C_nameForNextLeg_9 : decode (mB I_C_nameForNextLeg) 9 = .ok (.if_icmp .lt 13, 3) := by decide +kernel
theorem e_C_nameForNextLeg_12 : decode (mB I_C_nameForNextLeg) 12 = .ok (.new 152, 3) := by decide +kernel
theorem e_C_nameForNextLeg_15 : decode (mB I_C_nameForNextLeg) 15 = .ok (.dup, 1) := by decide +kernel
theorem e_C_nameForNextLeg_16 : decode (mB I_C_nameForNextLeg) 16 = .ok (.ldc 154, 2) := by decide +kernel
theorem e_C_nameForNextLeg_18 : decode (mB I_C_nameForNextLeg) 18 = .ok (.invokespecial 156, 3) := by decide +kernel
theorem e_C_nameForNextLeg_21 : decode (mB I_C_nameForNextLeg) 21 = .ok (.athrow, 1) := by decide +kernel
theorem e_C_nameForNextLeg_22 : decode (mB I_C_nameForNextLeg) 22 = .ok (.sipush 544, 3) := by decide +kernel
theorem e_C_nameForNextLeg_25 : decode (mB I_C_nameForNextLeg) 25 = .ok (.aload_n 0, 1) := by decide +kernel
theorem e_C_nameForNextLeg_26 : decode (mB I_C_nameForNextLeg) 26 = .ok (.getfield 39, 3) := by decide +kernel
theorem e_C_nameForNextLeg_29 : decode (mB I_C_nameForNextLeg) 29 = .ok (.getfield 115, 3) := by decide +kernel
theorem e_C_nameForNextLeg_32 : decode (mB I_C_nameForNextLeg) 32 = .ok (.iadd, 1) := by decide +kernel
theorem e_C_nameForNextLeg_33 : decode (mB I_C_nameForNextLeg) 33 = .ok (.iconst 1, 1) := by decide +kernel
theorem e_C_nameForNextLeg_34 : decode (mB I_C_nameForNextLeg) 34 = .ok (.iadd, 1) := by decide +kernel
theorem e_C_nameForNextLeg_35 : decode (mB I_C_nameForNextLeg) 35 = .ok (.istore_n 1, 1) := by decide +kernel
theorem e_C_nameForNextLeg_36 : decode (mB I_C_nameForNextLeg) 36 = .ok (.aload_n 0, 1) := by decide +kernel
theorem e_C_nameForNextLeg_37 : decode (mB I_C_nameForNextLeg) 37 = .ok (.getfield 39, 3) := by decide +kernel
theorem e_C_nameForNextLeg_40 : decode (mB I_C_nameForNextLeg) 40 = .ok (.iload_n 1, 1) := by decide +kernel
theorem e_C_nameForNextLeg_41 : decode (mB I_C_nameForNextLeg) 41 = .ok (.invokevirtual 157, 3) := by decide +kernel
theorem e_C_nameForNextLeg_44 : decode (mB I_C_nameForNextLeg) 44 = .ok (.iconst (-1), 1) := by decide +kernel
theorem e_C_nameForNextLeg_45 : decode (mB I_C_nameForNextLeg) 45 = .ok (.if_icmp .eq 13, 3) := by decide +kernel
theorem e_C_nameForNextLeg_48 : decode (mB I_C_nameForNextLeg) 48 = .ok (.new 152, 3) := by decide +kernel
theorem e_C_nameForNextLeg_51 : decode (mB I_C_nameForNextLeg) 51 = .ok (.dup, 1) := by decide +kernel
theorem e_C_nameForNextLeg_52 : decode (mB I_C_nameForNextLeg) 52 = .ok (.ldc 161, 2) := by decide +kernel
theorem e_C_nameForNextLeg_54 : decode (mB I_C_nameForNextLeg) 54 = .ok (.invokespecial 156, 3) := by decide +kernel
theorem e_C_nameForNextLeg_57 : decode (mB I_C_nameForNextLeg) 57 = .ok (.athrow, 1) := by decide +kernel
theorem e_C_nameForNextLeg_58 : decode (mB I_C_nameForNextLeg) 58 = .ok (.iload_n 1, 1) := by decide +kernel
theorem e_C_nameForNextLeg_59 : decode (mB I_C_nameForNextLeg) 59 = .ok (.ireturn, 1) := by decide +kernel
theorem e_C_addLeg_0 : decode (mB I_C_addLeg) 0 = .ok (.iload_n 1, 1) := by decide +kernel
theorem e_C_addLeg_1 : decode (mB I_C_addLeg) 1 = .ok (.invokestatic 133, 3) := by decide +kernel
theorem e_C_addLeg_4 : decode (mB I_C_addLeg) 4 = .ok (.ifCond .eq 50, 3) := by decide +kernel
theorem e_C_addLeg_7 : decode (mB I_C_addLeg) 7 = .ok (.iload_n 2, 1) := by decide +kernel
theorem e_C_addLeg_8 : decode (mB I_C_addLeg) 8 = .ok (.iconst 0, 1) := by decide +kernel
theorem e_C_addLeg_9 : decode (mB I_C_addLeg) 9 = .ok (.bipush 99, 2) := by decide +kernel
theorem e_C_addLeg_11 : decode (mB I_C_addLeg) 11 = .ok (.invokestatic 100, 3) := by decide +kernel
theorem e_C_addLeg_14 : decode (mB I_C_addLeg) 14 = .ok (.ifCond .eq 40, 3) := by decide +kernel
theorem e_C_addLeg_17 : decode (mB I_C_addLeg) 17 = .ok (.iload_n 3, 1) := by decide +kernel
theorem e_C_addLeg_18 : decode (mB I_C_addLeg) 18 = .ok (.iconst 0, 1) := by decide +kernel
theorem e_C_addLeg_19 : decode (mB I_C_addLeg) 19 = .ok (.bipush 99, 2) := by decide +kernel
theorem e_C_addLeg_21 : decode (mB I_C_addLeg) 21 = .ok (.invokestatic 100, 3) := by decide +kernel
theorem e_C_addLeg_24 : decode (mB I_C_addLeg) 24 = .ok (.ifCond .eq 30, 3) := by decide +kernel
theorem e_C_addLeg_27 : decode (mB I_C_addLeg) 27 = .ok (.iload 4, 2) := by decide +kernel
theorem e_C_addLeg_29 : decode (mB I_C_addLeg) 29 = .ok (.iconst 0, 1) := by decide +kernel
theorem e_C_addLeg_30 : decode (mB I_C_addLeg) 30 = .ok (.sipush 9999, 3) := by decide +kernel
theorem e_C_addLeg_33 : decode (mB I_C_addLeg) 33 = .ok (.invokestatic 100, 3) := by decide +kernel
theorem e_C_addLeg_36 : decode (mB I_C_addLeg) 36 = .ok (.ifCond .eq 18, 3) := by decide +kernel
theorem e_C_addLeg_39 : decode (mB I_C_addLeg) 39 = .ok (.iload 5, 2) := by decide +kernel
theorem e_C_addLeg_41 : decode (mB I_C_addLeg) 41 = .ok (.iconst 0, 1) := by decide +kernel
theorem e_C_addLeg_42 : decode (mB I_C_addLeg) 42 = .ok (.bipush 50, 2) := by decide +kernel
theorem e_C_addLeg_44 : decode (mB I_C_addLeg) 44 = .ok (.invokestatic 100, 3) := by decide +kernel
theorem e_C_addLeg_47 : decode (mB I_C_addLeg) 47 = .ok (.ifCond .eq 7, 3) := by decide +kernel
theorem e_C_addLeg_50 : decode (mB I_C_addLeg) 50 = .ok (.iconst 1, 1) := by decide +kernel
theorem e_C_addLeg_51 : decode (mB I_C_addLeg) 51 = .ok (.goto 4, 3) := by decide +kernel
theorem e_C_addLeg_54 : decode (mB I_C_addLeg) 54 = .ok (.iconst 0, 1) := by decide +kernel
theorem e_C_addLeg_55 : decode (mB I_C_addLeg) 55 = .ok (.istore 6, 2) := by decide +kernel
theorem e_C_addLeg_57 : decode (mB I_C_addLeg) 57 = .ok (.iload 6, 2) := by decide +kernel
theorem e_C_addLeg_59 : decode (mB I_C_addLeg) 59 = .ok (.ifCond .ne 13, 3) := by decide +kernel
theorem e_C_addLeg_62 : decode (mB I_C_addLeg) 62 = .ok (.new 104, 3) := by decide +kernel
theorem e_C_addLeg_65 : decode (mB I_C_addLeg) 65 = .ok (.dup, 1) := by decide +kernel
theorem e_C_addLeg_66 : decode (mB I_C_addLeg) 66 = .ok (.ldc 137, 2) := by decide +kernel
theorem e_C_addLeg_68 : decode (mB I_C_addLeg) 68 = .ok (.invokespecial 108, 3) := by decide +kernel
theorem e_C_addLeg_71 : decode (mB I_C_addLeg) 71 = .ok (.athrow, 1) := by decide +kernel
theorem e_C_addLeg_72 : decode (mB I_C_addLeg) 72 = .ok (.aload_n 0, 1) := by decide +kernel
theorem e_C_addLeg_73 : decode (mB I_C_addLeg) 73 = .ok (.invokevirtual 139, 3) := by decide +kernel
theorem e_C_addLeg_76 : decode (mB I_C_addLeg) 76 = .ok (.istore 7, 2) := by decide +kernel
theorem e_C_addLeg_78 : decode (mB I_C_addLeg) 78 = .ok (.aload_n 0, 1) := by decide +kernel
theorem e_C_addLeg_79 : decode (mB I_C_addLeg) 79 = .ok (.invokevirtual 130, 3) := by decide +kernel
theorem e_C_addLeg_82 : decode (mB I_C_addLeg) 82 = .ok (.aload_n 0, 1) := by decide +kernel
theorem e_C_addLeg_83 : decode (mB I_C_addLeg) 83 = .ok (.getfield 39, 3) := by decide +kernel
theorem e_C_addLeg_86 : decode (mB I_C_addLeg) 86 = .ok (.iload 7, 2) := by decide +kernel
theorem e_C_addLeg_88 : decode (mB I_C_addLeg) 88 = .ok (.iload_n 1, 1) := by decide +kernel
theorem e_C_addLeg_89 : decode (mB I_C_addLeg) 89 = .ok (.iload_n 2, 1) := by decide +kernel
theorem e_C_addLeg_90 : decode (mB I_C_addLeg) 90 = .ok (.iload_n 3, 1) := by decide +kernel
theorem e_C_addLeg_91 : decode (mB I_C_addLeg) 91 = .ok (.iconst 0, 1) := by decide +kernel
theorem e_C_addLeg_92 : decode (mB I_C_addLeg) 92 = .ok (.iload 4, 2) := by decide +kernel
theorem e_C_addLeg_94 : decode (mB I_C_addLeg) 94 = .ok (.iload 5, 2) := by decide +kernel
theorem e_C_addLeg_96 : decode (mB I_C_addLeg) 96 = .ok (.invokevirtual 142, 3) := by decide +kernel
theorem e_C_addLeg_99 : decode (mB I_C_addLeg) 99 = .ok (.aload_n 0, 1) := by decide +kernel
theorem e_C_addLeg_100 : decode (mB I_C_addLeg) 100 = .ok (.getfield 39, 3) := by decide +kernel
theorem e_C_addLeg_103 : decode (mB I_C_addLeg) 103 = .ok (.getfield 115, 3) := by decide +kernel
theorem e_C_addLeg_106 : decode (mB I_C_addLeg) 106 = .ok (.iconst 1, 1) := by decide +kernel
theorem e_C_addLeg_107 : decode (mB I_C_addLeg) 107 = .ok (.isub, 1) := by decide +kernel
theorem e_C_addLeg_108 : decode (mB I_C_addLeg) 108 = .ok (.ireturn, 1) := by decide +kernel
theorem e_C_addBog_0 : decode (mB I_C_addBog) 0 = .ok (.iload_n 1, 1) := by decide +kernel
theorem e_C_addBog_1 : decode (mB I_C_addBog) 1 = .ok (.invokestatic 133, 3) := by decide +kernel
theorem e_C_addBog_4 : decode (mB I_C_addBog) 4 = .ok (.ifCond .eq 14, 3) := by decide +kernel
theorem e_C_addBog_7 : decode (mB I_C_addBog) 7 = .ok (.iload_n 2, 1) := by decide +kernel
theorem e_C_addBog_8 : decode (mB I_C_addBog) 8 = .ok (.iconst 1, 1) := by decide +kernel
theorem e_C_addBog_9 : decode (mB I_C_addBog) 9 = .ok (.sipush 999, 3) := by decide +kernel
theorem e_C_addBog_12 : decode (mB I_C_addBog) 12 = .ok (.invokestatic 100, 3) := by decide +kernel
theorem e_C_addBog_15 : decode (mB I_C_addBog) 15 = .ok (.ifCond .ne 13, 3) := by decide +kernel
theorem e_C_addBog_18 : decode (mB I_C_addBog) 18 = .ok (.new 104, 3) := by decide +kernel
theorem e_C_addBog_21 : decode (mB I_C_addBog) 21 = .ok (.dup, 1) := by decide +kernel
theorem e_C_addBog_22 : decode (mB I_C_addBog) 22 = .ok (.ldc 146, 2) := by decide +kernel
theorem e_C_addBog_24 : decode (mB I_C_addBog) 24 = .ok (.invokespecial 108, 3) := by decide +kernel
theorem e_C_addBog_27 : decode (mB I_C_addBog) 27 = .ok (.athrow, 1) := by decide +kernel
theorem e_C_addBog_28 : decode (mB I_C_addBog) 28 = .ok (.aload_n 0, 1) := by decide +kernel
theorem e_C_addBog_29 : decode (mB I_C_addBog) 29 = .ok (.invokevirtual 139, 3) := by decide +kernel
theorem e_C_addBog_32 : decode (mB I_C_addBog) 32 = .ok (.istore_n 3, 1) := by decide +kernel
theorem e_C_addBog_33 : decode (mB I_C_addBog) 33 = .ok (.aload_n 0, 1) := by decide +kernel
theorem e_C_addBog_34 : decode (mB I_C_addBog) 34 = .ok (.invokevirtual 130, 3) := by decide +kernel
theorem e_C_addBog_37 : decode (mB I_C_addBog) 37 = .ok (.aload_n 0, 1) := by decide +kernel
theorem e_C_addBog_38 : decode (mB I_C_addBog) 38 = .ok (.getfield 39, 3) := by decide +kernel
theorem e_C_addBog_41 : decode (mB I_C_addBog) 41 = .ok (.iload_n 3, 1) := by decide +kernel
theorem e_C_addBog_42 : decode (mB I_C_addBog) 42 = .ok (.iload_n 1, 1) := by decide +kernel
theorem e_C_addBog_43 : decode (mB I_C_addBog) 43 = .ok (.iload_n 2, 1) := by decide +kernel
theorem e_C_addBog_44 : decode (mB I_C_addBog) 44 = .ok (.invokevirtual 148, 3) := by decide +kernel
theorem e_C_addBog_47 : decode (mB I_C_addBog) 47 = .ok (.aload_n 0, 1) := by decide +kernel
theorem e_C_addBog_48 : decode (mB I_C_addBog) 48 = .ok (.getfield 39, 3) := by decide +kernel
theorem e_C_addBog_51 : decode (mB I_C_addBog) 51 = .ok (.getfield 115, 3) := by decide +kernel
theorem e_C_addBog_54 : decode (mB I_C_addBog) 54 = .ok (.iconst 1, 1) := by decide +kernel
theorem e_C_addBog_55 : decode (mB I_C_addBog) 55 = .ok (.isub, 1) := by decide +kernel
theorem e_C_addBog_56 : decode (mB I_C_addBog) 56 = .ok (.ireturn, 1) := by decide +kernel
theorem e_C_requireLeg_0 : decode (mB I_C_requireLeg) 0 = .ok (.iload_n 1, 1) := by decide +kernel
theorem e_C_requireLeg_1 : decode (mB I_C_requireLeg) 1 = .ok (.iconst 0, 1) := by decide +kernel
theorem e_C_requireLeg_2 : decode (mB I_C_requireLeg) 2 = .ok (.aload_n 0, 1) := by decide +kernel
theorem e_C_requireLeg_3 : decode (mB I_C_requireLeg) 3 = .ok (.getfield 39, 3) := by decide +kernel
theorem e_C_requireLeg_6 : decode (mB I_C_requireLeg) 6 = .ok (.getfield 115, 3) := by decide +kernel
theorem e_C_requireLeg_9 : decode (mB I_C_requireLeg) 9 = .ok (.iconst 1, 1) := by decide +kernel
theorem e_C_requireLeg_10 : decode (mB I_C_requireLeg) 10 = .ok (.isub, 1) := by decide +kernel
theorem e_C_requireLeg_11 : decode (mB I_C_requireLeg) 11 = .ok (.invokestatic 100, 3) := by decide +kernel
theorem e_C_requireLeg_14 : decode (mB I_C_requireLeg) 14 = .ok (.ifCond .ne 14, 3) := by decide +kernel
theorem e_C_requireLeg_17 : decode (mB I_C_requireLeg) 17 = .ok (.new 336, 3) := by decide +kernel
theorem e_C_requireLeg_20 : decode (mB I_C_requireLeg) 20 = .ok (.dup, 1) := by decide +kernel
theorem e_C_requireLeg_21 : decode (mB I_C_requireLeg) 21 = .ok (.ldc_w 338, 3) := by decide +kernel
theorem e_C_requireLeg_24 : decode (mB I_C_requireLeg) 24 = .ok (.invokespecial 340, 3) := by decide +kernel
theorem e_C_requireLeg_27 : decode (mB I_C_requireLeg) 27 = .ok (.athrow, 1) := by decide +kernel
theorem e_C_requireLeg_28 : decode (mB I_C_requireLeg) 28 = .ok (.return_, 1) := by decide +kernel
theorem e_C_dropPin_0 : decode (mB I_C_dropPin) 0 = .ok (.aload_n 0, 1) := by decide +kernel
theorem e_C_dropPin_1 : decode (mB I_C_dropPin) 1 = .ok (.iload_n 1, 1) := by decide +kernel
theorem e_C_dropPin_2 : decode (mB I_C_dropPin) 2 = .ok (.invokevirtual 163, 3) := by decide +kernel
theorem e_C_dropPin_5 : decode (mB I_C_dropPin) 5 = .ok (.aload_n 0, 1) := by decide +kernel
theorem e_C_dropPin_6 : decode (mB I_C_dropPin) 6 = .ok (.getfield 39, 3) := by decide +kernel
theorem e_C_dropPin_9 : decode (mB I_C_dropPin) 9 = .ok (.iload_n 1, 1) := by decide +kernel
theorem e_C_dropPin_10 : decode (mB I_C_dropPin) 10 = .ok (.invokevirtual 166, 3) := by decide +kernel
theorem e_C_dropPin_13 : decode (mB I_C_dropPin) 13 = .ok (.ifCond .ne 13, 3) := by decide +kernel
theorem e_C_dropPin_16 : decode (mB I_C_dropPin) 16 = .ok (.new 152, 3) := by decide +kernel
theorem e_C_dropPin_19 : decode (mB I_C_dropPin) 19 = .ok (.dup, 1) := by decide +kernel
theorem e_C_dropPin_20 : decode (mB I_C_dropPin) 20 = .ok (.ldc 169, 2) := by decide +kernel
theorem e_C_dropPin_22 : decode (mB I_C_dropPin) 22 = .ok (.invokespecial 156, 3) := by decide +kernel
theorem e_C_dropPin_25 : decode (mB I_C_dropPin) 25 = .ok (.athrow, 1) := by decide +kernel
theorem e_C_dropPin_26 : decode (mB I_C_dropPin) 26 = .ok (.aload_n 0, 1) := by decide +kernel
theorem e_C_dropPin_27 : decode (mB I_C_dropPin) 27 = .ok (.invokevirtual 130, 3) := by decide +kernel
theorem e_C_dropPin_30 : decode (mB I_C_dropPin) 30 = .ok (.aload_n 0, 1) := by decide +kernel
theorem e_C_dropPin_31 : decode (mB I_C_dropPin) 31 = .ok (.getfield 39, 3) := by decide +kernel
theorem e_C_dropPin_34 : decode (mB I_C_dropPin) 34 = .ok (.getfield 171, 3) := by decide +kernel
theorem e_C_dropPin_37 : decode (mB I_C_dropPin) 37 = .ok (.iload_n 1, 1) := by decide +kernel
theorem e_C_dropPin_38 : decode (mB I_C_dropPin) 38 = .ok (.dup2, 1) := by decide +kernel
theorem e_C_dropPin_39 : decode (mB I_C_dropPin) 39 = .ok (.iaload, 1) := by decide +kernel
theorem e_C_dropPin_40 : decode (mB I_C_dropPin) 40 = .ok (.iconst 1, 1) := by decide +kernel
theorem e_C_dropPin_41 : decode (mB I_C_dropPin) 41 = .ok (.iadd, 1) := by decide +kernel
theorem e_C_dropPin_42 : decode (mB I_C_dropPin) 42 = .ok (.iastore, 1) := by decide +kernel
theorem e_C_dropPin_43 : decode (mB I_C_dropPin) 43 = .ok (.aload_n 0, 1) := by decide +kernel
theorem e_C_dropPin_44 : decode (mB I_C_dropPin) 44 = .ok (.getfield 39, 3) := by decide +kernel
theorem e_C_dropPin_47 : decode (mB I_C_dropPin) 47 = .ok (.getfield 171, 3) := by decide +kernel
theorem e_C_dropPin_50 : decode (mB I_C_dropPin) 50 = .ok (.iload_n 1, 1) := by decide +kernel
theorem e_C_dropPin_51 : decode (mB I_C_dropPin) 51 = .ok (.iaload, 1) := by decide +kernel
theorem e_C_dropPin_52 : decode (mB I_C_dropPin) 52 = .ok (.ireturn, 1) := by decide +kernel
theorem e_C_findPin_0 : decode (mB I_C_findPin) 0 = .ok (.aload_n 0, 1) := by decide +kernel
theorem e_C_findPin_1 : decode (mB I_C_findPin) 1 = .ok (.iload_n 1, 1) := by decide +kernel
theorem e_C_findPin_2 : decode (mB I_C_findPin) 2 = .ok (.invokevirtual 163, 3) := by decide +kernel
theorem e_C_findPin_5 : decode (mB I_C_findPin) 5 = .ok (.aload_n 0, 1) := by decide +kernel
theorem e_C_findPin_6 : decode (mB I_C_findPin) 6 = .ok (.getfield 39, 3) := by decide +kernel
theorem e_C_findPin_9 : decode (mB I_C_findPin) 9 = .ok (.iload_n 1, 1) := by decide +kernel
theorem e_C_findPin_10 : decode (mB I_C_findPin) 10 = .ok (.invokevirtual 175, 3) := by decide +kernel
theorem e_C_findPin_13 : decode (mB I_C_findPin) 13 = .ok (.ifCond .ne 13, 3) := by decide +kernel
theorem e_C_findPin_16 : decode (mB I_C_findPin) 16 = .ok (.new 152, 3) := by decide +kernel
theorem e_C_findPin_19 : decode (mB I_C_findPin) 19 = .ok (.dup, 1) := by decide +kernel
theorem e_C_findPin_20 : decode (mB I_C_findPin) 20 = .ok (.ldc 178, 2) := by decide +kernel
theorem e_C_findPin_22 : decode (mB I_C_findPin) 22 = .ok (.invokespecial 156, 3) := by decide +kernel
theorem e_C_findPin_25 : decode (mB I_C_findPin) 25 = .ok (.athrow, 1) := by decide +kernel
theorem e_C_findPin_26 : decode (mB I_C_findPin) 26 = .ok (.aload_n 0, 1) := by decide +kernel
theorem e_C_findPin_27 : decode (mB I_C_findPin) 27 = .ok (.invokevirtual 130, 3) := by decide +kernel
theorem e_C_findPin_30 : decode (mB I_C_findPin) 30 = .ok (.aload_n 0, 1) := by decide +kernel
theorem e_C_findPin_31 : decode (mB I_C_findPin) 31 = .ok (.getfield 39, 3) := by decide +kernel
theorem e_C_findPin_34 : decode (mB I_C_findPin) 34 = .ok (.getfield 171, 3) := by decide +kernel
theorem e_C_findPin_37 : decode (mB I_C_findPin) 37 = .ok (.iload_n 1, 1) := by decide +kernel
theorem e_C_findPin_38 : decode (mB I_C_findPin) 38 = .ok (.dup2, 1) := by decide +kernel
theorem e_C_findPin_39 : decode (mB I_C_findPin) 39 = .ok (.iaload, 1) := by decide +kernel
theorem e_C_findPin_40 : decode (mB I_C_findPin) 40 = .ok (.iconst 1, 1) := by decide +kernel
theorem e_C_findPin_41 : decode (mB I_C_findPin) 41 = .ok (.isub, 1) := by decide +kernel
theorem e_C_findPin_42 : decode (mB I_C_findPin) 42 = .ok (.iastore, 1) := by decide +kernel
theorem e_C_findPin_43 : decode (mB I_C_findPin) 43 = .ok (.aload_n 0, 1) := by decide +kernel
theorem e_C_findPin_44 : decode (mB I_C_findPin) 44 = .ok (.getfield 39, 3) := by decide +kernel
theorem e_C_findPin_47 : decode (mB I_C_findPin) 47 = .ok (.getfield 171, 3) := by decide +kernel
theorem e_C_findPin_50 : decode (mB I_C_findPin) 50 = .ok (.iload_n 1, 1) := by decide +kernel
theorem e_C_findPin_51 : decode (mB I_C_findPin) 51 = .ok (.iaload, 1) := by decide +kernel
theorem e_C_findPin_52 : decode (mB I_C_findPin) 52 = .ok (.ireturn, 1) := by decide +kernel
theorem e_C_removeLast_0 : decode (mB I_C_removeLast) 0 = .ok (.aload_n 0, 1) := by decide +kernel
theorem e_C_removeLast_1 : decode (mB I_C_removeLast) 1 = .ok (.getfield 39, 3) := by decide +kernel
theorem e_C_removeLast_4 : decode (mB I_C_removeLast) 4 = .ok (.getfield 115, 3) := by decide +kernel
theorem e_C_removeLast_7 : decode (mB I_C_removeLast) 7 = .ok (.ifCond .ne 13, 3) := by decide +kernel
theorem e_C_removeLast_10 : decode (mB I_C_removeLast) 10 = .ok (.new 152, 3) := by decide +kernel
theorem e_C_removeLast_13 : decode (mB I_C_removeLast) 13 = .ok (.dup, 1) := by decide +kernel
theorem e_C_removeLast_14 : decode (mB I_C_removeLast) 14 = .ok (.ldc 180, 2) := by decide +kernel
theorem e_C_removeLast_16 : decode (mB I_C_removeLast) 16 = .ok (.invokespecial 156, 3) := by decide +kernel
theorem e_C_removeLast_19 : decode (mB I_C_removeLast) 19 = .ok (.athrow, 1) := by decide +kernel
theorem e_C_removeLast_20 : decode (mB I_C_removeLast) 20 = .ok (.aload_n 0, 1) := by decide +kernel
theorem e_C_removeLast_21 : decode (mB I_C_removeLast) 21 = .ok (.invokevirtual 130, 3) := by decide +kernel
theorem e_C_removeLast_24 : decode (mB I_C_removeLast) 24 = .ok (.aload_n 0, 1) := by decide +kernel
theorem e_C_removeLast_25 : decode (mB I_C_removeLast) 25 = .ok (.getfield 39, 3) := by decide +kernel
theorem e_C_removeLast_28 : decode (mB I_C_removeLast) 28 = .ok (.dup, 1) := by decide +kernel
theorem e_C_removeLast_29 : decode (mB I_C_removeLast) 29 = .ok (.getfield 115, 3) := by decide +kernel
theorem e_C_removeLast_32 : decode (mB I_C_removeLast) 32 = .ok (.iconst 1, 1) := by decide +kernel
theorem e_C_removeLast_33 : decode (mB I_C_removeLast) 33 = .ok (.isub, 1) := by decide +kernel
theorem e_C_removeLast_34 : decode (mB I_C_removeLast) 34 = .ok (.putfield 115, 3) := by decide +kernel
theorem e_C_removeLast_37 : decode (mB I_C_removeLast) 37 = .ok (.aload_n 0, 1) := by decide +kernel
theorem e_C_removeLast_38 : decode (mB I_C_removeLast) 38 = .ok (.getfield 39, 3) := by decide +kernel
theorem e_C_removeLast_41 : decode (mB I_C_removeLast) 41 = .ok (.getfield 115, 3) := by decide +kernel
theorem e_C_removeLast_44 : decode (mB I_C_removeLast) 44 = .ok (.ireturn, 1) := by decide +kernel
theorem e_C_setWear_0 : decode (mB I_C_setWear) 0 = .ok (.iload_n 1, 1) := by decide +kernel
theorem e_C_setWear_1 : decode (mB I_C_setWear) 1 = .ok (.iconst 0, 1) := by decide +kernel
theorem e_C_setWear_2 : decode (mB I_C_setWear) 2 = .ok (.sipush 999, 3) := by decide +kernel
theorem e_C_setWear_5 : decode (mB I_C_setWear) 5 = .ok (.invokestatic 100, 3) := by decide +kernel
theorem e_C_setWear_8 : decode (mB I_C_setWear) 8 = .ok (.ifCond .ne 13, 3) := by decide +kernel
theorem e_C_setWear_11 : decode (mB I_C_setWear) 11 = .ok (.new 104, 3) := by decide +kernel
theorem e_C_setWear_14 : decode (mB I_C_setWear) 14 = .ok (.dup, 1) := by decide +kernel
theorem e_C_setWear_15 : decode (mB I_C_setWear) 15 = .ok (.ldc 182, 2) := by decide +kernel
theorem e_C_setWear_17 : decode (mB I_C_setWear) 17 = .ok (.invokespecial 108, 3) := by decide +kernel
theorem e_C_setWear_20 : decode (mB I_C_setWear) 20 = .ok (.athrow, 1) := by decide +kernel
theorem e_C_setWear_21 : decode (mB I_C_setWear) 21 = .ok (.aload_n 0, 1) := by decide +kernel
theorem e_C_setWear_22 : decode (mB I_C_setWear) 22 = .ok (.getfield 39, 3) := by decide +kernel
theorem e_C_setWear_25 : decode (mB I_C_setWear) 25 = .ok (.getfield 184, 3) := by decide +kernel
theorem e_C_setWear_28 : decode (mB I_C_setWear) 28 = .ok (.istore_n 2, 1) := by decide +kernel
theorem e_C_setWear_29 : decode (mB I_C_setWear) 29 = .ok (.aload_n 0, 1) := by decide +kernel
theorem e_C_setWear_30 : decode (mB I_C_setWear) 30 = .ok (.invokevirtual 130, 3) := by decide +kernel
theorem e_C_setWear_33 : decode (mB I_C_setWear) 33 = .ok (.aload_n 0, 1) := by decide +kernel
theorem e_C_setWear_34 : decode (mB I_C_setWear) 34 = .ok (.getfield 39, 3) := by decide +kernel
theorem e_C_setWear_37 : decode (mB I_C_setWear) 37 = .ok (.iload_n 1, 1) := by decide +kernel
theorem e_C_setWear_38 : decode (mB I_C_setWear) 38 = .ok (.putfield 184, 3) := by decide +kernel
theorem e_C_setWear_41 : decode (mB I_C_setWear) 41 = .ok (.iload_n 2, 1) := by decide +kernel
theorem e_C_setWear_42 : decode (mB I_C_setWear) 42 = .ok (.ireturn, 1) := by decide +kernel
theorem e_C_setPace_0 : decode (mB I_C_setPace) 0 = .ok (.iload_n 1, 1) := by decide +kernel
theorem e_C_setPace_1 : decode (mB I_C_setPace) 1 = .ok (.bipush 100, 2) := by decide +kernel
theorem e_C_setPace_3 : decode (mB I_C_setPace) 3 = .ok (.sipush 999, 3) := by decide +kernel
theorem e_C_setPace_6 : decode (mB I_C_setPace) 6 = .ok (.invokestatic 100, 3) := by decide +kernel
theorem e_C_setPace_9 : decode (mB I_C_setPace) 9 = .ok (.ifCond .ne 13, 3) := by decide +kernel
theorem e_C_setPace_12 : decode (mB I_C_setPace) 12 = .ok (.new 104, 3) := by decide +kernel
theorem e_C_setPace_15 : decode (mB I_C_setPace) 15 = .ok (.dup, 1) := by decide +kernel
theorem e_C_setPace_16 : decode (mB I_C_setPace) 16 = .ok (.ldc 187, 2) := by decide +kernel
theorem e_C_setPace_18 : decode (mB I_C_setPace) 18 = .ok (.invokespecial 108, 3) := by decide +kernel
theorem e_C_setPace_21 : decode (mB I_C_setPace) 21 = .ok (.athrow, 1) := by decide +kernel
theorem e_C_setPace_22 : decode (mB I_C_setPace) 22 = .ok (.aload_n 0, 1) := by decide +kernel
theorem e_C_setPace_23 : decode (mB I_C_setPace) 23 = .ok (.getfield 39, 3) := by decide +kernel
theorem e_C_setPace_26 : decode (mB I_C_setPace) 26 = .ok (.getfield 189, 3) := by decide +kernel
theorem e_C_setPace_29 : decode (mB I_C_setPace) 29 = .ok (.istore_n 2, 1) := by decide +kernel
theorem e_C_setPace_30 : decode (mB I_C_setPace) 30 = .ok (.aload_n 0, 1) := by decide +kernel
theorem e_C_setPace_31 : decode (mB I_C_setPace) 31 = .ok (.invokevirtual 130, 3) := by decide +kernel
theorem e_C_setPace_34 : decode (mB I_C_setPace) 34 = .ok (.aload_n 0, 1) := by decide +kernel
theorem e_C_setPace_35 : decode (mB I_C_setPace) 35 = .ok (.getfield 39, 3) := by decide +kernel
theorem e_C_setPace_38 : decode (mB I_C_setPace) 38 = .ok (.iload_n 1, 1) := by decide +kernel
theorem e_C_setPace_39 : decode (mB I_C_setPace) 39 = .ok (.putfield 189, 3) := by decide +kernel
theorem e_C_setPace_42 : decode (mB I_C_setPace) 42 = .ok (.iload_n 2, 1) := by decide +kernel
theorem e_C_setPace_43 : decode (mB I_C_setPace) 43 = .ok (.ireturn, 1) := by decide +kernel
theorem e_C_setAdjusted_0 : decode (mB I_C_setAdjusted) 0 = .ok (.aload_n 0, 1) := by decide +kernel
theorem e_C_setAdjusted_1 : decode (mB I_C_setAdjusted) 1 = .ok (.getfield 39, 3) := by decide +kernel
theorem e_C_setAdjusted_4 : decode (mB I_C_setAdjusted) 4 = .ok (.getfield 192, 3) := by decide +kernel
theorem e_C_setAdjusted_7 : decode (mB I_C_setAdjusted) 7 = .ok (.istore_n 2, 1) := by decide +kernel
theorem e_C_setAdjusted_8 : decode (mB I_C_setAdjusted) 8 = .ok (.aload_n 0, 1) := by decide +kernel
theorem e_C_setAdjusted_9 : decode (mB I_C_setAdjusted) 9 = .ok (.invokevirtual 130, 3) := by decide +kernel
theorem e_C_setAdjusted_12 : decode (mB I_C_setAdjusted) 12 = .ok (.aload_n 0, 1) := by decide +kernel
theorem e_C_setAdjusted_13 : decode (mB I_C_setAdjusted) 13 = .ok (.getfield 39, 3) := by decide +kernel
theorem e_C_setAdjusted_16 : decode (mB I_C_setAdjusted) 16 = .ok (.iload_n 1, 1) := by decide +kernel
theorem e_C_setAdjusted_17 : decode (mB I_C_setAdjusted) 17 = .ok (.putfield 192, 3) := by decide +kernel
theorem e_C_setAdjusted_20 : decode (mB I_C_setAdjusted) 20 = .ok (.iload_n 2, 1) := by decide +kernel
theorem e_C_setAdjusted_21 : decode (mB I_C_setAdjusted) 21 = .ok (.ireturn, 1) := by decide +kernel
theorem e_C_undo_0 : decode (mB I_C_undo) 0 = .ok (.aload_n 0, 1) := by decide +kernel
theorem e_C_undo_1 : decode (mB I_C_undo) 1 = .ok (.getfield 196, 3) := by decide +kernel
theorem e_C_undo_4 : decode (mB I_C_undo) 4 = .ok (.ifCond .ne 13, 3) := by decide +kernel
theorem e_C_undo_7 : decode (mB I_C_undo) 7 = .ok (.new 152, 3) := by decide +kernel
theorem e_C_undo_10 : decode (mB I_C_undo) 10 = .ok (.dup, 1) := by decide +kernel
theorem e_C_undo_11 : decode (mB I_C_undo) 11 = .ok (.ldc 199, 2) := by decide +kernel
theorem e_C_undo_13 : decode (mB I_C_undo) 13 = .ok (.invokespecial 156, 3) := by decide +kernel
theorem e_C_undo_16 : decode (mB I_C_undo) 16 = .ok (.athrow, 1) := by decide +kernel
theorem e_C_undo_17 : decode (mB I_C_undo) 17 = .ok (.aload_n 0, 1) := by decide +kernel
theorem e_C_undo_18 : decode (mB I_C_undo) 18 = .ok (.aload_n 0, 1) := by decide +kernel
theorem e_C_undo_19 : decode (mB I_C_undo) 19 = .ok (.getfield 201, 3) := by decide +kernel
theorem e_C_undo_22 : decode (mB I_C_undo) 22 = .ok (.ifCond .ne 8, 3) := by decide +kernel
theorem e_C_undo_25 : decode (mB I_C_undo) 25 = .ok (.bipush 7, 2) := by decide +kernel
theorem e_C_undo_27 : decode (mB I_C_undo) 27 = .ok (.goto 9, 3) := by decide +kernel
theorem e_C_undo_30 : decode (mB I_C_undo) 30 = .ok (.aload_n 0, 1) := by decide +kernel
theorem e_C_undo_31 : decode (mB I_C_undo) 31 = .ok (.getfield 201, 3) := by decide +kernel
theorem e_C_undo_34 : decode (mB I_C_undo) 34 = .ok (.iconst 1, 1) := by decide +kernel
theorem e_C_undo_35 : decode (mB I_C_undo) 35 = .ok (.isub, 1) := by decide +kernel
theorem e_C_undo_36 : decode (mB I_C_undo) 36 = .ok (.putfield 201, 3) := by decide +kernel
theorem e_C_undo_39 : decode (mB I_C_undo) 39 = .ok (.aload_n 0, 1) := by decide +kernel
theorem e_C_undo_40 : decode (mB I_C_undo) 40 = .ok (.dup, 1) := by decide +kernel
theorem e_C_undo_41 : decode (mB I_C_undo) 41 = .ok (.getfield 196, 3) := by decide +kernel
theorem e_C_undo_44 : decode (mB I_C_undo) 44 = .ok (.iconst 1, 1) := by decide +kernel
theorem e_C_undo_45 : decode (mB I_C_undo) 45 = .ok (.isub, 1) := by decide +kernel
theorem e_C_undo_46 : decode (mB I_C_undo) 46 = .ok (.putfield 196, 3) := by decide +kernel
theorem e_C_undo_49 : decode (mB I_C_undo) 49 = .ok (.aload_n 0, 1) := by decide +kernel
theorem e_C_undo_50 : decode (mB I_C_undo) 50 = .ok (.getfield 39, 3) := by decide +kernel
theorem e_C_undo_53 : decode (mB I_C_undo) 53 = .ok (.aload_n 0, 1) := by decide +kernel
theorem e_C_undo_54 : decode (mB I_C_undo) 54 = .ok (.getfield 56, 3) := by decide +kernel
theorem e_C_undo_57 : decode (mB I_C_undo) 57 = .ok (.aload_n 0, 1) := by decide +kernel
theorem e_C_undo_58 : decode (mB I_C_undo) 58 = .ok (.getfield 201, 3) := by decide +kernel
theorem e_C_undo_61 : decode (mB I_C_undo) 61 = .ok (.aaload, 1) := by decide +kernel
theorem e_C_undo_62 : decode (mB I_C_undo) 62 = .ok (.invokevirtual 90, 3) := by decide +kernel
theorem e_C_undo_65 : decode (mB I_C_undo) 65 = .ok (.aload_n 0, 1) := by decide +kernel
theorem e_C_undo_66 : decode (mB I_C_undo) 66 = .ok (.getfield 196, 3) := by decide +kernel
theorem e_C_undo_69 : decode (mB I_C_undo) 69 = .ok (.ireturn, 1) := by decide +kernel
theorem e_C_legCount_0 : decode (mB I_C_legCount) 0 = .ok (.aload_n 0, 1) := by decide +kernel
theorem e_C_legCount_1 : decode (mB I_C_legCount) 1 = .ok (.getfield 39, 3) := by decide +kernel
theorem e_C_legCount_4 : decode (mB I_C_legCount) 4 = .ok (.getfield 115, 3) := by decide +kernel
theorem e_C_legCount_7 : decode (mB I_C_legCount) 7 = .ok (.ireturn, 1) := by decide +kernel
theorem e_C_stationCount_0 : decode (mB I_C_stationCount) 0 = .ok (.aload_n 0, 1) := by decide +kernel
theorem e_C_stationCount_1 : decode (mB I_C_stationCount) 1 = .ok (.getfield 39, 3) := by decide +kernel
theorem e_C_stationCount_4 : decode (mB I_C_stationCount) 4 = .ok (.getfield 115, 3) := by decide +kernel
theorem e_C_stationCount_7 : decode (mB I_C_stationCount) 7 = .ok (.iconst 1, 1) := by decide +kernel
theorem e_C_stationCount_8 : decode (mB I_C_stationCount) 8 = .ok (.iadd, 1) := by decide +kernel
theorem e_C_stationCount_9 : decode (mB I_C_stationCount) 9 = .ok (.ireturn, 1) := by decide +kernel
theorem e_C_wear_0 : decode (mB I_C_wear) 0 = .ok (.aload_n 0, 1) := by decide +kernel
theorem e_C_wear_1 : decode (mB I_C_wear) 1 = .ok (.getfield 39, 3) := by decide +kernel
theorem e_C_wear_4 : decode (mB I_C_wear) 4 = .ok (.getfield 184, 3) := by decide +kernel
theorem e_C_wear_7 : decode (mB I_C_wear) 7 = .ok (.ireturn, 1) := by decide +kernel
theorem e_C_pace_0 : decode (mB I_C_pace) 0 = .ok (.aload_n 0, 1) := by decide +kernel
theorem e_C_pace_1 : decode (mB I_C_pace) 1 = .ok (.getfield 39, 3) := by decide +kernel
theorem e_C_pace_4 : decode (mB I_C_pace) 4 = .ok (.getfield 189, 3) := by decide +kernel
theorem e_C_pace_7 : decode (mB I_C_pace) 7 = .ok (.ireturn, 1) := by decide +kernel
theorem e_C_undoableChanges_0 : decode (mB I_C_undoableChanges) 0 = .ok (.aload_n 0, 1) := by decide +kernel
theorem e_C_undoableChanges_1 : decode (mB I_C_undoableChanges) 1 = .ok (.getfield 196, 3) := by decide +kernel
theorem e_C_undoableChanges_4 : decode (mB I_C_undoableChanges) 4 = .ok (.ireturn, 1) := by decide +kernel
theorem e_C_isAdjusted_0 : decode (mB I_C_isAdjusted) 0 = .ok (.aload_n 0, 1) := by decide +kernel
theorem e_C_isAdjusted_1 : decode (mB I_C_isAdjusted) 1 = .ok (.getfield 39, 3) := by decide +kernel
theorem e_C_isAdjusted_4 : decode (mB I_C_isAdjusted) 4 = .ok (.getfield 192, 3) := by decide +kernel
theorem e_C_isAdjusted_7 : decode (mB I_C_isAdjusted) 7 = .ok (.ireturn, 1) := by decide +kernel
theorem e_C_bearing_0 : decode (mB I_C_bearing) 0 = .ok (.aload_n 0, 1) := by decide +kernel
theorem e_C_bearing_1 : decode (mB I_C_bearing) 1 = .ok (.iload_n 1, 1) := by decide +kernel
theorem e_C_bearing_2 : decode (mB I_C_bearing) 2 = .ok (.invokevirtual 163, 3) := by decide +kernel
theorem e_C_bearing_5 : decode (mB I_C_bearing) 5 = .ok (.aload_n 0, 1) := by decide +kernel
theorem e_C_bearing_6 : decode (mB I_C_bearing) 6 = .ok (.getfield 39, 3) := by decide +kernel
theorem e_C_bearing_9 : decode (mB I_C_bearing) 9 = .ok (.getfield 215, 3) := by decide +kernel
theorem e_C_bearing_12 : decode (mB I_C_bearing) 12 = .ok (.iload_n 1, 1) := by decide +kernel
theorem e_C_bearing_13 : decode (mB I_C_bearing) 13 = .ok (.iaload, 1) := by decide +kernel
theorem e_C_bearing_14 : decode (mB I_C_bearing) 14 = .ok (.ireturn, 1) := by decide +kernel
theorem e_C_pins_0 : decode (mB I_C_pins) 0 = .ok (.aload_n 0, 1) := by decide +kernel
theorem e_C_pins_1 : decode (mB I_C_pins) 1 = .ok (.iload_n 1, 1) := by decide +kernel
theorem e_C_pins_2 : decode (mB I_C_pins) 2 = .ok (.invokevirtual 163, 3) := by decide +kernel
theorem e_C_pins_5 : decode (mB I_C_pins) 5 = .ok (.aload_n 0, 1) := by decide +kernel
theorem e_C_pins_6 : decode (mB I_C_pins) 6 = .ok (.getfield 39, 3) := by decide +kernel
theorem e_C_pins_9 : decode (mB I_C_pins) 9 = .ok (.getfield 218, 3) := by decide +kernel
theorem e_C_pins_12 : decode (mB I_C_pins) 12 = .ok (.iload_n 1, 1) := by decide +kernel
theorem e_C_pins_13 : decode (mB I_C_pins) 13 = .ok (.iaload, 1) := by decide +kernel
theorem e_C_pins_14 : decode (mB I_C_pins) 14 = .ok (.ireturn, 1) := by decide +kernel
theorem e_C_droppedPins_0 : decode (mB I_C_droppedPins) 0 = .ok (.aload_n 0, 1) := by decide +kernel
theorem e_C_droppedPins_1 : decode (mB I_C_droppedPins) 1 = .ok (.iload_n 1, 1) := by decide +kernel
theorem e_C_droppedPins_2 : decode (mB I_C_droppedPins) 2 = .ok (.invokevirtual 163, 3) := by decide +kernel
theorem e_C_droppedPins_5 : decode (mB I_C_droppedPins) 5 = .ok (.aload_n 0, 1) := by decide +kernel
theorem e_C_droppedPins_6 : decode (mB I_C_droppedPins) 6 = .ok (.getfield 39, 3) := by decide +kernel
theorem e_C_droppedPins_9 : decode (mB I_C_droppedPins) 9 = .ok (.getfield 171, 3) := by decide +kernel
theorem e_C_droppedPins_12 : decode (mB I_C_droppedPins) 12 = .ok (.iload_n 1, 1) := by decide +kernel
theorem e_C_droppedPins_13 : decode (mB I_C_droppedPins) 13 = .ok (.iaload, 1) := by decide +kernel
theorem e_C_droppedPins_14 : decode (mB I_C_droppedPins) 14 = .ok (.ireturn, 1) := by decide +kernel
theorem e_C_readLength_0 : decode (mB I_C_readLength) 0 = .ok (.aload_n 0, 1) := by decide +kernel
theorem e_C_readLength_1 : decode (mB I_C_readLength) 1 = .ok (.iload_n 1, 1) := by decide +kernel
theorem e_C_readLength_2 : decode (mB I_C_readLength) 2 = .ok (.invokevirtual 163, 3) := by decide +kernel
theorem e_C_readLength_5 : decode (mB I_C_readLength) 5 = .ok (.aload_n 0, 1) := by decide +kernel
theorem e_C_readLength_6 : decode (mB I_C_readLength) 6 = .ok (.getfield 39, 3) := by decide +kernel
theorem e_C_readLength_9 : decode (mB I_C_readLength) 9 = .ok (.iload_n 1, 1) := by decide +kernel
theorem e_C_readLength_10 : decode (mB I_C_readLength) 10 = .ok (.invokevirtual 221, 3) := by decide +kernel
theorem e_C_readLength_13 : decode (mB I_C_readLength) 13 = .ok (.ireturn, 1) := by decide +kernel
theorem e_C_slopeLength_0 : decode (mB I_C_slopeLength) 0 = .ok (.aload_n 0, 1) := by decide +kernel
theorem e_C_slopeLength_1 : decode (mB I_C_slopeLength) 1 = .ok (.iload_n 1, 1) := by decide +kernel
theorem e_C_slopeLength_2 : decode (mB I_C_slopeLength) 2 = .ok (.invokevirtual 163, 3) := by decide +kernel
theorem e_C_slopeLength_5 : decode (mB I_C_slopeLength) 5 = .ok (.aload_n 0, 1) := by decide +kernel
theorem e_C_slopeLength_6 : decode (mB I_C_slopeLength) 6 = .ok (.getfield 39, 3) := by decide +kernel
theorem e_C_slopeLength_9 : decode (mB I_C_slopeLength) 9 = .ok (.iload_n 1, 1) := by decide +kernel
theorem e_C_slopeLength_10 : decode (mB I_C_slopeLength) 10 = .ok (.invokevirtual 224, 3) := by decide +kernel
theorem e_C_slopeLength_13 : decode (mB I_C_slopeLength) 13 = .ok (.ireturn, 1) := by decide +kernel
theorem e_C_horizontalLength_0 : decode (mB I_C_horizontalLength) 0 = .ok (.aload_n 0, 1) := by decide +kernel
theorem e_C_horizontalLength_1 : decode (mB I_C_horizontalLength) 1 = .ok (.iload_n 1, 1) := by decide +kernel
theorem e_C_horizontalLength_2 : decode (mB I_C_horizontalLength) 2 = .ok (.invokevirtual 163, 3) := by decide +kernel
theorem e_C_horizontalLength_5 : decode (mB I_C_horizontalLength) 5 = .ok (.aload_n 0, 1) := by decide +kernel
theorem e_C_horizontalLength_6 : decode (mB I_C_horizontalLength) 6 = .ok (.getfield 39, 3) := by decide +kernel
theorem e_C_horizontalLength_9 : decode (mB I_C_horizontalLength) 9 = .ok (.iload_n 1, 1) := by decide +kernel
theorem e_C_horizontalLength_10 : decode (mB I_C_horizontalLength) 10 = .ok (.invokevirtual 227, 3) := by decide +kernel
theorem e_C_horizontalLength_13 : decode (mB I_C_horizontalLength) 13 = .ok (.ireturn, 1) := by decide +kernel
theorem e_C_eastStep_0 : decode (mB I_C_eastStep) 0 = .ok (.aload_n 0, 1) := by decide +kernel
theorem e_C_eastStep_1 : decode (mB I_C_eastStep) 1 = .ok (.iload_n 1, 1) := by decide +kernel
theorem e_C_eastStep_2 : decode (mB I_C_eastStep) 2 = .ok (.invokevirtual 163, 3) := by decide +kernel
theorem e_C_eastStep_5 : decode (mB I_C_eastStep) 5 = .ok (.aload_n 0, 1) := by decide +kernel
theorem e_C_eastStep_6 : decode (mB I_C_eastStep) 6 = .ok (.getfield 39, 3) := by decide +kernel
theorem e_C_eastStep_9 : decode (mB I_C_eastStep) 9 = .ok (.iload_n 1, 1) := by decide +kernel
theorem e_C_eastStep_10 : decode (mB I_C_eastStep) 10 = .ok (.invokevirtual 227, 3) := by decide +kernel
theorem e_C_eastStep_13 : decode (mB I_C_eastStep) 13 = .ok (.aload_n 0, 1) := by decide +kernel
theorem e_C_eastStep_14 : decode (mB I_C_eastStep) 14 = .ok (.getfield 39, 3) := by decide +kernel
theorem e_C_eastStep_17 : decode (mB I_C_eastStep) 17 = .ok (.getfield 215, 3) := by decide +kernel
theorem e_C_eastStep_20 : decode (mB I_C_eastStep) 20 = .ok (.iload_n 1, 1) := by decide +kernel
theorem e_C_eastStep_21 : decode (mB I_C_eastStep) 21 = .ok (.iaload, 1) := by decide +kernel
theorem e_C_eastStep_22 : decode (mB I_C_eastStep) 22 = .ok (.invokestatic 230, 3) := by decide +kernel
theorem e_C_eastStep_25 : decode (mB I_C_eastStep) 25 = .ok (.invokestatic 233, 3) := by decide +kernel
theorem e_C_eastStep_28 : decode (mB I_C_eastStep) 28 = .ok (.ireturn, 1) := by decide +kernel
theorem e_C_northStep_0 : decode (mB I_C_northStep) 0 = .ok (.aload_n 0, 1) := by decide +kernel
theorem e_C_northStep_1 : decode (mB I_C_northStep) 1 = .ok (.iload_n 1, 1) := by decide +kernel
theorem e_C_northStep_2 : decode (mB I_C_northStep) 2 = .ok (.invokevirtual 163, 3) := by decide +kernel
theorem e_C_northStep_5 : decode (mB I_C_northStep) 5 = .ok (.aload_n 0, 1) := by decide +kernel
theorem e_C_northStep_6 : decode (mB I_C_northStep) 6 = .ok (.getfield 39, 3) := by decide +kernel
theorem e_C_northStep_9 : decode (mB I_C_northStep) 9 = .ok (.iload_n 1, 1) := by decide +kernel
theorem e_C_northStep_10 : decode (mB I_C_northStep) 10 = .ok (.invokevirtual 227, 3) := by decide +kernel
theorem e_C_northStep_13 : decode (mB I_C_northStep) 13 = .ok (.aload_n 0, 1) := by decide +kernel
theorem e_C_northStep_14 : decode (mB I_C_northStep) 14 = .ok (.getfield 39, 3) := by decide +kernel
theorem e_C_northStep_17 : decode (mB I_C_northStep) 17 = .ok (.getfield 215, 3) := by decide +kernel
theorem e_C_northStep_20 : decode (mB I_C_northStep) 20 = .ok (.iload_n 1, 1) := by decide +kernel
theorem e_C_northStep_21 : decode (mB I_C_northStep) 21 = .ok (.iaload, 1) := by decide +kernel
theorem e_C_northStep_22 : decode (mB I_C_northStep) 22 = .ok (.invokestatic 236, 3) := by decide +kernel
theorem e_C_northStep_25 : decode (mB I_C_northStep) 25 = .ok (.invokestatic 233, 3) := by decide +kernel
theorem e_C_northStep_28 : decode (mB I_C_northStep) 28 = .ok (.ireturn, 1) := by decide +kernel
theorem e_C_tallies_0 : decode (mB I_C_tallies) 0 = .ok (.aload_n 0, 1) := by decide +kernel
theorem e_C_tallies_1 : decode (mB I_C_tallies) 1 = .ok (.iload_n 1, 1) := by decide +kernel
theorem e_C_tallies_2 : decode (mB I_C_tallies) 2 = .ok (.invokevirtual 163, 3) := by decide +kernel
theorem e_C_tallies_5 : decode (mB I_C_tallies) 5 = .ok (.aload_n 0, 1) := by decide +kernel
theorem e_C_tallies_6 : decode (mB I_C_tallies) 6 = .ok (.getfield 39, 3) := by decide +kernel
theorem e_C_tallies_9 : decode (mB I_C_tallies) 9 = .ok (.getfield 218, 3) := by decide +kernel
theorem e_C_tallies_12 : decode (mB I_C_tallies) 12 = .ok (.iload_n 1, 1) := by decide +kernel
theorem e_C_tallies_13 : decode (mB I_C_tallies) 13 = .ok (.iaload, 1) := by decide +kernel
theorem e_C_tallies_14 : decode (mB I_C_tallies) 14 = .ok (.aload_n 0, 1) := by decide +kernel
theorem e_C_tallies_15 : decode (mB I_C_tallies) 15 = .ok (.getfield 39, 3) := by decide +kernel
theorem e_C_tallies_18 : decode (mB I_C_tallies) 18 = .ok (.getfield 171, 3) := by decide +kernel
theorem e_C_tallies_21 : decode (mB I_C_tallies) 21 = .ok (.iload_n 1, 1) := by decide +kernel
theorem e_C_tallies_22 : decode (mB I_C_tallies) 22 = .ok (.iaload, 1) := by decide +kernel
theorem e_C_tallies_23 : decode (mB I_C_tallies) 23 = .ok (.iadd, 1) := by decide +kernel
theorem e_C_tallies_24 : decode (mB I_C_tallies) 24 = .ok (.bipush 10, 2) := by decide +kernel
theorem e_C_tallies_26 : decode (mB I_C_tallies) 26 = .ok (.idiv, 1) := by decide +kernel
theorem e_C_tallies_27 : decode (mB I_C_tallies) 27 = .ok (.ireturn, 1) := by decide +kernel
theorem e_C_isBog_0 : decode (mB I_C_isBog) 0 = .ok (.aload_n 0, 1) := by decide +kernel
theorem e_C_isBog_1 : decode (mB I_C_isBog) 1 = .ok (.iload_n 1, 1) := by decide +kernel
theorem e_C_isBog_2 : decode (mB I_C_isBog) 2 = .ok (.invokevirtual 163, 3) := by decide +kernel
theorem e_C_isBog_5 : decode (mB I_C_isBog) 5 = .ok (.aload_n 0, 1) := by decide +kernel
theorem e_C_isBog_6 : decode (mB I_C_isBog) 6 = .ok (.getfield 39, 3) := by decide +kernel
theorem e_C_isBog_9 : decode (mB I_C_isBog) 9 = .ok (.getfield 239, 3) := by decide +kernel
theorem e_C_isBog_12 : decode (mB I_C_isBog) 12 = .ok (.iload_n 1, 1) := by decide +kernel
theorem e_C_isBog_13 : decode (mB I_C_isBog) 13 = .ok (.baload, 1) := by decide +kernel
theorem e_C_isBog_14 : decode (mB I_C_isBog) 14 = .ok (.ireturn, 1) := by decide +kernel
theorem e_C_nameLength_0 : decode (mB I_C_nameLength) 0 = .ok (.iconst 0, 1) := by decide +kernel
theorem e_C_nameLength_1 : decode (mB I_C_nameLength) 1 = .ok (.istore_n 1, 1) := by decide +kernel
theorem e_C_nameLength_2 : decode (mB I_C_nameLength) 2 = .ok (.iload_n 0, 1) := by decide +kernel
theorem e_C_nameLength_3 : decode (mB I_C_nameLength) 3 = .ok (.istore_n 2, 1) := by decide +kernel
theorem e_C_nameLength_4 : decode (mB I_C_nameLength) 4 = .ok (.iload_n 2, 1) := by decide +kernel
theorem e_C_nameLength_5 : decode (mB I_C_nameLength) 5 = .ok (.ifCond .le 13, 3) := by decide +kernel
theorem e_C_nameLength_8 : decode (mB I_C_nameLength) 8 = .ok (.iinc 1 1, 3) := by decide +kernel
theorem e_C_nameLength_11 : decode (mB I_C_nameLength) 11 = .ok (.iload_n 2, 1) := by decide +kernel
theorem e_C_nameLength_12 : decode (mB I_C_nameLength) 12 = .ok (.iconst 5, 1) := by decide +kernel
theorem e_C_nameLength_13 : decode (mB I_C_nameLength) 13 = .ok (.ishr, 1) := by decide +kernel
theorem e_C_nameLength_14 : decode (mB I_C_nameLength) 14 = .ok (.istore_n 2, 1) := by decide +kernel
theorem e_C_nameLength_15 : decode (mB I_C_nameLength) 15 = .ok (.goto (-11), 3) := by decide +kernel
theorem e_C_nameLength_18 : decode (mB I_C_nameLength) 18 = .ok (.iload_n 1, 1) := by decide +kernel
theorem e_C_nameLength_19 : decode (mB I_C_nameLength) 19 = .ok (.ireturn, 1) := by decide +kernel
theorem e_C_nameByte_0 : decode (mB I_C_nameByte) 0 = .ok (.aload_n 0, 1) := by decide +kernel
theorem e_C_nameByte_1 : decode (mB I_C_nameByte) 1 = .ok (.iload_n 1, 1) := by decide +kernel
theorem e_C_nameByte_2 : decode (mB I_C_nameByte) 2 = .ok (.invokevirtual 163, 3) := by decide +kernel
theorem e_C_nameByte_5 : decode (mB I_C_nameByte) 5 = .ok (.aload_n 0, 1) := by decide +kernel
theorem e_C_nameByte_6 : decode (mB I_C_nameByte) 6 = .ok (.getfield 39, 3) := by decide +kernel
theorem e_C_nameByte_9 : decode (mB I_C_nameByte) 9 = .ok (.getfield 242, 3) := by decide +kernel
theorem e_C_nameByte_12 : decode (mB I_C_nameByte) 12 = .ok (.iload_n 1, 1) := by decide +kernel
theorem e_C_nameByte_13 : decode (mB I_C_nameByte) 13 = .ok (.iaload, 1) := by decide +kernel
theorem e_C_nameByte_14 : decode (mB I_C_nameByte) 14 = .ok (.istore_n 3, 1) := by decide +kernel
theorem e_C_nameByte_15 : decode (mB I_C_nameByte) 15 = .ok (.iload_n 3, 1) := by decide +kernel
theorem e_C_nameByte_16 : decode (mB I_C_nameByte) 16 = .ok (.invokestatic 245, 3) := by decide +kernel
theorem e_C_nameByte_19 : decode (mB I_C_nameByte) 19 = .ok (.istore 4, 2) := by decide +kernel
theorem e_C_nameByte_21 : decode (mB I_C_nameByte) 21 = .ok (.iload_n 2, 1) := by decide +kernel
theorem e_C_nameByte_22 : decode (mB I_C_nameByte) 22 = .ok (.iconst 0, 1) := by decide +kernel
theorem e_C_nameByte_23 : decode (mB I_C_nameByte) 23 = .ok (.iload 4, 2) := by decide +kernel
theorem e_C_nameByte_25 : decode (mB I_C_nameByte) 25 = .ok (.iconst 1, 1) := by decide +kernel
theorem e_C_nameByte_26 : decode (mB I_C_nameByte) 26 = .ok (.isub, 1) := by decide +kernel
theorem e_C_nameByte_27 : decode (mB I_C_nameByte) 27 = .ok (.invokestatic 100, 3) := by decide +kernel
theorem e_C_nameByte_30 : decode (mB I_C_nameByte) 30 = .ok (.ifCond .ne 5, 3) := by decide +kernel
theorem e_C_nameByte_33 : decode (mB I_C_nameByte) 33 = .ok (.iconst (-1), 1) := by decide +kernel
theorem e_C_nameByte_34 : decode (mB I_C_nameByte) 34 = .ok (.ireturn, 1) := by decide +kernel
theorem e_C_nameByte_35 : decode (mB I_C_nameByte) 35 = .ok (.iconst 5, 1) := by decide +kernel
theorem e_C_nameByte_36 : decode (mB I_C_nameByte) 36 = .ok (.iload 4, 2) := by decide +kernel
theorem e_C_nameByte_38 : decode (mB I_C_nameByte) 38 = .ok (.iconst 1, 1) := by decide +kernel
theorem e_C_nameByte_39 : decode (mB I_C_nameByte) 39 = .ok (.isub, 1) := by decide +kernel
theorem e_C_nameByte_40 : decode (mB I_C_nameByte) 40 = .ok (.iload_n 2, 1) := by decide +kernel
theorem e_C_nameByte_41 : decode (mB I_C_nameByte) 41 = .ok (.isub, 1) := by decide +kernel
theorem e_C_nameByte_42 : decode (mB I_C_nameByte) 42 = .ok (.imul, 1) := by decide +kernel
theorem e_C_nameByte_43 : decode (mB I_C_nameByte) 43 = .ok (.istore 5, 2) := by decide +kernel
theorem e_C_nameByte_45 : decode (mB I_C_nameByte) 45 = .ok (.bipush 96, 2) := by decide +kernel
theorem e_C_nameByte_47 : decode (mB I_C_nameByte) 47 = .ok (.iload_n 3, 1) := by decide +kernel
theorem e_C_nameByte_48 : decode (mB I_C_nameByte) 48 = .ok (.iload 5, 2) := by decide +kernel
theorem e_C_nameByte_50 : decode (mB I_C_nameByte) 50 = .ok (.ishr, 1) := by decide +kernel
theorem e_C_nameByte_51 : decode (mB I_C_nameByte) 51 = .ok (.bipush 31, 2) := by decide +kernel
theorem e_C_nameByte_53 : decode (mB I_C_nameByte) 53 = .ok (.iand, 1) := by decide +kernel
theorem e_C_nameByte_54 : decode (mB I_C_nameByte) 54 = .ok (.iadd, 1) := by decide +kernel
theorem e_C_nameByte_55 : decode (mB I_C_nameByte) 55 = .ok (.ireturn, 1) := by decide +kernel
theorem e_C_requireStation_0 : decode (mB I_C_requireStation) 0 = .ok (.iload_n 1, 1) := by decide +kernel
theorem e_C_requireStation_1 : decode (mB I_C_requireStation) 1 = .ok (.iconst 0, 1) := by decide +kernel
theorem e_C_requireStation_2 : decode (mB I_C_requireStation) 2 = .ok (.aload_n 0, 1) := by decide +kernel
theorem e_C_requireStation_3 : decode (mB I_C_requireStation) 3 = .ok (.getfield 39, 3) := by decide +kernel
theorem e_C_requireStation_6 : decode (mB I_C_requireStation) 6 = .ok (.getfield 115, 3) := by decide +kernel
theorem e_C_requireStation_9 : decode (mB I_C_requireStation) 9 = .ok (.invokestatic 100, 3) := by decide +kernel
theorem e_C_requireStation_12 : decode (mB I_C_requireStation) 12 = .ok (.ifCond .ne 14, 3) := by decide +kernel
theorem e_C_requireStation_15 : decode (mB I_C_requireStation) 15 = .ok (.new 336, 3) := by decide +kernel
theorem e_C_requireStation_18 : decode (mB I_C_requireStation) 18 = .ok (.dup, 1) := by decide +kernel
theorem e_C_requireStation_19 : decode (mB I_C_requireStation) 19 = .ok (.ldc_w 341, 3) := by decide +kernel
theorem e_C_requireStation_22 : decode (mB I_C_requireStation) 22 = .ok (.invokespecial 340, 3) := by decide +kernel
theorem e_C_requireStation_25 : decode (mB I_C_requireStation) 25 = .ok (.athrow, 1) := by decide +kernel
theorem e_C_requireStation_26 : decode (mB I_C_requireStation) 26 = .ok (.return_, 1) := by decide +kernel
theorem e_C_followed_0 : decode (mB I_C_followed) 0 = .ok (.aload_n 0, 1) := by decide +kernel
theorem e_C_followed_1 : decode (mB I_C_followed) 1 = .ok (.getfield 52, 3) := by decide +kernel
theorem e_C_followed_4 : decode (mB I_C_followed) 4 = .ok (.aload_n 0, 1) := by decide +kernel
theorem e_C_followed_5 : decode (mB I_C_followed) 5 = .ok (.getfield 39, 3) := by decide +kernel
theorem e_C_followed_8 : decode (mB I_C_followed) 8 = .ok (.invokevirtual 301, 3) := by decide +kernel
theorem e_C_followed_11 : decode (mB I_C_followed) 11 = .ok (.aload_n 0, 1) := by decide +kernel
theorem e_C_followed_12 : decode (mB I_C_followed) 12 = .ok (.getfield 52, 3) := by decide +kernel
theorem e_C_followed_15 : decode (mB I_C_followed) 15 = .ok (.areturn, 1) := by decide +kernel
theorem e_C_rawEast_0 : decode (mB I_C_rawEast) 0 = .ok (.aload_n 0, 1) := by decide +kernel
theorem e_C_rawEast_1 : decode (mB I_C_rawEast) 1 = .ok (.iload_n 1, 1) := by decide +kernel
theorem e_C_rawEast_2 : decode (mB I_C_rawEast) 2 = .ok (.invokevirtual 252, 3) := by decide +kernel
theorem e_C_rawEast_5 : decode (mB I_C_rawEast) 5 = .ok (.aload_n 0, 1) := by decide +kernel
theorem e_C_rawEast_6 : decode (mB I_C_rawEast) 6 = .ok (.invokevirtual 255, 3) := by decide +kernel
theorem e_C_rawEast_9 : decode (mB I_C_rawEast) 9 = .ok (.getfield 259, 3) := by decide +kernel
theorem e_C_rawEast_12 : decode (mB I_C_rawEast) 12 = .ok (.iload_n 1, 1) := by decide +kernel
theorem e_C_rawEast_13 : decode (mB I_C_rawEast) 13 = .ok (.iaload, 1) := by decide +kernel
theorem e_C_rawEast_14 : decode (mB I_C_rawEast) 14 = .ok (.ireturn, 1) := by decide +kernel
theorem e_C_rawNorth_0 : decode (mB I_C_rawNorth) 0 = .ok (.aload_n 0, 1) := by decide +kernel
theorem e_C_rawNorth_1 : decode (mB I_C_rawNorth) 1 = .ok (.iload_n 1, 1) := by decide +kernel
theorem e_C_rawNorth_2 : decode (mB I_C_rawNorth) 2 = .ok (.invokevirtual 252, 3) := by decide +kernel
theorem e_C_rawNorth_5 : decode (mB I_C_rawNorth) 5 = .ok (.aload_n 0, 1) := by decide +kernel
theorem e_C_rawNorth_6 : decode (mB I_C_rawNorth) 6 = .ok (.invokevirtual 255, 3) := by decide +kernel
theorem e_C_rawNorth_9 : decode (mB I_C_rawNorth) 9 = .ok (.getfield 262, 3) := by decide +kernel
theorem e_C_rawNorth_12 : decode (mB I_C_rawNorth) 12 = .ok (.iload_n 1, 1) := by decide +kernel
theorem e_C_rawNorth_13 : decode (mB I_C_rawNorth) 13 = .ok (.iaload, 1) := by decide +kernel
theorem e_C_rawNorth_14 : decode (mB I_C_rawNorth) 14 = .ok (.ireturn, 1) := by decide +kernel
theorem e_C_east_0 : decode (mB I_C_east) 0 = .ok (.aload_n 0, 1) := by decide +kernel
theorem e_C_east_1 : decode (mB I_C_east) 1 = .ok (.iload_n 1, 1) := by decide +kernel
theorem e_C_east_2 : decode (mB I_C_east) 2 = .ok (.invokevirtual 252, 3) := by decide +kernel
theorem e_C_east_5 : decode (mB I_C_east) 5 = .ok (.aload_n 0, 1) := by decide +kernel
theorem e_C_east_6 : decode (mB I_C_east) 6 = .ok (.invokevirtual 255, 3) := by decide +kernel
theorem e_C_east_9 : decode (mB I_C_east) 9 = .ok (.getfield 265, 3) := by decide +kernel
theorem e_C_east_12 : decode (mB I_C_east) 12 = .ok (.iload_n 1, 1) := by decide +kernel
theorem e_C_east_13 : decode (mB I_C_east) 13 = .ok (.iaload, 1) := by decide +kernel
theorem e_C_east_14 : decode (mB I_C_east) 14 = .ok (.ireturn, 1) := by decide +kernel
theorem e_C_north_0 : decode (mB I_C_north) 0 = .ok (.aload_n 0, 1) := by decide +kernel
theorem e_C_north_1 : decode (mB I_C_north) 1 = .ok (.iload_n 1, 1) := by decide +kernel
theorem e_C_north_2 : decode (mB I_C_north) 2 = .ok (.invokevirtual 252, 3) := by decide +kernel
theorem e_C_north_5 : decode (mB I_C_north) 5 = .ok (.aload_n 0, 1) := by decide +kernel
theorem e_C_north_6 : decode (mB I_C_north) 6 = .ok (.invokevirtual 255, 3) := by decide +kernel
theorem e_C_north_9 : decode (mB I_C_north) 9 = .ok (.getfield 268, 3) := by decide +kernel
theorem e_C_north_12 : decode (mB I_C_north) 12 = .ok (.iload_n 1, 1) := by decide +kernel
theorem e_C_north_13 : decode (mB I_C_north) 13 = .ok (.iaload, 1) := by decide +kernel
theorem e_C_north_14 : decode (mB I_C_north) 14 = .ok (.ireturn, 1) := by decide +kernel
theorem e_C_run_0 : decode (mB I_C_run) 0 = .ok (.aload_n 0, 1) := by decide +kernel
theorem e_C_run_1 : decode (mB I_C_run) 1 = .ok (.iload_n 1, 1) := by decide +kernel
theorem e_C_run_2 : decode (mB I_C_run) 2 = .ok (.invokevirtual 252, 3) := by decide +kernel
theorem e_C_run_5 : decode (mB I_C_run) 5 = .ok (.aload_n 0, 1) := by decide +kernel
theorem e_C_run_6 : decode (mB I_C_run) 6 = .ok (.invokevirtual 255, 3) := by decide +kernel
theorem e_C_run_9 : decode (mB I_C_run) 9 = .ok (.getfield 271, 3) := by decide +kernel
theorem e_C_run_12 : decode (mB I_C_run) 12 = .ok (.iload_n 1, 1) := by decide +kernel
theorem e_C_run_13 : decode (mB I_C_run) 13 = .ok (.iaload, 1) := by decide +kernel
theorem e_C_run_14 : decode (mB I_C_run) 14 = .ok (.ireturn, 1) := by decide +kernel
theorem e_C_distanceFromStart_0 : decode (mB I_C_distanceFromStart) 0 = .ok (.aload_n 0, 1) := by decide +kernel
theorem e_C_distanceFromStart_1 : decode (mB I_C_distanceFromStart) 1 = .ok (.iload_n 1, 1) := by decide +kernel
theorem e_C_distanceFromStart_2 : decode (mB I_C_distanceFromStart) 2 = .ok (.invokevirtual 252, 3) := by decide +kernel
theorem e_C_distanceFromStart_5 : decode (mB I_C_distanceFromStart) 5 = .ok (.aload_n 0, 1) := by decide +kernel
theorem e_C_distanceFromStart_6 : decode (mB I_C_distanceFromStart) 6 = .ok (.invokevirtual 255, 3) := by decide +kernel
theorem e_C_distanceFromStart_9 : decode (mB I_C_distanceFromStart) 9 = .ok (.iload_n 1, 1) := by decide +kernel
theorem e_C_distanceFromStart_10 : decode (mB I_C_distanceFromStart) 10 = .ok (.invokevirtual 274, 3) := by decide +kernel
theorem e_C_distanceFromStart_13 : decode (mB I_C_distanceFromStart) 13 = .ok (.ireturn, 1) := by decide +kernel
theorem e_C_perimeter_0 : decode (mB I_C_perimeter) 0 = .ok (.aload_n 0, 1) := by decide +kernel
theorem e_C_perimeter_1 : decode (mB I_C_perimeter) 1 = .ok (.invokevirtual 255, 3) := by decide +kernel
theorem e_C_perimeter_4 : decode (mB I_C_perimeter) 4 = .ok (.invokevirtual 277, 3) := by decide +kernel
theorem e_C_perimeter_7 : decode (mB I_C_perimeter) 7 = .ok (.ireturn, 1) := by decide +kernel
theorem e_C_closingEast_0 : decode (mB I_C_closingEast) 0 = .ok (.aload_n 0, 1) := by decide +kernel
theorem e_C_closingEast_1 : decode (mB I_C_closingEast) 1 = .ok (.invokevirtual 255, 3) := by decide +kernel
theorem e_C_closingEast_4 : decode (mB I_C_closingEast) 4 = .ok (.invokevirtual 280, 3) := by decide +kernel
theorem e_C_closingEast_7 : decode (mB I_C_closingEast) 7 = .ok (.ireturn, 1) := by decide +kernel
theorem e_C_closingNorth_0 : decode (mB I_C_closingNorth) 0 = .ok (.aload_n 0, 1) := by decide +kernel
theorem e_C_closingNorth_1 : decode (mB I_C_closingNorth) 1 = .ok (.invokevirtual 255, 3) := by decide +kernel
theorem e_C_closingNorth_4 : decode (mB I_C_closingNorth) 4 = .ok (.invokevirtual 283, 3) := by decide +kernel
theorem e_C_closingNorth_7 : decode (mB I_C_closingNorth) 7 = .ok (.ireturn, 1) := by decide +kernel
theorem e_C_misclosure_0 : decode (mB I_C_misclosure) 0 = .ok (.aload_n 0, 1) := by decide +kernel
theorem e_C_misclosure_1 : decode (mB I_C_misclosure) 1 = .ok (.invokevirtual 255, 3) := by decide +kernel
theorem e_C_misclosure_4 : decode (mB I_C_misclosure) 4 = .ok (.invokevirtual 286, 3) := by decide +kernel
theorem e_C_misclosure_7 : decode (mB I_C_misclosure) 7 = .ok (.ireturn, 1) := by decide +kernel
theorem e_C_precision_0 : decode (mB I_C_precision) 0 = .ok (.aload_n 0, 1) := by decide +kernel
theorem e_C_precision_1 : decode (mB I_C_precision) 1 = .ok (.invokevirtual 255, 3) := by decide +kernel
theorem e_C_precision_4 : decode (mB I_C_precision) 4 = .ok (.astore_n 1, 1) := by decide +kernel
theorem e_C_precision_5 : decode (mB I_C_precision) 5 = .ok (.aload_n 1, 1) := by decide +kernel
theorem e_C_precision_6 : decode (mB I_C_precision) 6 = .ok (.invokevirtual 286, 3) := by decide +kernel
theorem e_C_precision_9 : decode (mB I_C_precision) 9 = .ok (.istore_n 2, 1) := by decide +kernel
theorem e_C_precision_10 : decode (mB I_C_precision) 10 = .ok (.iload_n 2, 1) := by decide +kernel
theorem e_C_precision_11 : decode (mB I_C_precision) 11 = .ok (.ifCond .ne 7, 3) := by decide +kernel
theorem e_C_precision_14 : decode (mB I_C_precision) 14 = .ok (.iconst (-1), 1) := by decide +kernel
theorem e_C_precision_15 : decode (mB I_C_precision) 15 = .ok (.goto 9, 3) := by decide +kernel
theorem e_C_precision_18 : decode (mB I_C_precision) 18 = .ok (.aload_n 1, 1) := by decide +kernel
theorem e_C_precision_19 : decode (mB I_C_precision) 19 = .ok (.invokevirtual 277, 3) := by decide +kernel
theorem e_C_precision_22 : decode (mB I_C_precision) 22 = .ok (.iload_n 2, 1) := by decide +kernel
theorem e_C_precision_23 : decode (mB I_C_precision) 23 = .ok (.idiv, 1) := by decide +kernel
theorem e_C_precision_24 : decode (mB I_C_precision) 24 = .ok (.ireturn, 1) := by decide +kernel
theorem e_C_spread_0 : decode (mB I_C_spread) 0 = .ok (.iconst 0, 1) := by decide +kernel
theorem e_C_spread_1 : decode (mB I_C_spread) 1 = .ok (.istore_n 2, 1) := by decide +kernel
theorem e_C_spread_2 : decode (mB I_C_spread) 2 = .ok (.iconst 0, 1) := by decide +kernel
theorem e_C_spread_3 : decode (mB I_C_spread) 3 = .ok (.istore_n 3, 1) := by decide +kernel
theorem e_C_spread_4 : decode (mB I_C_spread) 4 = .ok (.iconst 0, 1) := by decide +kernel
theorem e_C_spread_5 : decode (mB I_C_spread) 5 = .ok (.istore 4, 2) := by decide +kernel
theorem e_C_spread_7 : decode (mB I_C_spread) 7 = .ok (.iload 4, 2) := by decide +kernel
theorem e_C_spread_9 : decode (mB I_C_spread) 9 = .ok (.iload_n 1, 1) := by decide +kernel
theorem e_C_spread_10 : decode (mB I_C_spread) 10 = .ok (.if_icmp .ge 34, 3) := by decide +kernel
theorem e_C_spread_13 : decode (mB I_C_spread) 13 = .ok (.iload 4, 2) := by decide +kernel
theorem e_C_spread_15 : decode (mB I_C_spread) 15 = .ok (.aload_n 0, 1) := by decide +kernel
theorem e_C_spread_16 : decode (mB I_C_spread) 16 = .ok (.arraylength, 1) := by decide +kernel
theorem e_C_spread_17 : decode (mB I_C_spread) 17 = .ok (.if_icmp .ge 27, 3) := by decide +kernel
theorem e_C_spread_20 : decode (mB I_C_spread) 20 = .ok (.iload_n 2, 1) := by decide +kernel
theorem e_C_spread_21 : decode (mB I_C_spread) 21 = .ok (.aload_n 0, 1) := by decide +kernel
theorem e_C_spread_22 : decode (mB I_C_spread) 22 = .ok (.iload 4, 2) := by decide +kernel
theorem e_C_spread_24 : decode (mB I_C_spread) 24 = .ok (.iaload, 1) := by decide +kernel
theorem e_C_spread_25 : decode (mB I_C_spread) 25 = .ok (.invokestatic 204, 3) := by decide +kernel
theorem e_C_spread_28 : decode (mB I_C_spread) 28 = .ok (.istore_n 2, 1) := by decide +kernel
theorem e_C_spread_29 : decode (mB I_C_spread) 29 = .ok (.iload_n 3, 1) := by decide +kernel
theorem e_C_spread_30 : decode (mB I_C_spread) 30 = .ok (.aload_n 0, 1) := by decide +kernel
theorem e_C_spread_31 : decode (mB I_C_spread) 31 = .ok (.iload 4, 2) := by decide +kernel
theorem e_C_spread_33 : decode (mB I_C_spread) 33 = .ok (.iaload, 1) := by decide +kernel
theorem e_C_spread_34 : decode (mB I_C_spread) 34 = .ok (.invokestatic 358, 3) := by decide +kernel
theorem e_C_spread_37 : decode (mB I_C_spread) 37 = .ok (.istore_n 3, 1) := by decide +kernel
theorem e_C_spread_38 : decode (mB I_C_spread) 38 = .ok (.iinc 4 1, 3) := by decide +kernel
theorem e_C_spread_41 : decode (mB I_C_spread) 41 = .ok (.goto (-34), 3) := by decide +kernel
theorem e_C_spread_44 : decode (mB I_C_spread) 44 = .ok (.iload_n 3, 1) := by decide +kernel
theorem e_C_spread_45 : decode (mB I_C_spread) 45 = .ok (.iload_n 2, 1) := by decide +kernel
theorem e_C_spread_46 : decode (mB I_C_spread) 46 = .ok (.isub, 1) := by decide +kernel
theorem e_C_spread_47 : decode (mB I_C_spread) 47 = .ok (.ireturn, 1) := by decide +kernel
theorem e_C_width_0 : decode (mB I_C_width) 0 = .ok (.aload_n 0, 1) := by decide +kernel
theorem e_C_width_1 : decode (mB I_C_width) 1 = .ok (.invokevirtual 255, 3) := by decide +kernel
theorem e_C_width_4 : decode (mB I_C_width) 4 = .ok (.astore_n 1, 1) := by decide +kernel
theorem e_C_width_5 : decode (mB I_C_width) 5 = .ok (.aload_n 1, 1) := by decide +kernel
theorem e_C_width_6 : decode (mB I_C_width) 6 = .ok (.getfield 265, 3) := by decide +kernel
theorem e_C_width_9 : decode (mB I_C_width) 9 = .ok (.aload_n 1, 1) := by decide +kernel
theorem e_C_width_10 : decode (mB I_C_width) 10 = .ok (.getfield 289, 3) := by decide +kernel
theorem e_C_width_13 : decode (mB I_C_width) 13 = .ok (.iconst 1, 1) := by decide +kernel
theorem e_C_width_14 : decode (mB I_C_width) 14 = .ok (.iadd, 1) := by decide +kernel
theorem e_C_width_15 : decode (mB I_C_width) 15 = .ok (.invokestatic 290, 3) := by decide +kernel
theorem e_C_width_18 : decode (mB I_C_width) 18 = .ok (.ireturn, 1) := by decide +kernel
theorem e_C_height_0 : decode (mB I_C_height) 0 = .ok (.aload_n 0, 1) := by decide +kernel
theorem e_C_height_1 : decode (mB I_C_height) 1 = .ok (.invokevirtual 255, 3) := by decide +kernel
theorem e_C_height_4 : decode (mB I_C_height) 4 = .ok (.astore_n 1, 1) := by decide +kernel
theorem e_C_height_5 : decode (mB I_C_height) 5 = .ok (.aload_n 1, 1) := by decide +kernel
theorem e_C_height_6 : decode (mB I_C_height) 6 = .ok (.getfield 268, 3) := by decide +kernel
theorem e_C_height_9 : decode (mB I_C_height) 9 = .ok (.aload_n 1, 1) := by decide +kernel
theorem e_C_height_10 : decode (mB I_C_height) 10 = .ok (.getfield 289, 3) := by decide +kernel
theorem e_C_height_13 : decode (mB I_C_height) 13 = .ok (.iconst 1, 1) := by decide +kernel
theorem e_C_height_14 : decode (mB I_C_height) 14 = .ok (.iadd, 1) := by decide +kernel
theorem e_C_height_15 : decode (mB I_C_height) 15 = .ok (.invokestatic 290, 3) := by decide +kernel
theorem e_C_height_18 : decode (mB I_C_height) 18 = .ok (.ireturn, 1) := by decide +kernel
theorem e_C_farthestStation_0 : decode (mB I_C_farthestStation) 0 = .ok (.aload_n 0, 1) := by decide +kernel
theorem e_C_farthestStation_1 : decode (mB I_C_farthestStation) 1 = .ok (.invokevirtual 255, 3) := by decide +kernel
theorem e_C_farthestStation_4 : decode (mB I_C_farthestStation) 4 = .ok (.astore_n 1, 1) := by decide +kernel
theorem e_C_farthestStation_5 : decode (mB I_C_farthestStation) 5 = .ok (.iconst 0, 1) := by decide +kernel
theorem e_C_farthestStation_6 : decode (mB I_C_farthestStation) 6 = .ok (.istore_n 2, 1) := by decide +kernel
theorem e_C_farthestStation_7 : decode (mB I_C_farthestStation) 7 = .ok (.iconst 0, 1) := by decide +kernel
theorem e_C_farthestStation_8 : decode (mB I_C_farthestStation) 8 = .ok (.istore_n 3, 1) := by decide +kernel
theorem e_C_farthestStation_9 : decode (mB I_C_farthestStation) 9 = .ok (.iconst 1, 1) := by decide +kernel
theorem e_C_farthestStation_10 : decode (mB I_C_farthestStation) 10 = .ok (.istore 4, 2) := by decide +kernel
theorem e_C_farthestStation_12 : decode (mB I_C_farthestStation) 12 = .ok (.iload 4, 2) := by decide +kernel
theorem e_C_farthestStation_14 : decode (mB I_C_farthestStation) 14 = .ok (.aload_n 1, 1) := by decide +kernel
theorem e_C_farthestStation_15 : decode (mB I_C_farthestStation) 15 = .ok (.getfield 289, 3) := by decide +kernel
theorem e_C_farthestStation_18 : decode (mB I_C_farthestStation) 18 = .ok (.if_icmp .gt 29, 3) := by decide +kernel
theorem e_C_farthestStation_21 : decode (mB I_C_farthestStation) 21 = .ok (.aload_n 1, 1) := by decide +kernel
theorem e_C_farthestStation_22 : decode (mB I_C_farthestStation) 22 = .ok (.iload 4, 2) := by decide +kernel
theorem e_C_farthestStation_24 : decode (mB I_C_farthestStation) 24 = .ok (.invokevirtual 274, 3) := by decide +kernel
theorem e_C_farthestStation_27 : decode (mB I_C_farthestStation) 27 = .ok (.istore 5, 2) := by decide +kernel
theorem e_C_farthestStation_29 : decode (mB I_C_farthestStation) 29 = .ok (.iload 5, 2) := by decide +kernel
theorem e_C_farthestStation_31 : decode (mB I_C_farthestStation) 31 = .ok (.iload_n 3, 1) := by decide +kernel
theorem e_C_farthestStation_32 : decode (mB I_C_farthestStation) 32 = .ok (.if_icmp .le 9, 3) := by decide +kernel
theorem e_C_farthestStation_35 : decode (mB I_C_farthestStation) 35 = .ok (.iload 4, 2) := by decide +kernel
theorem e_C_farthestStation_37 : decode (mB I_C_farthestStation) 37 = .ok (.istore_n 2, 1) := by decide +kernel
theorem e_C_farthestStation_38 : decode (mB I_C_farthestStation) 38 = .ok (.iload 5, 2) := by decide +kernel
theorem e_C_farthestStation_40 : decode (mB I_C_farthestStation) 40 = .ok (.istore_n 3, 1) := by decide +kernel
theorem e_C_farthestStation_41 : decode (mB I_C_farthestStation) 41 = .ok (.iinc 4 1, 3) := by decide +kernel
theorem e_C_farthestStation_44 : decode (mB I_C_farthestStation) 44 = .ok (.goto (-32), 3) := by decide +kernel
theorem e_C_farthestStation_47 : decode (mB I_C_farthestStation) 47 = .ok (.iload_n 2, 1) := by decide +kernel
theorem e_C_farthestStation_48 : decode (mB I_C_farthestStation) 48 = .ok (.ireturn, 1) := by decide +kernel
theorem e_C_longestLeg_0 : decode (mB I_C_longestLeg) 0 = .ok (.iconst (-1), 1) := by decide +kernel
theorem e_C_longestLeg_1 : decode (mB I_C_longestLeg) 1 = .ok (.istore_n 1, 1) := by decide +kernel
theorem e_C_longestLeg_2 : decode (mB I_C_longestLeg) 2 = .ok (.iconst (-1), 1) := by decide +kernel
theorem e_C_longestLeg_3 : decode (mB I_C_longestLeg) 3 = .ok (.istore_n 2, 1) := by decide +kernel
theorem e_C_longestLeg_4 : decode (mB I_C_longestLeg) 4 = .ok (.iconst 0, 1) := by decide +kernel
theorem e_C_longestLeg_5 : decode (mB I_C_longestLeg) 5 = .ok (.istore_n 3, 1) := by decide +kernel
theorem e_C_longestLeg_6 : decode (mB I_C_longestLeg) 6 = .ok (.iload_n 3, 1) := by decide +kernel
theorem e_C_longestLeg_7 : decode (mB I_C_longestLeg) 7 = .ok (.aload_n 0, 1) := by decide +kernel
theorem e_C_longestLeg_8 : decode (mB I_C_longestLeg) 8 = .ok (.getfield 39, 3) := by decide +kernel
theorem e_C_longestLeg_11 : decode (mB I_C_longestLeg) 11 = .ok (.getfield 115, 3) := by decide +kernel
theorem e_C_longestLeg_14 : decode (mB I_C_longestLeg) 14 = .ok (.if_icmp .ge 30, 3) := by decide +kernel
theorem e_C_longestLeg_17 : decode (mB I_C_longestLeg) 17 = .ok (.aload_n 0, 1) := by decide +kernel
theorem e_C_longestLeg_18 : decode (mB I_C_longestLeg) 18 = .ok (.getfield 39, 3) := by decide +kernel
theorem e_C_longestLeg_21 : decode (mB I_C_longestLeg) 21 = .ok (.iload_n 3, 1) := by decide +kernel
theorem e_C_longestLeg_22 : decode (mB I_C_longestLeg) 22 = .ok (.invokevirtual 227, 3) := by decide +kernel
theorem e_C_longestLeg_25 : decode (mB I_C_longestLeg) 25 = .ok (.istore 4, 2) := by decide +kernel
theorem e_C_longestLeg_27 : decode (mB I_C_longestLeg) 27 = .ok (.iload 4, 2) := by decide +kernel
theorem e_C_longestLeg_29 : decode (mB I_C_longestLeg) 29 = .ok (.iload_n 2, 1) := by decide +kernel
theorem e_C_longestLeg_30 : decode (mB I_C_longestLeg) 30 = .ok (.if_icmp .le 8, 3) := by decide +kernel
theorem e_C_longestLeg_33 : decode (mB I_C_longestLeg) 33 = .ok (.iload_n 3, 1) := by decide +kernel
theorem e_C_longestLeg_34 : decode (mB I_C_longestLeg) 34 = .ok (.istore_n 1, 1) := by decide +kernel
theorem e_C_longestLeg_35 : decode (mB I_C_longestLeg) 35 = .ok (.iload 4, 2) := by decide +kernel
theorem e_C_longestLeg_37 : decode (mB I_C_longestLeg) 37 = .ok (.istore_n 2, 1) := by decide +kernel
theorem e_C_longestLeg_38 : decode (mB I_C_longestLeg) 38 = .ok (.iinc 3 1, 3) := by decide +kernel
theorem e_C_longestLeg_41 : decode (mB I_C_longestLeg) 41 = .ok (.goto (-35), 3) := by decide +kernel
theorem e_C_longestLeg_44 : decode (mB I_C_longestLeg) 44 = .ok (.iload_n 1, 1) := by decide +kernel
theorem e_C_longestLeg_45 : decode (mB I_C_longestLeg) 45 = .ok (.ireturn, 1) := by decide +kernel
theorem e_C_bogLength_0 : decode (mB I_C_bogLength) 0 = .ok (.iconst 0, 1) := by decide +kernel
theorem e_C_bogLength_1 : decode (mB I_C_bogLength) 1 = .ok (.istore_n 1, 1) := by decide +kernel
theorem e_C_bogLength_2 : decode (mB I_C_bogLength) 2 = .ok (.iconst 0, 1) := by decide +kernel
theorem e_C_bogLength_3 : decode (mB I_C_bogLength) 3 = .ok (.istore_n 2, 1) := by decide +kernel
theorem e_C_bogLength_4 : decode (mB I_C_bogLength) 4 = .ok (.iload_n 2, 1) := by decide +kernel
theorem e_C_bogLength_5 : decode (mB I_C_bogLength) 5 = .ok (.aload_n 0, 1) := by decide +kernel
theorem e_C_bogLength_6 : decode (mB I_C_bogLength) 6 = .ok (.getfield 39, 3) := by decide +kernel
theorem e_C_bogLength_9 : decode (mB I_C_bogLength) 9 = .ok (.getfield 115, 3) := by decide +kernel
theorem e_C_bogLength_12 : decode (mB I_C_bogLength) 12 = .ok (.if_icmp .ge 32, 3) := by decide +kernel
theorem e_C_bogLength_15 : decode (mB I_C_bogLength) 15 = .ok (.aload_n 0, 1) := by decide +kernel
theorem e_C_bogLength_16 : decode (mB I_C_bogLength) 16 = .ok (.getfield 39, 3) := by decide +kernel
theorem e_C_bogLength_19 : decode (mB I_C_bogLength) 19 = .ok (.getfield 239, 3) := by decide +kernel
theorem e_C_bogLength_22 : decode (mB I_C_bogLength) 22 = .ok (.iload_n 2, 1) := by decide +kernel
theorem e_C_bogLength_23 : decode (mB I_C_bogLength) 23 = .ok (.baload, 1) := by decide +kernel
theorem e_C_bogLength_24 : decode (mB I_C_bogLength) 24 = .ok (.ifCond .eq 14, 3) := by decide +kernel
theorem e_C_bogLength_27 : decode (mB I_C_bogLength) 27 = .ok (.iload_n 1, 1) := by decide +kernel
theorem e_C_bogLength_28 : decode (mB I_C_bogLength) 28 = .ok (.aload_n 0, 1) := by decide +kernel
theorem e_C_bogLength_29 : decode (mB I_C_bogLength) 29 = .ok (.getfield 39, 3) := by decide +kernel
theorem e_C_bogLength_32 : decode (mB I_C_bogLength) 32 = .ok (.iload_n 2, 1) := by decide +kernel
theorem e_C_bogLength_33 : decode (mB I_C_bogLength) 33 = .ok (.invokevirtual 227, 3) := by decide +kernel
theorem e_C_bogLength_36 : decode (mB I_C_bogLength) 36 = .ok (.iadd, 1) := by decide +kernel
theorem e_C_bogLength_37 : decode (mB I_C_bogLength) 37 = .ok (.istore_n 1, 1) := by decide +kernel
theorem e_C_bogLength_38 : decode (mB I_C_bogLength) 38 = .ok (.iinc 2 1, 3) := by decide +kernel
theorem e_C_bogLength_41 : decode (mB I_C_bogLength) 41 = .ok (.goto (-37), 3) := by decide +kernel
theorem e_C_bogLength_44 : decode (mB I_C_bogLength) 44 = .ok (.iload_n 1, 1) := by decide +kernel
theorem e_C_bogLength_45 : decode (mB I_C_bogLength) 45 = .ok (.ireturn, 1) := by decide +kernel
theorem e_C_area_0 : decode (mB I_C_area) 0 = .ok (.aload_n 0, 1) := by decide +kernel
theorem e_C_area_1 : decode (mB I_C_area) 1 = .ok (.invokevirtual 255, 3) := by decide +kernel
theorem e_C_area_4 : decode (mB I_C_area) 4 = .ok (.invokevirtual 294, 3) := by decide +kernel
theorem e_C_area_7 : decode (mB I_C_area) 7 = .ok (.lreturn, 1) := by decide +kernel
theorem e_C_misclosureWithPin_0 : decode (mB I_C_misclosureWithPin) 0 = .ok (.aload_n 0, 1) := by decide +kernel
theorem e_C_misclosureWithPin_1 : decode (mB I_C_misclosureWithPin) 1 = .ok (.getfield 39, 3) := by decide +kernel
theorem e_C_misclosureWithPin_4 : decode (mB I_C_misclosureWithPin) 4 = .ok (.iload_n 1, 1) := by decide +kernel
theorem e_C_misclosureWithPin_5 : decode (mB I_C_misclosureWithPin) 5 = .ok (.invokevirtual 166, 3) := by decide +kernel
theorem e_C_misclosureWithPin_8 : decode (mB I_C_misclosureWithPin) 8 = .ok (.ifCond .ne 5, 3) := by decide +kernel
theorem e_C_misclosureWithPin_11 : decode (mB I_C_misclosureWithPin) 11 = .ok (.iconst (-1), 1) := by decide +kernel
theorem e_C_misclosureWithPin_12 : decode (mB I_C_misclosureWithPin) 12 = .ok (.ireturn, 1) := by decide +kernel
theorem e_C_misclosureWithPin_13 : decode (mB I_C_misclosureWithPin) 13 = .ok (.aload_n 0, 1) := by decide +kernel
theorem e_C_misclosureWithPin_14 : decode (mB I_C_misclosureWithPin) 14 = .ok (.getfield 46, 3) := by decide +kernel
theorem e_C_misclosureWithPin_17 : decode (mB I_C_misclosureWithPin) 17 = .ok (.aload_n 0, 1) := by decide +kernel
theorem e_C_misclosureWithPin_18 : decode (mB I_C_misclosureWithPin) 18 = .ok (.getfield 39, 3) := by decide +kernel
theorem e_C_misclosureWithPin_21 : decode (mB I_C_misclosureWithPin) 21 = .ok (.invokevirtual 90, 3) := by decide +kernel
theorem e_C_misclosureWithPin_24 : decode (mB I_C_misclosureWithPin) 24 = .ok (.aload_n 0, 1) := by decide +kernel
theorem e_C_misclosureWithPin_25 : decode (mB I_C_misclosureWithPin) 25 = .ok (.getfield 46, 3) := by decide +kernel
theorem e_C_misclosureWithPin_28 : decode (mB I_C_misclosureWithPin) 28 = .ok (.getfield 171, 3) := by decide +kernel
theorem e_C_misclosureWithPin_31 : decode (mB I_C_misclosureWithPin) 31 = .ok (.iload_n 1, 1) := by decide +kernel
theorem e_C_misclosureWithPin_32 : decode (mB I_C_misclosureWithPin) 32 = .ok (.dup2, 1) := by decide +kernel
theorem e_C_misclosureWithPin_33 : decode (mB I_C_misclosureWithPin) 33 = .ok (.iaload, 1) := by decide +kernel
theorem e_C_misclosureWithPin_34 : decode (mB I_C_misclosureWithPin) 34 = .ok (.iconst 1, 1) := by decide +kernel
theorem e_C_misclosureWithPin_35 : decode (mB I_C_misclosureWithPin) 35 = .ok (.iadd, 1) := by decide +kernel
theorem e_C_misclosureWithPin_36 : decode (mB I_C_misclosureWithPin) 36 = .ok (.iastore, 1) := by decide +kernel
theorem e_C_misclosureWithPin_37 : decode (mB I_C_misclosureWithPin) 37 = .ok (.aload_n 0, 1) := by decide +kernel
theorem e_C_misclosureWithPin_38 : decode (mB I_C_misclosureWithPin) 38 = .ok (.getfield 52, 3) := by decide +kernel
theorem e_C_misclosureWithPin_41 : decode (mB I_C_misclosureWithPin) 41 = .ok (.aload_n 0, 1) := by decide +kernel
theorem e_C_misclosureWithPin_42 : decode (mB I_C_misclosureWithPin) 42 = .ok (.getfield 46, 3) := by decide +kernel
theorem e_C_misclosureWithPin_45 : decode (mB I_C_misclosureWithPin) 45 = .ok (.invokevirtual 301, 3) := by decide +kernel
theorem e_C_misclosureWithPin_48 : decode (mB I_C_misclosureWithPin) 48 = .ok (.aload_n 0, 1) := by decide +kernel
theorem e_C_misclosureWithPin_49 : decode (mB I_C_misclosureWithPin) 49 = .ok (.getfield 52, 3) := by decide +kernel
theorem e_C_misclosureWithPin_52 : decode (mB I_C_misclosureWithPin) 52 = .ok (.invokevirtual 286, 3) := by decide +kernel
theorem e_C_misclosureWithPin_55 : decode (mB I_C_misclosureWithPin) 55 = .ok (.ireturn, 1) := by decide +kernel
theorem e_C_misclosureIfDropped_0 : decode (mB I_C_misclosureIfDropped) 0 = .ok (.aload_n 0, 1) := by decide +kernel
theorem e_C_misclosureIfDropped_1 : decode (mB I_C_misclosureIfDropped) 1 = .ok (.iload_n 1, 1) := by decide +kernel
theorem e_C_misclosureIfDropped_2 : decode (mB I_C_misclosureIfDropped) 2 = .ok (.invokevirtual 163, 3) := by decide +kernel
theorem e_C_misclosureIfDropped_5 : decode (mB I_C_misclosureIfDropped) 5 = .ok (.aload_n 0, 1) := by decide +kernel
theorem e_C_misclosureIfDropped_6 : decode (mB I_C_misclosureIfDropped) 6 = .ok (.iload_n 1, 1) := by decide +kernel
theorem e_C_misclosureIfDropped_7 : decode (mB I_C_misclosureIfDropped) 7 = .ok (.invokevirtual 298, 3) := by decide +kernel
theorem e_C_misclosureIfDropped_10 : decode (mB I_C_misclosureIfDropped) 10 = .ok (.ireturn, 1) := by decide +kernel
theorem e_C_suspectLeg_0 : decode (mB I_C_suspectLeg) 0 = .ok (.iconst (-1), 1) := by decide +kernel
theorem e_C_suspectLeg_1 : decode (mB I_C_suspectLeg) 1 = .ok (.istore_n 1, 1) := by decide +kernel
theorem e_C_suspectLeg_2 : decode (mB I_C_suspectLeg) 2 = .ok (.aload_n 0, 1) := by decide +kernel
theorem e_C_suspectLeg_3 : decode (mB I_C_suspectLeg) 3 = .ok (.invokevirtual 255, 3) := by decide +kernel
theorem e_C_suspectLeg_6 : decode (mB I_C_suspectLeg) 6 = .ok (.invokevirtual 286, 3) := by decide +kernel
theorem e_C_suspectLeg_9 : decode (mB I_C_suspectLeg) 9 = .ok (.istore_n 2, 1) := by decide +kernel
theorem e_C_suspectLeg_10 : decode (mB I_C_suspectLeg) 10 = .ok (.iconst 0, 1) := by decide +kernel
theorem e_C_suspectLeg_11 : decode (mB I_C_suspectLeg) 11 = .ok (.istore_n 3, 1) := by decide +kernel
theorem e_C_suspectLeg_12 : decode (mB I_C_suspectLeg) 12 = .ok (.iload_n 3, 1) := by decide +kernel
theorem e_C_suspectLeg_13 : decode (mB I_C_suspectLeg) 13 = .ok (.aload_n 0, 1) := by decide +kernel
theorem e_C_suspectLeg_14 : decode (mB I_C_suspectLeg) 14 = .ok (.getfield 39, 3) := by decide +kernel
theorem e_C_suspectLeg_17 : decode (mB I_C_suspectLeg) 17 = .ok (.getfield 115, 3) := by decide +kernel
theorem e_C_suspectLeg_20 : decode (mB I_C_suspectLeg) 20 = .ok (.if_icmp .ge 33, 3) := by decide +kernel
theorem e_C_suspectLeg_23 : decode (mB I_C_suspectLeg) 23 = .ok (.aload_n 0, 1) := by decide +kernel
theorem e_C_suspectLeg_24 : decode (mB I_C_suspectLeg) 24 = .ok (.iload_n 3, 1) := by decide +kernel
theorem e_C_suspectLeg_25 : decode (mB I_C_suspectLeg) 25 = .ok (.invokevirtual 298, 3) := by decide +kernel
theorem e_C_suspectLeg_28 : decode (mB I_C_suspectLeg) 28 = .ok (.istore 4, 2) := by decide +kernel
theorem e_C_suspectLeg_30 : decode (mB I_C_suspectLeg) 30 = .ok (.iload 4, 2) := by decide +kernel
theorem e_C_suspectLeg_32 : decode (mB I_C_suspectLeg) 32 = .ok (.iconst (-1), 1) := by decide +kernel
theorem e_C_suspectLeg_33 : decode (mB I_C_suspectLeg) 33 = .ok (.if_icmp .eq 14, 3) := by decide +kernel
theorem e_C_suspectLeg_36 : decode (mB I_C_suspectLeg) 36 = .ok (.iload 4, 2) := by decide +kernel
theorem e_C_suspectLeg_38 : decode (mB I_C_suspectLeg) 38 = .ok (.iload_n 2, 1) := by decide +kernel
theorem e_C_suspectLeg_39 : decode (mB I_C_suspectLeg) 39 = .ok (.if_icmp .ge 8, 3) := by decide +kernel
theorem e_C_suspectLeg_42 : decode (mB I_C_suspectLeg) 42 = .ok (.iload_n 3, 1) := by decide +kernel
theorem e_C_suspectLeg_43 : decode (mB I_C_suspectLeg) 43 = .ok (.istore_n 1, 1) := by decide +kernel
theorem e_C_suspectLeg_44 : decode (mB I_C_suspectLeg) 44 = .ok (.iload 4, 2) := by decide +kernel
theorem e_C_suspectLeg_46 : decode (mB I_C_suspectLeg) 46 = .ok (.istore_n 2, 1) := by decide +kernel
theorem e_C_suspectLeg_47 : decode (mB I_C_suspectLeg) 47 = .ok (.iinc 3 1, 3) := by decide +kernel
theorem e_C_suspectLeg_50 : decode (mB I_C_suspectLeg) 50 = .ok (.goto (-38), 3) := by decide +kernel
theorem e_C_suspectLeg_53 : decode (mB I_C_suspectLeg) 53 = .ok (.iload_n 1, 1) := by decide +kernel
theorem e_C_suspectLeg_54 : decode (mB I_C_suspectLeg) 54 = .ok (.ireturn, 1) := by decide +kernel
theorem e_C_misclosureWithPace_0 : decode (mB I_C_misclosureWithPace) 0 = .ok (.iload_n 1, 1) := by decide +kernel
theorem e_C_misclosureWithPace_1 : decode (mB I_C_misclosureWithPace) 1 = .ok (.istore 4, 2) := by decide +kernel
theorem e_C_misclosureWithPace_3 : decode (mB I_C_misclosureWithPace) 3 = .ok (.iload_n 2, 1) := by decide +kernel
theorem e_C_misclosureWithPace_4 : decode (mB I_C_misclosureWithPace) 4 = .ok (.istore 5, 2) := by decide +kernel
theorem e_C_misclosureWithPace_6 : decode (mB I_C_misclosureWithPace) 6 = .ok (.iconst 0, 1) := by decide +kernel
theorem e_C_misclosureWithPace_7 : decode (mB I_C_misclosureWithPace) 7 = .ok (.istore 6, 2) := by decide +kernel
theorem e_C_misclosureWithPace_9 : decode (mB I_C_misclosureWithPace) 9 = .ok (.iload 6, 2) := by decide +kernel
theorem e_C_misclosureWithPace_11 : decode (mB I_C_misclosureWithPace) 11 = .ok (.aload_n 0, 1) := by decide +kernel
theorem e_C_misclosureWithPace_12 : decode (mB I_C_misclosureWithPace) 12 = .ok (.getfield 39, 3) := by decide +kernel
theorem e_C_misclosureWithPace_15 : decode (mB I_C_misclosureWithPace) 15 = .ok (.getfield 115, 3) := by decide +kernel
theorem e_C_misclosureWithPace_18 : decode (mB I_C_misclosureWithPace) 18 = .ok (.if_icmp .ge 82, 3) := by decide +kernel
theorem e_C_misclosureWithPace_21 : decode (mB I_C_misclosureWithPace) 21 = .ok (.aload_n 0, 1) := by decide +kernel
theorem e_C_misclosureWithPace_22 : decode (mB I_C_misclosureWithPace) 22 = .ok (.getfield 39, 3) := by decide +kernel
theorem e_C_misclosureWithPace_25 : decode (mB I_C_misclosureWithPace) 25 = .ok (.getfield 239, 3) := by decide +kernel
theorem e_C_misclosureWithPace_28 : decode (mB I_C_misclosureWithPace) 28 = .ok (.iload 6, 2) := by decide +kernel
theorem e_C_misclosureWithPace_30 : decode (mB I_C_misclosureWithPace) 30 = .ok (.baload, 1) := by decide +kernel
theorem e_C_misclosureWithPace_31 : decode (mB I_C_misclosureWithPace) 31 = .ok (.ifCond .eq 63, 3) := by decide +kernel
theorem e_C_misclosureWithPace_34 : decode (mB I_C_misclosureWithPace) 34 = .ok (.aload_n 0, 1) := by decide +kernel
theorem e_C_misclosureWithPace_35 : decode (mB I_C_misclosureWithPace) 35 = .ok (.getfield 39, 3) := by decide +kernel
theorem e_C_misclosureWithPace_38 : decode (mB I_C_misclosureWithPace) 38 = .ok (.getfield 311, 3) := by decide +kernel
theorem e_C_misclosureWithPace_41 : decode (mB I_C_misclosureWithPace) 41 = .ok (.iload 6, 2) := by decide +kernel
theorem e_C_misclosureWithPace_43 : decode (mB I_C_misclosureWithPace) 43 = .ok (.iaload, 1) := by decide +kernel
theorem e_C_misclosureWithPace_44 : decode (mB I_C_misclosureWithPace) 44 = .ok (.iload_n 3, 1) := by decide +kernel
theorem e_C_misclosureWithPace_45 : decode (mB I_C_misclosureWithPace) 45 = .ok (.imul, 1) := by decide +kernel
theorem e_C_misclosureWithPace_46 : decode (mB I_C_misclosureWithPace) 46 = .ok (.istore 7, 2) := by decide +kernel
theorem e_C_misclosureWithPace_48 : decode (mB I_C_misclosureWithPace) 48 = .ok (.iload 4, 2) := by decide +kernel
theorem e_C_misclosureWithPace_50 : decode (mB I_C_misclosureWithPace) 50 = .ok (.iload 7, 2) := by decide +kernel
theorem e_C_misclosureWithPace_52 : decode (mB I_C_misclosureWithPace) 52 = .ok (.aload_n 0, 1) := by decide +kernel
theorem e_C_misclosureWithPace_53 : decode (mB I_C_misclosureWithPace) 53 = .ok (.getfield 39, 3) := by decide +kernel
theorem e_C_misclosureWithPace_56 : decode (mB I_C_misclosureWithPace) 56 = .ok (.getfield 215, 3) := by decide +kernel
theorem e_C_misclosureWithPace_59 : decode (mB I_C_misclosureWithPace) 59 = .ok (.iload 6, 2) := by decide +kernel
theorem e_C_misclosureWithPace_61 : decode (mB I_C_misclosureWithPace) 61 = .ok (.iaload, 1) := by decide +kernel
theorem e_C_misclosureWithPace_62 : decode (mB I_C_misclosureWithPace) 62 = .ok (.invokestatic 230, 3) := by decide +kernel
theorem e_C_misclosureWithPace_65 : decode (mB I_C_misclosureWithPace) 65 = .ok (.invokestatic 233, 3) := by decide +kernel
theorem e_C_misclosureWithPace_68 : decode (mB I_C_misclosureWithPace) 68 = .ok (.iadd, 1) := by decide +kernel
theorem e_C_misclosureWithPace_69 : decode (mB I_C_misclosureWithPace) 69 = .ok (.istore 4, 2) := by decide +kernel
theorem e_C_misclosureWithPace_71 : decode (mB I_C_misclosureWithPace) 71 = .ok (.iload 5, 2) := by decide +kernel
theorem e_C_misclosureWithPace_73 : decode (mB I_C_misclosureWithPace) 73 = .ok (.iload 7, 2) := by decide +kernel
theorem e_C_misclosureWithPace_75 : decode (mB I_C_misclosureWithPace) 75 = .ok (.aload_n 0, 1) := by decide +kernel
theorem e_C_misclosureWithPace_76 : decode (mB I_C_misclosureWithPace) 76 = .ok (.getfield 39, 3) := by decide +kernel
theorem e_C_misclosureWithPace_79 : decode (mB I_C_misclosureWithPace) 79 = .ok (.getfield 215, 3) := by decide +kernel
theorem e_C_misclosureWithPace_82 : decode (mB I_C_misclosureWithPace) 82 = .ok (.iload 6, 2) := by decide +kernel
theorem e_C_misclosureWithPace_84 : decode (mB I_C_misclosureWithPace) 84 = .ok (.iaload, 1) := by decide +kernel
theorem e_C_misclosureWithPace_85 : decode (mB I_C_misclosureWithPace) 85 = .ok (.invokestatic 236, 3) := by decide +kernel
theorem e_C_misclosureWithPace_88 : decode (mB I_C_misclosureWithPace) 88 = .ok (.invokestatic 233, 3) := by decide +kernel
theorem e_C_misclosureWithPace_91 : decode (mB I_C_misclosureWithPace) 91 = .ok (.iadd, 1) := by decide +kernel
theorem e_C_misclosureWithPace_92 : decode (mB I_C_misclosureWithPace) 92 = .ok (.istore 5, 2) := by decide +kernel
theorem e_C_misclosureWithPace_94 : decode (mB I_C_misclosureWithPace) 94 = .ok (.iinc 6 1, 3) := by decide +kernel
theorem e_C_misclosureWithPace_97 : decode (mB I_C_misclosureWithPace) 97 = .ok (.goto (-88), 3) := by decide +kernel
theorem e_C_misclosureWithPace_100 : decode (mB I_C_misclosureWithPace) 100 = .ok (.iload 4, 2) := by decide +kernel
theorem e_C_misclosureWithPace_102 : decode (mB I_C_misclosureWithPace) 102 = .ok (.iload 5, 2) := by decide +kernel
theorem e_C_misclosureWithPace_104 : decode (mB I_C_misclosureWithPace) 104 = .ok (.invokestatic 314, 3) := by decide +kernel
theorem e_C_misclosureWithPace_107 : decode (mB I_C_misclosureWithPace) 107 = .ok (.ireturn, 1) := by decide +kernel
theorem e_C_bestPace_0 : decode (mB I_C_bestPace) 0 = .ok (.aload_n 0, 1) := by decide +kernel
theorem e_C_bestPace_1 : decode (mB I_C_bestPace) 1 = .ok (.getfield 39, 3) := by decide +kernel
theorem e_C_bestPace_4 : decode (mB I_C_bestPace) 4 = .ok (.invokevirtual 304, 3) := by decide +kernel
theorem e_C_bestPace_7 : decode (mB I_C_bestPace) 7 = .ok (.ifCond .ne 5, 3) := by decide +kernel
theorem e_C_bestPace_10 : decode (mB I_C_bestPace) 10 = .ok (.iconst (-1), 1) := by decide +kernel
theorem e_C_bestPace_11 : decode (mB I_C_bestPace) 11 = .ok (.ireturn, 1) := by decide +kernel
theorem e_C_bestPace_12 : decode (mB I_C_bestPace) 12 = .ok (.iconst 0, 1) := by decide +kernel
theorem e_C_bestPace_13 : decode (mB I_C_bestPace) 13 = .ok (.istore_n 1, 1) := by decide +kernel
theorem e_C_bestPace_14 : decode (mB I_C_bestPace) 14 = .ok (.iconst 0, 1) := by decide +kernel
theorem e_C_bestPace_15 : decode (mB I_C_bestPace) 15 = .ok (.istore_n 2, 1) := by decide +kernel
theorem e_C_bestPace_16 : decode (mB I_C_bestPace) 16 = .ok (.iconst 0, 1) := by decide +kernel
theorem e_C_bestPace_17 : decode (mB I_C_bestPace) 17 = .ok (.istore_n 3, 1) := by decide +kernel
theorem e_C_bestPace_18 : decode (mB I_C_bestPace) 18 = .ok (.iload_n 3, 1) := by decide +kernel
theorem e_C_bestPace_19 : decode (mB I_C_bestPace) 19 = .ok (.aload_n 0, 1) := by decide +kernel
theorem e_C_bestPace_20 : decode (mB I_C_bestPace) 20 = .ok (.getfield 39, 3) := by decide +kernel
theorem e_C_bestPace_23 : decode (mB I_C_bestPace) 23 = .ok (.getfield 115, 3) := by decide +kernel
theorem e_C_bestPace_26 : decode (mB I_C_bestPace) 26 = .ok (.if_icmp .ge 71, 3) := by decide +kernel
theorem e_C_bestPace_29 : decode (mB I_C_bestPace) 29 = .ok (.aload_n 0, 1) := by decide +kernel
theorem e_C_bestPace_30 : decode (mB I_C_bestPace) 30 = .ok (.getfield 39, 3) := by decide +kernel
theorem e_C_bestPace_33 : decode (mB I_C_bestPace) 33 = .ok (.getfield 239, 3) := by decide +kernel
theorem e_C_bestPace_36 : decode (mB I_C_bestPace) 36 = .ok (.iload_n 3, 1) := by decide +kernel
theorem e_C_bestPace_37 : decode (mB I_C_bestPace) 37 = .ok (.baload, 1) := by decide +kernel
theorem e_C_bestPace_38 : decode (mB I_C_bestPace) 38 = .ok (.ifCond .ne 53, 3) := by decide +kernel
theorem e_C_bestPace_41 : decode (mB I_C_bestPace) 41 = .ok (.aload_n 0, 1) := by decide +kernel
theorem e_C_bestPace_42 : decode (mB I_C_bestPace) 42 = .ok (.getfield 39, 3) := by decide +kernel
theorem e_C_bestPace_45 : decode (mB I_C_bestPace) 45 = .ok (.iload_n 3, 1) := by decide +kernel
theorem e_C_bestPace_46 : decode (mB I_C_bestPace) 46 = .ok (.invokevirtual 227, 3) := by decide +kernel
theorem e_C_bestPace_49 : decode (mB I_C_bestPace) 49 = .ok (.istore 4, 2) := by decide +kernel
theorem e_C_bestPace_51 : decode (mB I_C_bestPace) 51 = .ok (.iload_n 1, 1) := by decide +kernel
theorem e_C_bestPace_52 : decode (mB I_C_bestPace) 52 = .ok (.iload 4, 2) := by decide +kernel
theorem e_C_bestPace_54 : decode (mB I_C_bestPace) 54 = .ok (.aload_n 0, 1) := by decide +kernel
theorem e_C_bestPace_55 : decode (mB I_C_bestPace) 55 = .ok (.getfield 39, 3) := by decide +kernel
theorem e_C_bestPace_58 : decode (mB I_C_bestPace) 58 = .ok (.getfield 215, 3) := by decide +kernel
theorem e_C_bestPace_61 : decode (mB I_C_bestPace) 61 = .ok (.iload_n 3, 1) := by decide +kernel
theorem e_C_bestPace_62 : decode (mB I_C_bestPace) 62 = .ok (.iaload, 1) := by decide +kernel
theorem e_C_bestPace_63 : decode (mB I_C_bestPace) 63 = .ok (.invokestatic 230, 3) := by decide +kernel
theorem e_C_bestPace_66 : decode (mB I_C_bestPace) 66 = .ok (.invokestatic 233, 3) := by decide +kernel
theorem e_C_bestPace_69 : decode (mB I_C_bestPace) 69 = .ok (.iadd, 1) := by decide +kernel
theorem e_C_bestPace_70 : decode (mB I_C_bestPace) 70 = .ok (.istore_n 1, 1) := by decide +kernel
theorem e_C_bestPace_71 : decode (mB I_C_bestPace) 71 = .ok (.iload_n 2, 1) := by decide +kernel
theorem e_C_bestPace_72 : decode (mB I_C_bestPace) 72 = .ok (.iload 4, 2) := by decide +kernel
theorem e_C_bestPace_74 : decode (mB I_C_bestPace) 74 = .ok (.aload_n 0, 1) := by decide +kernel
theorem e_C_bestPace_75 : decode (mB I_C_bestPace) 75 = .ok (.getfield 39, 3) := by decide +kernel
theorem e_C_bestPace_78 : decode (mB I_C_bestPace) 78 = .ok (.getfield 215, 3) := by decide +kernel
theorem e_C_bestPace_81 : decode (mB I_C_bestPace) 81 = .ok (.iload_n 3, 1) := by decide +kernel
theorem e_C_bestPace_82 : decode (mB I_C_bestPace) 82 = .ok (.iaload, 1) := by decide +kernel
theorem e_C_bestPace_83 : decode (mB I_C_bestPace) 83 = .ok (.invokestatic 236, 3) := by decide +kernel
theorem e_C_bestPace_86 : decode (mB I_C_bestPace) 86 = .ok (.invokestatic 233, 3) := by decide +kernel
theorem e_C_bestPace_89 : decode (mB I_C_bestPace) 89 = .ok (.iadd, 1) := by decide +kernel
theorem e_C_bestPace_90 : decode (mB I_C_bestPace) 90 = .ok (.istore_n 2, 1) := by decide +kernel
theorem e_C_bestPace_91 : decode (mB I_C_bestPace) 91 = .ok (.iinc 3 1, 3) := by decide +kernel
theorem e_C_bestPace_94 : decode (mB I_C_bestPace) 94 = .ok (.goto (-76), 3) := by decide +kernel
theorem e_C_bestPace_97 : decode (mB I_C_bestPace) 97 = .ok (.bipush 100, 2) := by decide +kernel
theorem e_C_bestPace_99 : decode (mB I_C_bestPace) 99 = .ok (.istore_n 3, 1) := by decide +kernel
theorem e_C_bestPace_100 : decode (mB I_C_bestPace) 100 = .ok (.aload_n 0, 1) := by decide +kernel
theorem e_C_bestPace_101 : decode (mB I_C_bestPace) 101 = .ok (.iload_n 1, 1) := by decide +kernel
theorem e_C_bestPace_102 : decode (mB I_C_bestPace) 102 = .ok (.iload_n 2, 1) := by decide +kernel
theorem e_C_bestPace_103 : decode (mB I_C_bestPace) 103 = .ok (.bipush 100, 2) := by decide +kernel
theorem e_C_bestPace_105 : decode (mB I_C_bestPace) 105 = .ok (.invokevirtual 307, 3) := by decide +kernel
theorem e_C_bestPace_108 : decode (mB I_C_bestPace) 108 = .ok (.istore 4, 2) := by decide +kernel
theorem e_C_bestPace_110 : decode (mB I_C_bestPace) 110 = .ok (.bipush 101, 2) := by decide +kernel
theorem e_C_bestPace_112 : decode (mB I_C_bestPace) 112 = .ok (.istore 5, 2) := by decide +kernel
theorem e_C_bestPace_114 : decode (mB I_C_bestPace) 114 = .ok (.iload 5, 2) := by decide +kernel
theorem e_C_bestPace_116 : decode (mB I_C_bestPace) 116 = .ok (.sipush 999, 3) := by decide +kernel
theorem e_C_bestPace_119 : decode (mB I_C_bestPace) 119 = .ok (.if_icmp .gt 33, 3) := by decide +kernel
theorem e_C_bestPace_122 : decode (mB I_C_bestPace) 122 = .ok (.aload_n 0, 1) := by decide +kernel
theorem e_C_bestPace_123 : decode (mB I_C_bestPace) 123 = .ok (.iload_n 1, 1) := by decide +kernel
theorem e_C_bestPace_124 : decode (mB I_C_bestPace) 124 = .ok (.iload_n 2, 1) := by decide +kernel
theorem e_C_bestPace_125 : decode (mB I_C_bestPace) 125 = .ok (.iload 5, 2) := by decide +kernel
theorem e_C_bestPace_127 : decode (mB I_C_bestPace) 127 = .ok (.invokevirtual 307, 3) := by decide +kernel
theorem e_C_bestPace_130 : decode (mB I_C_bestPace) 130 = .ok (.istore 6, 2) := by decide +kernel
theorem e_C_bestPace_132 : decode (mB I_C_bestPace) 132 = .ok (.iload 6, 2) := by decide +kernel
theorem e_C_bestPace_134 : decode (mB I_C_bestPace) 134 = .ok (.iload 4, 2) := by decide +kernel
theorem e_C_bestPace_136 : decode (mB I_C_bestPace) 136 = .ok (.if_icmp .ge 10, 3) := by decide +kernel
theorem e_C_bestPace_139 : decode (mB I_C_bestPace) 139 = .ok (.iload 5, 2) := by decide +kernel
theorem e_C_bestPace_141 : decode (mB I_C_bestPace) 141 = .ok (.istore_n 3, 1) := by decide +kernel
theorem e_C_bestPace_142 : decode (mB I_C_bestPace) 142 = .ok (.iload 6, 2) := by decide +kernel
theorem e_C_bestPace_144 : decode (mB I_C_bestPace) 144 = .ok (.istore 4, 2) := by decide +kernel
theorem e_C_bestPace_146 : decode (mB I_C_bestPace) 146 = .ok (.iinc 5 1, 3) := by decide +kernel
theorem e_C_bestPace_149 : decode (mB I_C_bestPace) 149 = .ok (.goto (-35), 3) := by decide +kernel
theorem e_C_bestPace_152 : decode (mB I_C_bestPace) 152 = .ok (.iload_n 3, 1) := by decide +kernel
theorem e_C_bestPace_153 : decode (mB I_C_bestPace) 153 = .ok (.ireturn, 1) := by decide +kernel
theorem e_C_inconsistencies_0 : decode (mB I_C_inconsistencies) 0 = .ok (.aload_n 0, 1) := by decide +kernel
theorem e_C_inconsistencies_1 : decode (mB I_C_inconsistencies) 1 = .ok (.invokevirtual 255, 3) := by decide +kernel
theorem e_C_inconsistencies_4 : decode (mB I_C_inconsistencies) 4 = .ok (.astore_n 1, 1) := by decide +kernel
theorem e_C_inconsistencies_5 : decode (mB I_C_inconsistencies) 5 = .ok (.iconst 0, 1) := by decide +kernel
theorem e_C_inconsistencies_6 : decode (mB I_C_inconsistencies) 6 = .ok (.istore_n 2, 1) := by decide +kernel
theorem e_C_inconsistencies_7 : decode (mB I_C_inconsistencies) 7 = .ok (.aload_n 0, 1) := by decide +kernel
theorem e_C_inconsistencies_8 : decode (mB I_C_inconsistencies) 8 = .ok (.getfield 39, 3) := by decide +kernel
theorem e_C_inconsistencies_11 : decode (mB I_C_inconsistencies) 11 = .ok (.getfield 192, 3) := by decide +kernel
theorem e_C_inconsistencies_14 : decode (mB I_C_inconsistencies) 14 = .ok (.ifCond .eq 50, 3) := by decide +kernel
theorem e_C_inconsistencies_17 : decode (mB I_C_inconsistencies) 17 = .ok (.aload_n 1, 1) := by decide +kernel
theorem e_C_inconsistencies_18 : decode (mB I_C_inconsistencies) 18 = .ok (.invokevirtual 277, 3) := by decide +kernel
theorem e_C_inconsistencies_21 : decode (mB I_C_inconsistencies) 21 = .ok (.ifCond .le 43, 3) := by decide +kernel
theorem e_C_inconsistencies_24 : decode (mB I_C_inconsistencies) 24 = .ok (.iload_n 2, 1) := by decide +kernel
theorem e_C_inconsistencies_25 : decode (mB I_C_inconsistencies) 25 = .ok (.aload_n 1, 1) := by decide +kernel
theorem e_C_inconsistencies_26 : decode (mB I_C_inconsistencies) 26 = .ok (.getfield 265, 3) := by decide +kernel
theorem e_C_inconsistencies_29 : decode (mB I_C_inconsistencies) 29 = .ok (.aload_n 1, 1) := by decide +kernel
theorem e_C_inconsistencies_30 : decode (mB I_C_inconsistencies) 30 = .ok (.getfield 289, 3) := by decide +kernel
theorem e_C_inconsistencies_33 : decode (mB I_C_inconsistencies) 33 = .ok (.iaload, 1) := by decide +kernel
theorem e_C_inconsistencies_34 : decode (mB I_C_inconsistencies) 34 = .ok (.ifCond .ne 7, 3) := by decide +kernel
theorem e_C_inconsistencies_37 : decode (mB I_C_inconsistencies) 37 = .ok (.iconst 0, 1) := by decide +kernel
theorem e_C_inconsistencies_38 : decode (mB I_C_inconsistencies) 38 = .ok (.goto 4, 3) := by decide +kernel
theorem e_C_inconsistencies_41 : decode (mB I_C_inconsistencies) 41 = .ok (.iconst 1, 1) := by decide +kernel
theorem e_C_inconsistencies_42 : decode (mB I_C_inconsistencies) 42 = .ok (.iadd, 1) := by decide +kernel
theorem e_C_inconsistencies_43 : decode (mB I_C_inconsistencies) 43 = .ok (.istore_n 2, 1) := by decide +kernel
theorem e_C_inconsistencies_44 : decode (mB I_C_inconsistencies) 44 = .ok (.iload_n 2, 1) := by decide +kernel
theorem e_C_inconsistencies_45 : decode (mB I_C_inconsistencies) 45 = .ok (.aload_n 1, 1) := by decide +kernel
theorem e_C_inconsistencies_46 : decode (mB I_C_inconsistencies) 46 = .ok (.getfield 268, 3) := by decide +kernel
theorem e_C_inconsistencies_49 : decode (mB I_C_inconsistencies) 49 = .ok (.aload_n 1, 1) := by decide +kernel
theorem e_C_inconsistencies_50 : decode (mB I_C_inconsistencies) 50 = .ok (.getfield 289, 3) := by decide +kernel
theorem e_C_inconsistencies_53 : decode (mB I_C_inconsistencies) 53 = .ok (.iaload, 1) := by decide +kernel
theorem e_C_inconsistencies_54 : decode (mB I_C_inconsistencies) 54 = .ok (.ifCond .ne 7, 3) := by decide +kernel
theorem e_C_inconsistencies_57 : decode (mB I_C_inconsistencies) 57 = .ok (.iconst 0, 1) := by decide +kernel
theorem e_C_inconsistencies_58 : decode (mB I_C_inconsistencies) 58 = .ok (.goto 4, 3) := by decide +kernel
theorem e_C_inconsistencies_61 : decode (mB I_C_inconsistencies) 61 = .ok (.iconst 1, 1) := by decide +kernel
theorem e_C_inconsistencies_62 : decode (mB I_C_inconsistencies) 62 = .ok (.iadd, 1) := by decide +kernel
theorem e_C_inconsistencies_63 : decode (mB I_C_inconsistencies) 63 = .ok (.istore_n 2, 1) := by decide +kernel
theorem e_C_inconsistencies_64 : decode (mB I_C_inconsistencies) 64 = .ok (.iconst 0, 1) := by decide +kernel
theorem e_C_inconsistencies_65 : decode (mB I_C_inconsistencies) 65 = .ok (.istore_n 3, 1) := by decide +kernel
theorem e_C_inconsistencies_66 : decode (mB I_C_inconsistencies) 66 = .ok (.iload_n 3, 1) := by decide +kernel
theorem e_C_inconsistencies_67 : decode (mB I_C_inconsistencies) 67 = .ok (.aload_n 0, 1) := by decide +kernel
theorem e_C_inconsistencies_68 : decode (mB I_C_inconsistencies) 68 = .ok (.getfield 39, 3) := by decide +kernel
theorem e_C_inconsistencies_71 : decode (mB I_C_inconsistencies) 71 = .ok (.getfield 115, 3) := by decide +kernel
theorem e_C_inconsistencies_74 : decode (mB I_C_inconsistencies) 74 = .ok (.if_icmp .ge 31, 3) := by decide +kernel
theorem e_C_inconsistencies_77 : decode (mB I_C_inconsistencies) 77 = .ok (.aload_n 0, 1) := by decide +kernel
theorem e_C_inconsistencies_78 : decode (mB I_C_inconsistencies) 78 = .ok (.getfield 39, 3) := by decide +kernel
theorem e_C_inconsistencies_81 : decode (mB I_C_inconsistencies) 81 = .ok (.iload_n 3, 1) := by decide +kernel
theorem e_C_inconsistencies_82 : decode (mB I_C_inconsistencies) 82 = .ok (.invokevirtual 227, 3) := by decide +kernel
theorem e_C_inconsistencies_85 : decode (mB I_C_inconsistencies) 85 = .ok (.aload_n 0, 1) := by decide +kernel
theorem e_C_inconsistencies_86 : decode (mB I_C_inconsistencies) 86 = .ok (.getfield 39, 3) := by decide +kernel
theorem e_C_inconsistencies_89 : decode (mB I_C_inconsistencies) 89 = .ok (.iload_n 3, 1) := by decide +kernel
theorem e_C_inconsistencies_90 : decode (mB I_C_inconsistencies) 90 = .ok (.invokevirtual 224, 3) := by decide +kernel
theorem e_C_inconsistencies_93 : decode (mB I_C_inconsistencies) 93 = .ok (.if_icmp .le 6, 3) := by decide +kernel
theorem e_C_inconsistencies_96 : decode (mB I_C_inconsistencies) 96 = .ok (.iinc 2 1, 3) := by decide +kernel
theorem e_C_inconsistencies_99 : decode (mB I_C_inconsistencies) 99 = .ok (.iinc 3 1, 3) := by decide +kernel
theorem e_C_inconsistencies_102 : decode (mB I_C_inconsistencies) 102 = .ok (.goto (-36), 3) := by decide +kernel
theorem e_C_inconsistencies_105 : decode (mB I_C_inconsistencies) 105 = .ok (.iload_n 2, 1) := by decide +kernel
theorem e_C_inconsistencies_106 : decode (mB I_C_inconsistencies) 106 = .ok (.ireturn, 1) := by decide +kernel
