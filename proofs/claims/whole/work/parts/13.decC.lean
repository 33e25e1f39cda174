/-! decoded instructions -/
theorem e_C_root_0 : decode (mB I_C_root) 0 = .ok (.iconst 0, 1) := by decide +kernel
theorem e_C_root_1 : decode (mB I_C_root) 1 = .ok (.istore_n 2, 1) := by decide +kernel
theorem e_C_root_2 : decode (mB I_C_root) 2 = .ok (.ldc_w 357, 3) := by decide +kernel
theorem e_C_root_5 : decode (mB I_C_root) 5 = .ok (.istore_n 3, 1) := by decide +kernel
theorem e_C_root_6 : decode (mB I_C_root) 6 = .ok (.iload_n 3, 1) := by decide +kernel
theorem e_C_root_7 : decode (mB I_C_root) 7 = .ok (.ifCond .le 30, 3) := by decide +kernel
theorem e_C_root_10 : decode (mB I_C_root) 10 = .ok (.iload_n 2, 1) := by decide +kernel
theorem e_C_root_11 : decode (mB I_C_root) 11 = .ok (.iload_n 3, 1) := by decide +kernel
theorem e_C_root_12 : decode (mB I_C_root) 12 = .ok (.ior, 1) := by decide +kernel
theorem e_C_root_13 : decode (mB I_C_root) 13 = .ok (.i2l, 1) := by decide +kernel
theorem e_C_root_14 : decode (mB I_C_root) 14 = .ok (.lstore 4, 2) := by decide +kernel
theorem e_C_root_16 : decode (mB I_C_root) 16 = .ok (.lload 4, 2) := by decide +kernel
theorem e_C_root_18 : decode (mB I_C_root) 18 = .ok (.lload 4, 2) := by decide +kernel
theorem e_C_root_20 : decode (mB I_C_root) 20 = .ok (.lmul, 1) := by decide +kernel
theorem e_C_root_21 : decode (mB I_C_root) 21 = .ok (.lload_n 0, 1) := by decide +kernel
theorem e_C_root_22 : decode (mB I_C_root) 22 = .ok (.lcmp, 1) := by decide +kernel
theorem e_C_root_23 : decode (mB I_C_root) 23 = .ok (.ifCond .gt 7, 3) := by decide +kernel
theorem e_C_root_26 : decode (mB I_C_root) 26 = .ok (.iload_n 2, 1) := by decide +kernel
theorem e_C_root_27 : decode (mB I_C_root) 27 = .ok (.iload_n 3, 1) := by decide +kernel
theorem e_C_root_28 : decode (mB I_C_root) 28 = .ok (.ior, 1) := by decide +kernel
theorem e_C_root_29 : decode (mB I_C_root) 29 = .ok (.istore_n 2, 1) := by decide +kernel
theorem e_C_root_30 : decode (mB I_C_root) 30 = .ok (.iload_n 3, 1) := by decide +kernel
theorem e_C_root_31 : decode (mB I_C_root) 31 = .ok (.iconst 1, 1) := by decide +kernel
theorem e_C_root_32 : decode (mB I_C_root) 32 = .ok (.ishr, 1) := by decide +kernel
theorem e_C_root_33 : decode (mB I_C_root) 33 = .ok (.istore_n 3, 1) := by decide +kernel
theorem e_C_root_34 : decode (mB I_C_root) 34 = .ok (.goto (-28), 3) := by decide +kernel
theorem e_C_root_37 : decode (mB I_C_root) 37 = .ok (.iload_n 2, 1) := by decide +kernel
theorem e_C_root_38 : decode (mB I_C_root) 38 = .ok (.ireturn, 1) := by decide +kernel
