/-! decoded instructions -/
theorem e_Q_floorMod_0 : decode (mB I_Q_floorMod) 0 = .ok (.iload_n 0, 1) := by decide +kernel
theorem e_Q_floorMod_1 : decode (mB I_Q_floorMod) 1 = .ok (.iload_n 1, 1) := by decide +kernel
theorem e_Q_floorMod_2 : decode (mB I_Q_floorMod) 2 = .ok (.irem, 1) := by decide +kernel
theorem e_Q_floorMod_3 : decode (mB I_Q_floorMod) 3 = .ok (.istore_n 2, 1) := by decide +kernel
theorem e_Q_floorMod_4 : decode (mB I_Q_floorMod) 4 = .ok (.iload_n 0, 1) := by decide +kernel
theorem e_Q_floorMod_5 : decode (mB I_Q_floorMod) 5 = .ok (.iload_n 1, 1) := by decide +kernel
theorem e_Q_floorMod_6 : decode (mB I_Q_floorMod) 6 = .ok (.ixor, 1) := by decide +kernel
theorem e_Q_floorMod_7 : decode (mB I_Q_floorMod) 7 = .ok (.ifCond .ge 11, 3) := by decide +kernel
theorem e_Q_floorMod_10 : decode (mB I_Q_floorMod) 10 = .ok (.iload_n 2, 1) := by decide +kernel
theorem e_Q_floorMod_11 : decode (mB I_Q_floorMod) 11 = .ok (.ifCond .eq 7, 3) := by decide +kernel
theorem e_Q_floorMod_14 : decode (mB I_Q_floorMod) 14 = .ok (.iload_n 2, 1) := by decide +kernel
theorem e_Q_floorMod_15 : decode (mB I_Q_floorMod) 15 = .ok (.iload_n 1, 1) := by decide +kernel
theorem e_Q_floorMod_16 : decode (mB I_Q_floorMod) 16 = .ok (.iadd, 1) := by decide +kernel
theorem e_Q_floorMod_17 : decode (mB I_Q_floorMod) 17 = .ok (.ireturn, 1) := by decide +kernel
theorem e_Q_floorMod_18 : decode (mB I_Q_floorMod) 18 = .ok (.iload_n 2, 1) := by decide +kernel
theorem e_Q_floorMod_19 : decode (mB I_Q_floorMod) 19 = .ok (.ireturn, 1) := by decide +kernel
