/-! words -/
theorem rm_M_lays_U_length : RMok I_U_length I_M_lays 0 0 := ⟨⟨by decide, by decide⟩, by decide, by decide⟩
theorem md_M_load : MDv I_M_load 0 := ⟨tb_in (i := 1128) (by decide +kernel) (by decide +kernel), tb_in (i := 1129) (by decide +kernel) (by decide +kernel), rfl, ⟨tb_in (i := 91) (by decide +kernel) (by decide +kernel), tb_in (i := 1130) (by decide +kernel) (by decide +kernel), ⟨by decide, by decide, by decide +kernel⟩⟩⟩
theorem ml_M_73 : Cond.methodLink RX5 73 yX5_load ∈ TB := tb_in (i := 1127) (by decide +kernel) (by decide +kernel)
theorem rm_M_lays_M_load : RMok I_M_load I_M_lays 0 0 := ⟨⟨by decide, by decide⟩, by decide, by decide⟩
theorem rc_M_load : RC 5 I_M_load := ⟨by decide, _, _, rfl⟩
theorem rm_M_lays_U_charAt : RMok I_U_charAt I_M_lays 0 0 := ⟨⟨by decide, by decide⟩, by decide, by decide⟩
theorem ml_S_3 : Cond.methodLink RX2 3 (⟨"java/lang/Object", "<init>", "()V"⟩ : MethodName) ∈ TB := tb_in (i := 150) (by decide +kernel) (by decide +kernel)
theorem oi_i : Cond.instanceMethod Lib.objectInit ∈ TB := tb_in (i := 105) (by decide +kernel) (by decide +kernel)
theorem oi_c : Cond.code Lib.objectInit ⟨#[0xb1]⟩ 1 none ∈ TB := tb_in (i := 106) (by decide +kernel) (by decide +kernel)
theorem ol_S_3 : Cond.methodLink RX2 3 Lib.objectInit ∈ TB := tb_in (i := 150) (by decide +kernel) (by decide +kernel)
theorem ac_int : Cond.arrayClass .int ∈ TB := tb_in (i := 209) (by decide +kernel) (by decide +kernel)
theorem ff_S_9 : FF RX2 9 2 0 (.array .int) := ⟨_, _, _, _, ck_2, by decide, tb_in (i := 151) (by decide +kernel) (by decide +kernel), rfl, by decide +kernel, rfl⟩
theorem ff_S_15 : FF RX2 15 2 1 (.array .int) := ⟨_, _, _, _, ck_2, by decide, tb_in (i := 153) (by decide +kernel) (by decide +kernel), rfl, by decide +kernel, rfl⟩
theorem ac_boolean : Cond.arrayClass .boolean ∈ TB := tb_in (i := 210) (by decide +kernel) (by decide +kernel)
theorem ff_S_18 : FF RX2 18 2 2 (.array .boolean) := ⟨_, _, _, _, ck_2, by decide, tb_in (i := 156) (by decide +kernel) (by decide +kernel), rfl, by decide +kernel, rfl⟩
theorem ff_S_22 : FF RX2 22 2 3 (.array .int) := ⟨_, _, _, _, ck_2, by decide, tb_in (i := 158) (by decide +kernel) (by decide +kernel), rfl, by decide +kernel, rfl⟩
theorem ff_S_25 : FF RX2 25 2 4 (.array .int) := ⟨_, _, _, _, ck_2, by decide, tb_in (i := 160) (by decide +kernel) (by decide +kernel), rfl, by decide +kernel, rfl⟩
theorem ff_S_28 : FF RX2 28 2 5 (.array .int) := ⟨_, _, _, _, ck_2, by decide, tb_in (i := 162) (by decide +kernel) (by decide +kernel), rfl, by decide +kernel, rfl⟩
theorem ff_S_31 : FF RX2 31 2 6 (.array .int) := ⟨_, _, _, _, ck_2, by decide, tb_in (i := 163) (by decide +kernel) (by decide +kernel), rfl, by decide +kernel, rfl⟩
theorem ff_S_34 : FF RX2 34 2 7 (.array .int) := ⟨_, _, _, _, ck_2, by decide, tb_in (i := 166) (by decide +kernel) (by decide +kernel), rfl, by decide +kernel, rfl⟩
theorem ff_S_37 : FF RX2 37 2 8 (.array .int) := ⟨_, _, _, _, ck_2, by decide, tb_in (i := 167) (by decide +kernel) (by decide +kernel), rfl, by decide +kernel, rfl⟩
theorem ml_L_3 : Cond.methodLink RX1 3 (⟨"java/lang/Object", "<init>", "()V"⟩ : MethodName) ∈ TB := tb_in (i := 118) (by decide +kernel) (by decide +kernel)
theorem ol_L_3 : Cond.methodLink RX1 3 Lib.objectInit ∈ TB := tb_in (i := 118) (by decide +kernel) (by decide +kernel)
theorem ac_byte : Cond.arrayClass .byte ∈ TB := tb_in (i := 144) (by decide +kernel) (by decide +kernel)
theorem ff_L_9 : FF RX1 9 1 0 (.array .byte) := ⟨_, _, _, _, ck_1, by decide, tb_in (i := 119) (by decide +kernel) (by decide +kernel), rfl, by decide +kernel, rfl⟩
theorem ml_T_3 : Cond.methodLink RX3 3 (⟨"java/lang/Object", "<init>", "()V"⟩ : MethodName) ∈ TB := tb_in (i := 239) (by decide +kernel) (by decide +kernel)
theorem ol_T_3 : Cond.methodLink RX3 3 Lib.objectInit ∈ TB := tb_in (i := 239) (by decide +kernel) (by decide +kernel)
theorem bp_21 : (Int8.ofInt 21).toInt32 = 21 := by decide
theorem ff_T_9 : FF RX3 9 3 0 (.array .int) := ⟨_, _, _, _, ck_3, by decide, tb_in (i := 240) (by decide +kernel) (by decide +kernel), rfl, by decide +kernel, rfl⟩
theorem ff_T_15 : FF RX3 15 3 1 (.array .int) := ⟨_, _, _, _, ck_3, by decide, tb_in (i := 242) (by decide +kernel) (by decide +kernel), rfl, by decide +kernel, rfl⟩
theorem ff_T_18 : FF RX3 18 3 2 (.array .int) := ⟨_, _, _, _, ck_3, by decide, tb_in (i := 244) (by decide +kernel) (by decide +kernel), rfl, by decide +kernel, rfl⟩
theorem ff_T_21 : FF RX3 21 3 3 (.array .int) := ⟨_, _, _, _, ck_3, by decide, tb_in (i := 246) (by decide +kernel) (by decide +kernel), rfl, by decide +kernel, rfl⟩
theorem ff_T_24 : FF RX3 24 3 4 (.array .int) := ⟨_, _, _, _, ck_3, by decide, tb_in (i := 248) (by decide +kernel) (by decide +kernel), rfl, by decide +kernel, rfl⟩
theorem ml_I_3 : Cond.methodLink RX0 3 (⟨"java/lang/Object", "<init>", "()V"⟩ : MethodName) ∈ TB := tb_in (i := 112) (by decide +kernel) (by decide +kernel)
theorem ol_I_3 : Cond.methodLink RX0 3 Lib.objectInit ∈ TB := tb_in (i := 112) (by decide +kernel) (by decide +kernel)
theorem cl_I_9 : Cond.classLink RX0 9 RX1 ∈ TB := tb_in (i := 113) (by decide +kernel) (by decide +kernel)
theorem is_1 : Cond.instantiable RX1 6 ∈ TB := tb_in (i := 114) (by decide +kernel) (by decide +kernel)
theorem ic_X1 : Cond.initialized RX1 ∈ TB := tb_in (i := 83) (by decide +kernel) (by decide +kernel)
theorem hd_1_2 : ∀ j, j < 6 → defaultValue (tyX1 j) = if tg 2 j = 0 then .int 0 else .null := by decide +kernel
theorem md_L_init : MDi I_L_init 0 := ⟨tb_in (i := 116) (by decide +kernel) (by decide +kernel), rfl, rfl, rfl, ⟨tb_in (i := 83) (by decide +kernel) (by decide +kernel), tb_in (i := 117) (by decide +kernel) (by decide +kernel), ⟨by decide, by decide, by decide +kernel⟩⟩⟩
theorem mn_I_11 : Cond.methodLinkNest RX0 11 yX1_init "ChainSurvey" ∈ lw_tbl := List.mem_of_getElem? (i := 115) (by decide +kernel)
theorem rm_I_init_L_init_1_6 : RMok I_L_init I_I_init 1 6 := ⟨⟨by decide, by decide⟩, by decide, by decide⟩
theorem ff_I_12 : FF RX0 12 0 0 (.object "ChainSurvey$Lexer") := ⟨_, _, _, _, ck_0, by decide, tb_in (i := 211) (by decide +kernel) (by decide +kernel), rfl, by decide +kernel, rfl⟩
theorem cl_I_18 : Cond.classLink RX0 18 RX2 ∈ TB := tb_in (i := 145) (by decide +kernel) (by decide +kernel)
theorem is_2 : Cond.instantiable RX2 13 ∈ TB := tb_in (i := 146) (by decide +kernel) (by decide +kernel)
theorem ic_X2 : Cond.initialized RX2 ∈ TB := tb_in (i := 84) (by decide +kernel) (by decide +kernel)
theorem hd_2_4 : ∀ j, j < 13 → defaultValue (tyX2 j) = if tg 4 j = 0 then .int 0 else .null := by decide +kernel
theorem md_S_init : MDi I_S_init 0 := ⟨tb_in (i := 148) (by decide +kernel) (by decide +kernel), rfl, rfl, rfl, ⟨tb_in (i := 84) (by decide +kernel) (by decide +kernel), tb_in (i := 149) (by decide +kernel) (by decide +kernel), ⟨by decide, by decide, by decide +kernel⟩⟩⟩
theorem mn_I_20 : Cond.methodLinkNest RX0 20 yX2_init "ChainSurvey" ∈ lw_tbl := List.mem_of_getElem? (i := 147) (by decide +kernel)
theorem rm_I_init_S_init_3_919 : RMok I_S_init I_I_init 3 919 := ⟨⟨by decide, by decide⟩, by decide, by decide⟩
theorem ff_I_21 : FF RX0 21 0 1 (.object "ChainSurvey$Survey") := ⟨_, _, _, _, ck_0, by decide, tb_in (i := 213) (by decide +kernel) (by decide +kernel), rfl, by decide +kernel, rfl⟩
theorem ml_C_1 : Cond.methodLink RX4 1 (⟨"java/lang/Object", "<init>", "()V"⟩ : MethodName) ∈ TB := tb_in (i := 104) (by decide +kernel) (by decide +kernel)
theorem ol_C_1 : Cond.methodLink RX4 1 Lib.objectInit ∈ TB := tb_in (i := 104) (by decide +kernel) (by decide +kernel)
theorem cl_C_7 : Cond.classLink RX4 7 RX0 ∈ TB := tb_in (i := 107) (by decide +kernel) (by decide +kernel)
theorem is_0 : Cond.instantiable RX0 5 ∈ TB := tb_in (i := 108) (by decide +kernel) (by decide +kernel)
theorem ic_X0 : Cond.initialized RX0 ∈ TB := tb_in (i := 82) (by decide +kernel) (by decide +kernel)
theorem hd_0_1 : ∀ j, j < 5 → defaultValue (tyX0 j) = if tg 1 j = 0 then .int 0 else .null := by decide +kernel
theorem md_I_init : MDi I_I_init 0 := ⟨tb_in (i := 110) (by decide +kernel) (by decide +kernel), rfl, rfl, rfl, ⟨tb_in (i := 82) (by decide +kernel) (by decide +kernel), tb_in (i := 111) (by decide +kernel) (by decide +kernel), ⟨by decide, by decide, by decide +kernel⟩⟩⟩
theorem mn_C_9 : Cond.methodLinkNest RX4 9 yX0_init "ChainSurvey" ∈ lw_tbl := List.mem_of_getElem? (i := 109) (by decide +kernel)
theorem rm_C_init_I_init_1_5 : RMok I_I_init I_C_init 1 5 := ⟨⟨by decide, by decide⟩, by decide, by decide⟩
theorem ff_C_10 : FF RX4 10 4 0 (.object "ChainSurvey$Interpreter") := ⟨_, _, _, _, ck_4, by decide, tb_in (i := 468) (by decide +kernel) (by decide +kernel), rfl, by decide +kernel, rfl⟩
theorem fl_C_16 : FL RX4 16 0 0 := ⟨_, _, _, _, ck_0, by decide, tb_in (i := 212) (by decide +kernel) (by decide +kernel)⟩
theorem fl_C_20 : FL RX4 20 1 0 := ⟨_, _, _, _, ck_1, by decide, tb_in (i := 120) (by decide +kernel) (by decide +kernel)⟩
theorem ff_C_26 : FF RX4 26 4 1 (.array .byte) := ⟨_, _, _, _, ck_4, by decide, tb_in (i := 469) (by decide +kernel) (by decide +kernel), rfl, by decide +kernel, rfl⟩
theorem ff_C_33 : FF RX4 33 4 5 (.array .byte) := ⟨_, _, _, _, ck_4, by decide, tb_in (i := 473) (by decide +kernel) (by decide +kernel), rfl, by decide +kernel, rfl⟩
theorem cl_C_36 : Cond.classLink RX4 36 RX2 ∈ TB := tb_in (i := 232) (by decide +kernel) (by decide +kernel)
theorem hd_2_15 : ∀ j, j < 13 → defaultValue (tyX2 j) = if tg 15 j = 0 then .int 0 else .null := by decide +kernel
theorem mn_C_38 : Cond.methodLinkNest RX4 38 yX2_init "ChainSurvey" ∈ lw_tbl := List.mem_of_getElem? (i := 233) (by decide +kernel)
theorem rm_C_init_S_init_15_1629 : RMok I_S_init I_C_init 15 1629 := ⟨⟨by decide, by decide⟩, by decide, by decide⟩
theorem ff_C_39 : FF RX4 39 4 7 (.object "ChainSurvey$Survey") := ⟨_, _, _, _, ck_4, by decide, tb_in (i := 475) (by decide +kernel) (by decide +kernel), rfl, by decide +kernel, rfl⟩
theorem fl_C_43 : FL RX4 43 0 1 := ⟨_, _, _, _, ck_0, by decide, tb_in (i := 214) (by decide +kernel) (by decide +kernel)⟩
theorem ff_C_46 : FF RX4 46 4 8 (.object "ChainSurvey$Survey") := ⟨_, _, _, _, ck_4, by decide, tb_in (i := 476) (by decide +kernel) (by decide +kernel), rfl, by decide +kernel, rfl⟩
theorem cl_C_49 : Cond.classLink RX4 49 RX3 ∈ TB := tb_in (i := 234) (by decide +kernel) (by decide +kernel)
theorem is_3 : Cond.instantiable RX3 6 ∈ TB := tb_in (i := 235) (by decide +kernel) (by decide +kernel)
theorem ic_X3 : Cond.initialized RX3 ∈ TB := tb_in (i := 85) (by decide +kernel) (by decide +kernel)
theorem hd_3_25 : ∀ j, j < 6 → defaultValue (tyX3 j) = if tg 25 j = 0 then .int 0 else .null := by decide +kernel
theorem md_T_init : MDi I_T_init 0 := ⟨tb_in (i := 237) (by decide +kernel) (by decide +kernel), rfl, rfl, rfl, ⟨tb_in (i := 85) (by decide +kernel) (by decide +kernel), tb_in (i := 238) (by decide +kernel) (by decide +kernel), ⟨by decide, by decide, by decide +kernel⟩⟩⟩
theorem mn_C_51 : Cond.methodLinkNest RX4 51 yX3_init "ChainSurvey" ∈ lw_tbl := List.mem_of_getElem? (i := 236) (by decide +kernel)
theorem rm_C_init_T_init_25_1815 : RMok I_T_init I_C_init 25 1815 := ⟨⟨by decide, by decide⟩, by decide, by decide⟩
theorem ff_C_52 : FF RX4 52 4 9 (.object "ChainSurvey$Traverse") := ⟨_, _, _, _, ck_4, by decide, tb_in (i := 477) (by decide +kernel) (by decide +kernel), rfl, by decide +kernel, rfl⟩
theorem ff_C_56 : FF RX4 56 4 10 (.array (.object "ChainSurvey$Survey")) := ⟨_, _, _, _, ck_4, by decide, tb_in (i := 478) (by decide +kernel) (by decide +kernel), rfl, by decide +kernel, rfl⟩
theorem ff_C_60 : FF RX4 60 4 13 (.array (.object "ChainSurvey$Survey")) := ⟨_, _, _, _, ck_4, by decide, tb_in (i := 481) (by decide +kernel) (by decide +kernel), rfl, by decide +kernel, rfl⟩
theorem ff_C_63 : FF RX4 63 4 14 (.array .boolean) := ⟨_, _, _, _, ck_4, by decide, tb_in (i := 482) (by decide +kernel) (by decide +kernel), rfl, by decide +kernel, rfl⟩
theorem hd_2_34 : ∀ j, j < 13 → defaultValue (tyX2 j) = if tg 34 j = 0 then .int 0 else .null := by decide +kernel
theorem kk_34 : kd 34 = 2 := by decide +kernel
theorem sv_34 : isSv 34 := by unfold isSv; decide
theorem rm_C_init_S_init_34_1945 : RMok I_S_init I_C_init 34 1945 := ⟨⟨by decide, by decide⟩, by decide, by decide⟩
theorem hd_2_44 : ∀ j, j < 13 → defaultValue (tyX2 j) = if tg 44 j = 0 then .int 0 else .null := by decide +kernel
theorem kk_44 : kd 44 = 2 := by decide +kernel
theorem sv_44 : isSv 44 := by unfold isSv; decide
theorem rm_C_init_S_init_44_2138 : RMok I_S_init I_C_init 44 2138 := ⟨⟨by decide, by decide⟩, by decide, by decide⟩
theorem hd_2_54 : ∀ j, j < 13 → defaultValue (tyX2 j) = if tg 54 j = 0 then .int 0 else .null := by decide +kernel
theorem kk_54 : kd 54 = 2 := by decide +kernel
theorem sv_54 : isSv 54 := by unfold isSv; decide
theorem rm_C_init_S_init_54_2331 : RMok I_S_init I_C_init 54 2331 := ⟨⟨by decide, by decide⟩, by decide, by decide⟩
theorem hd_2_64 : ∀ j, j < 13 → defaultValue (tyX2 j) = if tg 64 j = 0 then .int 0 else .null := by decide +kernel
theorem kk_64 : kd 64 = 2 := by decide +kernel
theorem sv_64 : isSv 64 := by unfold isSv; decide
theorem rm_C_init_S_init_64_2524 : RMok I_S_init I_C_init 64 2524 := ⟨⟨by decide, by decide⟩, by decide, by decide⟩
theorem hd_2_74 : ∀ j, j < 13 → defaultValue (tyX2 j) = if tg 74 j = 0 then .int 0 else .null := by decide +kernel
theorem kk_74 : kd 74 = 2 := by decide +kernel
theorem sv_74 : isSv 74 := by unfold isSv; decide
theorem rm_C_init_S_init_74_2717 : RMok I_S_init I_C_init 74 2717 := ⟨⟨by decide, by decide⟩, by decide, by decide⟩
theorem hd_2_84 : ∀ j, j < 13 → defaultValue (tyX2 j) = if tg 84 j = 0 then .int 0 else .null := by decide +kernel
theorem kk_84 : kd 84 = 2 := by decide +kernel
theorem sv_84 : isSv 84 := by unfold isSv; decide
theorem rm_C_init_S_init_84_2910 : RMok I_S_init I_C_init 84 2910 := ⟨⟨by decide, by decide⟩, by decide, by decide⟩
theorem hd_2_94 : ∀ j, j < 13 → defaultValue (tyX2 j) = if tg 94 j = 0 then .int 0 else .null := by decide +kernel
theorem kk_94 : kd 94 = 2 := by decide +kernel
theorem sv_94 : isSv 94 := by unfold isSv; decide
theorem rm_C_init_S_init_94_3103 : RMok I_S_init I_C_init 94 3103 := ⟨⟨by decide, by decide⟩, by decide, by decide⟩
theorem hd_2_104 : ∀ j, j < 13 → defaultValue (tyX2 j) = if tg 104 j = 0 then .int 0 else .null := by decide +kernel
theorem kk_104 : kd 104 = 2 := by decide +kernel
theorem sv_104 : isSv 104 := by unfold isSv; decide
theorem rm_C_init_S_init_104_3296 : RMok I_S_init I_C_init 104 3296 := ⟨⟨by decide, by decide⟩, by decide, by decide⟩
theorem hd_2_114 : ∀ j, j < 13 → defaultValue (tyX2 j) = if tg 114 j = 0 then .int 0 else .null := by decide +kernel
theorem kk_114 : kd 114 = 2 := by decide +kernel
theorem sv_114 : isSv 114 := by unfold isSv; decide
theorem rm_C_init_S_init_114_3489 : RMok I_S_init I_C_init 114 3489 := ⟨⟨by decide, by decide⟩, by decide, by decide⟩
theorem hd_2_124 : ∀ j, j < 13 → defaultValue (tyX2 j) = if tg 124 j = 0 then .int 0 else .null := by decide +kernel
theorem kk_124 : kd 124 = 2 := by decide +kernel
theorem sv_124 : isSv 124 := by unfold isSv; decide
theorem rm_C_init_S_init_124_3682 : RMok I_S_init I_C_init 124 3682 := ⟨⟨by decide, by decide⟩, by decide, by decide⟩
theorem ml_C_69 : Cond.methodLink RX4 69 yJ0_length_8abf5 ∈ TB := tb_in (i := 267) (by decide +kernel) (by decide +kernel)
theorem rm_C_init_U_length_133_3862 : RMok I_U_length I_C_init 133 3862 := ⟨⟨by decide, by decide⟩, by decide, by decide⟩
theorem ml_C_75 : Cond.methodLink RX4 75 yJ0_charAt_5068e ∈ TB := tb_in (i := 277) (by decide +kernel) (by decide +kernel)
theorem rm_C_init_U_charAt_133_3862 : RMok I_U_charAt I_C_init 133 3862 := ⟨⟨by decide, by decide⟩, by decide, by decide⟩
theorem rm_C_init_I_begin_133_3862 : RMok I_I_begin I_C_init 133 3862 := ⟨⟨by decide, by decide⟩, by decide, by decide⟩
theorem rm_C_init_I_readsHead_133_3862 : RMok I_I_readsHead I_C_init 133 3862 := ⟨⟨by decide, by decide⟩, by decide, by decide⟩
theorem rm_C_init_I_readsCommands_133_3862 : RMok I_I_readsCommands I_C_init 133 3862 := ⟨⟨by decide, by decide⟩, by decide, by decide⟩
theorem rm_C_init_S_copyFrom_133_3862 : RMok I_S_copyFrom I_C_init 133 3862 := ⟨⟨by decide, by decide⟩, by decide, by decide⟩
theorem ml_M_3 : Cond.methodLink RX5 3 (⟨"java/lang/Object", "<init>", "()V"⟩ : MethodName) ∈ TB := tb_in (i := 1119) (by decide +kernel) (by decide +kernel)
theorem ol_M_3 : Cond.methodLink RX5 3 Lib.objectInit ∈ TB := tb_in (i := 1119) (by decide +kernel) (by decide +kernel)
theorem ff_M_9 : FF RX5 9 5 0 (.array .int) := ⟨_, _, _, _, ck_5, by decide, tb_in (i := 1259) (by decide +kernel) (by decide +kernel), rfl, by decide +kernel, rfl⟩
theorem kk_136 : kd 136 = 10 := by decide +kernel
theorem ll_136 : ln 136 = 284 := by decide +kernel
theorem ff_M_13 : FF RX5 13 5 1 (.array .int) := ⟨_, _, _, _, ck_5, by decide, tb_in (i := 1260) (by decide +kernel) (by decide +kernel), rfl, by decide +kernel, rfl⟩
theorem tt_134_1 : tg 134 1 = 137 := by decide +kernel
theorem sp_2272 : (Int16.ofInt 2272).toInt32 = 2272 := by decide
theorem ff_M_16 : FF RX5 16 5 2 (.array .int) := ⟨_, _, _, _, ck_5, by decide, tb_in (i := 1261) (by decide +kernel) (by decide +kernel), rfl, by decide +kernel, rfl⟩
theorem sp_568 : (Int16.ofInt 568).toInt32 = 568 := by decide
theorem ll_138 : ln 138 = 568 := by decide +kernel
theorem ff_M_19 : FF RX5 19 5 3 (.array .int) := ⟨_, _, _, _, ck_5, by decide, tb_in (i := 1262) (by decide +kernel) (by decide +kernel), rfl, by decide +kernel, rfl⟩
theorem ff_M_22 : FF RX5 22 5 4 (.array .int) := ⟨_, _, _, _, ck_5, by decide, tb_in (i := 1263) (by decide +kernel) (by decide +kernel), rfl, by decide +kernel, rfl⟩
theorem ff_M_25 : FF RX5 25 5 5 (.array .boolean) := ⟨_, _, _, _, ck_5, by decide, tb_in (i := 1264) (by decide +kernel) (by decide +kernel), rfl, by decide +kernel, rfl⟩
theorem ff_M_29 : FF RX5 29 5 8 (.array .int) := ⟨_, _, _, _, ck_5, by decide, tb_in (i := 1267) (by decide +kernel) (by decide +kernel), rfl, by decide +kernel, rfl⟩
theorem sp_600 : (Int16.ofInt 600).toInt32 = 600 := by decide
theorem ff_M_32 : FF RX5 32 5 9 (.array .int) := ⟨_, _, _, _, ck_5, by decide, tb_in (i := 1268) (by decide +kernel) (by decide +kernel), rfl, by decide +kernel, rfl⟩
theorem ff_M_35 : FF RX5 35 5 10 (.array .int) := ⟨_, _, _, _, ck_5, by decide, tb_in (i := 1269) (by decide +kernel) (by decide +kernel), rfl, by decide +kernel, rfl⟩
theorem ff_M_38 : FF RX5 38 5 11 (.array .int) := ⟨_, _, _, _, ck_5, by decide, tb_in (i := 1270) (by decide +kernel) (by decide +kernel), rfl, by decide +kernel, rfl⟩
theorem ff_M_41 : FF RX5 41 5 12 (.array .int) := ⟨_, _, _, _, ck_5, by decide, tb_in (i := 1271) (by decide +kernel) (by decide +kernel), rfl, by decide +kernel, rfl⟩
theorem sp_9659 : (Int16.ofInt 9659).toInt32 = 9659 := by decide
theorem sp_8660 : (Int16.ofInt 8660).toInt32 = 8660 := by decide
theorem sp_7071 : (Int16.ofInt 7071).toInt32 = 7071 := by decide
theorem sp_5000 : (Int16.ofInt 5000).toInt32 = 5000 := by decide
theorem sp_2588 : (Int16.ofInt 2588).toInt32 = 2588 := by decide
theorem ff_M_44 : FF RX5 44 5 13 (.array .int) := ⟨_, _, _, _, ck_5, by decide, tb_in (i := 1272) (by decide +kernel) (by decide +kernel), rfl, by decide +kernel, rfl⟩
theorem ff_M_51 : FF RX5 51 5 18 (.array .int) := ⟨_, _, _, _, ck_5, by decide, tb_in (i := 1277) (by decide +kernel) (by decide +kernel), rfl, by decide +kernel, rfl⟩
theorem md_M_lays : MDv I_M_lays 1 := ⟨tb_in (i := 1123) (by decide +kernel) (by decide +kernel), tb_in (i := 30) (by decide +kernel) (by decide +kernel), rfl, ⟨tb_in (i := 91) (by decide +kernel) (by decide +kernel), tb_in (i := 1124) (by decide +kernel) (by decide +kernel), ⟨by decide, by decide, by decide +kernel⟩⟩⟩
theorem ml_M_56 : Cond.methodLink RX5 56 yX5_lays ∈ TB := tb_in (i := 1121) (by decide +kernel) (by decide +kernel)
theorem rm_M_init_M_lays_13_5270 : RMok I_M_lays I_M_init 13 5270 := ⟨⟨by decide, by decide⟩, by decide, by decide⟩
theorem rc_M_lays : RC 5 I_M_lays := ⟨by decide, _, _, rfl⟩
theorem md_C_truncateInput : MDv I_C_truncateInput 1 := ⟨tb_in (i := 778) (by decide +kernel) (by decide +kernel), tb_in (i := 779) (by decide +kernel) (by decide +kernel), rfl, ⟨tb_in (i := 81) (by decide +kernel) (by decide +kernel), tb_in (i := 780) (by decide +kernel) (by decide +kernel), ⟨by decide, by decide, by decide +kernel⟩⟩⟩
theorem ml_W_7 : Cond.methodLink RL 7 yX4_truncateInput ∈ TB := tb_in (i := 777) (by decide +kernel) (by decide +kernel)
theorem rm_W_truncateInput_C_truncateInput : RMok I_C_truncateInput I_W_truncateInput 0 0 := ⟨⟨by decide, by decide⟩, by decide, by decide⟩
theorem rc_C_truncateInput : RC 4 I_C_truncateInput := ⟨by decide, _, _, rfl⟩
theorem cl_W_13 : Cond.classLink RL 13 "java/lang/IllegalArgumentException" ∈ TB := tb_in (i := 776) (by decide +kernel) (by decide +kernel)
theorem ca_1 : Cond.castable "java/lang/IllegalArgumentException" "java/lang/IllegalArgumentException" ∈ lw_tbl := List.mem_of_getElem? (i := 783) (by decide +kernel)
theorem kk_148 : kd 148 = 13 := by decide +kernel
theorem ll_148 : ln 148 = 1 := by decide +kernel
theorem md_C_addLeg : MDv I_C_addLeg 5 := ⟨tb_in (i := 853) (by decide +kernel) (by decide +kernel), tb_in (i := 854) (by decide +kernel) (by decide +kernel), rfl, ⟨tb_in (i := 81) (by decide +kernel) (by decide +kernel), tb_in (i := 855) (by decide +kernel) (by decide +kernel), ⟨by decide, by decide, by decide +kernel⟩⟩⟩
theorem ml_W_15 : Cond.methodLink RL 15 yX4_addLeg ∈ TB := tb_in (i := 852) (by decide +kernel) (by decide +kernel)
theorem rm_W_addLeg_C_addLeg : RMok I_C_addLeg I_W_addLeg 0 0 := ⟨⟨by decide, by decide⟩, by decide, by decide⟩
theorem rc_C_addLeg : RC 4 I_C_addLeg := ⟨by decide, _, _, rfl⟩
theorem cl_W_19 : Cond.classLink RL 19 "java/lang/IllegalStateException" ∈ TB := tb_in (i := 851) (by decide +kernel) (by decide +kernel)
theorem ca_2 : Cond.castable "java/lang/IllegalStateException" "java/lang/IllegalStateException" ∈ lw_tbl := List.mem_of_getElem? (i := 864) (by decide +kernel)
theorem md_C_addBog : MDv I_C_addBog 2 := ⟨tb_in (i := 884) (by decide +kernel) (by decide +kernel), tb_in (i := 885) (by decide +kernel) (by decide +kernel), rfl, ⟨tb_in (i := 81) (by decide +kernel) (by decide +kernel), tb_in (i := 886) (by decide +kernel) (by decide +kernel), ⟨by decide, by decide, by decide +kernel⟩⟩⟩
theorem ml_W_21 : Cond.methodLink RL 21 yX4_addBog ∈ TB := tb_in (i := 883) (by decide +kernel) (by decide +kernel)
theorem rm_W_addBog_C_addBog : RMok I_C_addBog I_W_addBog 0 0 := ⟨⟨by decide, by decide⟩, by decide, by decide⟩
theorem rc_C_addBog : RC 4 I_C_addBog := ⟨by decide, _, _, rfl⟩
theorem md_C_dropPin : MDv I_C_dropPin 1 := ⟨tb_in (i := 894) (by decide +kernel) (by decide +kernel), tb_in (i := 895) (by decide +kernel) (by decide +kernel), rfl, ⟨tb_in (i := 81) (by decide +kernel) (by decide +kernel), tb_in (i := 896) (by decide +kernel) (by decide +kernel), ⟨by decide, by decide, by decide +kernel⟩⟩⟩
theorem ml_W_25 : Cond.methodLink RL 25 yX4_dropPin ∈ TB := tb_in (i := 893) (by decide +kernel) (by decide +kernel)
theorem rm_W_dropPin_C_dropPin : RMok I_C_dropPin I_W_dropPin 0 0 := ⟨⟨by decide, by decide⟩, by decide, by decide⟩
theorem rc_C_dropPin : RC 4 I_C_dropPin := ⟨by decide, _, _, rfl⟩
theorem cl_W_28 : Cond.classLink RL 28 "java/lang/IndexOutOfBoundsException" ∈ TB := tb_in (i := 892) (by decide +kernel) (by decide +kernel)
theorem ca_3 : Cond.castable "java/lang/IndexOutOfBoundsException" "java/lang/IndexOutOfBoundsException" ∈ lw_tbl := List.mem_of_getElem? (i := 903) (by decide +kernel)
theorem md_C_findPin : MDv I_C_findPin 1 := ⟨tb_in (i := 922) (by decide +kernel) (by decide +kernel), tb_in (i := 923) (by decide +kernel) (by decide +kernel), rfl, ⟨tb_in (i := 81) (by decide +kernel) (by decide +kernel), tb_in (i := 924) (by decide +kernel) (by decide +kernel), ⟨by decide, by decide, by decide +kernel⟩⟩⟩
theorem ml_W_30 : Cond.methodLink RL 30 yX4_findPin ∈ TB := tb_in (i := 921) (by decide +kernel) (by decide +kernel)
theorem rm_W_findPin_C_findPin : RMok I_C_findPin I_W_findPin 0 0 := ⟨⟨by decide, by decide⟩, by decide, by decide⟩
theorem rc_C_findPin : RC 4 I_C_findPin := ⟨by decide, _, _, rfl⟩
theorem md_C_removeLast : MDv I_C_removeLast 0 := ⟨tb_in (i := 931) (by decide +kernel) (by decide +kernel), tb_in (i := 932) (by decide +kernel) (by decide +kernel), rfl, ⟨tb_in (i := 81) (by decide +kernel) (by decide +kernel), tb_in (i := 933) (by decide +kernel) (by decide +kernel), ⟨by decide, by decide, by decide +kernel⟩⟩⟩
theorem ml_W_33 : Cond.methodLink RL 33 yX4_removeLast ∈ TB := tb_in (i := 930) (by decide +kernel) (by decide +kernel)
theorem rm_W_removeLast_C_removeLast : RMok I_C_removeLast I_W_removeLast 0 0 := ⟨⟨by decide, by decide⟩, by decide, by decide⟩
theorem rc_C_removeLast : RC 4 I_C_removeLast := ⟨by decide, _, _, rfl⟩
theorem md_C_setWear : MDv I_C_setWear 1 := ⟨tb_in (i := 939) (by decide +kernel) (by decide +kernel), tb_in (i := 940) (by decide +kernel) (by decide +kernel), rfl, ⟨tb_in (i := 81) (by decide +kernel) (by decide +kernel), tb_in (i := 941) (by decide +kernel) (by decide +kernel), ⟨by decide, by decide, by decide +kernel⟩⟩⟩
theorem ml_W_37 : Cond.methodLink RL 37 yX4_setWear ∈ TB := tb_in (i := 938) (by decide +kernel) (by decide +kernel)
theorem rm_W_setWear_C_setWear : RMok I_C_setWear I_W_setWear 0 0 := ⟨⟨by decide, by decide⟩, by decide, by decide⟩
theorem rc_C_setWear : RC 4 I_C_setWear := ⟨by decide, _, _, rfl⟩
theorem md_C_setPace : MDv I_C_setPace 1 := ⟨tb_in (i := 947) (by decide +kernel) (by decide +kernel), tb_in (i := 948) (by decide +kernel) (by decide +kernel), rfl, ⟨tb_in (i := 81) (by decide +kernel) (by decide +kernel), tb_in (i := 949) (by decide +kernel) (by decide +kernel), ⟨by decide, by decide, by decide +kernel⟩⟩⟩
theorem ml_W_40 : Cond.methodLink RL 40 yX4_setPace ∈ TB := tb_in (i := 946) (by decide +kernel) (by decide +kernel)
theorem rm_W_setPace_C_setPace : RMok I_C_setPace I_W_setPace 0 0 := ⟨⟨by decide, by decide⟩, by decide, by decide⟩
theorem rc_C_setPace : RC 4 I_C_setPace := ⟨by decide, _, _, rfl⟩
theorem md_C_undo : MDv I_C_undo 0 := ⟨tb_in (i := 955) (by decide +kernel) (by decide +kernel), tb_in (i := 956) (by decide +kernel) (by decide +kernel), rfl, ⟨tb_in (i := 81) (by decide +kernel) (by decide +kernel), tb_in (i := 957) (by decide +kernel) (by decide +kernel), ⟨by decide, by decide, by decide +kernel⟩⟩⟩
theorem ml_W_43 : Cond.methodLink RL 43 yX4_undo ∈ TB := tb_in (i := 954) (by decide +kernel) (by decide +kernel)
theorem rm_W_undo_C_undo : RMok I_C_undo I_W_undo 0 0 := ⟨⟨by decide, by decide⟩, by decide, by decide⟩
theorem rc_C_undo : RC 4 I_C_undo := ⟨by decide, _, _, rfl⟩
theorem md_C_save : MDv I_C_save 1 := ⟨tb_in (i := 963) (by decide +kernel) (by decide +kernel), tb_in (i := 964) (by decide +kernel) (by decide +kernel), rfl, ⟨tb_in (i := 81) (by decide +kernel) (by decide +kernel), tb_in (i := 965) (by decide +kernel) (by decide +kernel), ⟨by decide, by decide, by decide +kernel⟩⟩⟩
theorem ml_W_46 : Cond.methodLink RL 46 yX4_save ∈ TB := tb_in (i := 962) (by decide +kernel) (by decide +kernel)
theorem rm_W_save_C_save : RMok I_C_save I_W_save 0 0 := ⟨⟨by decide, by decide⟩, by decide, by decide⟩
theorem rc_C_save : RC 4 I_C_save := ⟨by decide, _, _, rfl⟩
theorem md_C_restore : MDv I_C_restore 1 := ⟨tb_in (i := 975) (by decide +kernel) (by decide +kernel), tb_in (i := 976) (by decide +kernel) (by decide +kernel), rfl, ⟨tb_in (i := 81) (by decide +kernel) (by decide +kernel), tb_in (i := 977) (by decide +kernel) (by decide +kernel), ⟨by decide, by decide, by decide +kernel⟩⟩⟩
theorem ml_W_49 : Cond.methodLink RL 49 yX4_restore ∈ TB := tb_in (i := 974) (by decide +kernel) (by decide +kernel)
theorem rm_W_restore_C_restore : RMok I_C_restore I_W_restore 0 0 := ⟨⟨by decide, by decide⟩, by decide, by decide⟩
theorem rc_C_restore : RC 4 I_C_restore := ⟨by decide, _, _, rfl⟩
theorem md_C_bearing : MDv I_C_bearing 1 := ⟨tb_in (i := 983) (by decide +kernel) (by decide +kernel), tb_in (i := 984) (by decide +kernel) (by decide +kernel), rfl, ⟨tb_in (i := 81) (by decide +kernel) (by decide +kernel), tb_in (i := 985) (by decide +kernel) (by decide +kernel), ⟨by decide, by decide, by decide +kernel⟩⟩⟩
theorem ml_W_52 : Cond.methodLink RL 52 yX4_bearing ∈ TB := tb_in (i := 982) (by decide +kernel) (by decide +kernel)
theorem rm_W_bearing_C_bearing : RMok I_C_bearing I_W_bearing 0 0 := ⟨⟨by decide, by decide⟩, by decide, by decide⟩
theorem rc_C_bearing : RC 4 I_C_bearing := ⟨by decide, _, _, rfl⟩
theorem md_C_pins : MDv I_C_pins 1 := ⟨tb_in (i := 990) (by decide +kernel) (by decide +kernel), tb_in (i := 991) (by decide +kernel) (by decide +kernel), rfl, ⟨tb_in (i := 81) (by decide +kernel) (by decide +kernel), tb_in (i := 992) (by decide +kernel) (by decide +kernel), ⟨by decide, by decide, by decide +kernel⟩⟩⟩
theorem ml_W_55 : Cond.methodLink RL 55 yX4_pins ∈ TB := tb_in (i := 989) (by decide +kernel) (by decide +kernel)
theorem rm_W_pins_C_pins : RMok I_C_pins I_W_pins 0 0 := ⟨⟨by decide, by decide⟩, by decide, by decide⟩
theorem rc_C_pins : RC 4 I_C_pins := ⟨by decide, _, _, rfl⟩
theorem md_C_droppedPins : MDv I_C_droppedPins 1 := ⟨tb_in (i := 997) (by decide +kernel) (by decide +kernel), tb_in (i := 998) (by decide +kernel) (by decide +kernel), rfl, ⟨tb_in (i := 81) (by decide +kernel) (by decide +kernel), tb_in (i := 999) (by decide +kernel) (by decide +kernel), ⟨by decide, by decide, by decide +kernel⟩⟩⟩
theorem ml_W_58 : Cond.methodLink RL 58 yX4_droppedPins ∈ TB := tb_in (i := 996) (by decide +kernel) (by decide +kernel)
theorem rm_W_droppedPins_C_droppedPins : RMok I_C_droppedPins I_W_droppedPins 0 0 := ⟨⟨by decide, by decide⟩, by decide, by decide⟩
theorem rc_C_droppedPins : RC 4 I_C_droppedPins := ⟨by decide, _, _, rfl⟩
theorem md_C_readLength : MDv I_C_readLength 1 := ⟨tb_in (i := 1004) (by decide +kernel) (by decide +kernel), tb_in (i := 1005) (by decide +kernel) (by decide +kernel), rfl, ⟨tb_in (i := 81) (by decide +kernel) (by decide +kernel), tb_in (i := 1006) (by decide +kernel) (by decide +kernel), ⟨by decide, by decide, by decide +kernel⟩⟩⟩
theorem ml_W_61 : Cond.methodLink RL 61 yX4_readLength ∈ TB := tb_in (i := 1003) (by decide +kernel) (by decide +kernel)
theorem rm_W_readLength_C_readLength : RMok I_C_readLength I_W_readLength 0 0 := ⟨⟨by decide, by decide⟩, by decide, by decide⟩
theorem rc_C_readLength : RC 4 I_C_readLength := ⟨by decide, _, _, rfl⟩
theorem md_C_slopeLength : MDv I_C_slopeLength 1 := ⟨tb_in (i := 1012) (by decide +kernel) (by decide +kernel), tb_in (i := 1013) (by decide +kernel) (by decide +kernel), rfl, ⟨tb_in (i := 81) (by decide +kernel) (by decide +kernel), tb_in (i := 1014) (by decide +kernel) (by decide +kernel), ⟨by decide, by decide, by decide +kernel⟩⟩⟩
theorem ml_W_64 : Cond.methodLink RL 64 yX4_slopeLength ∈ TB := tb_in (i := 1011) (by decide +kernel) (by decide +kernel)
theorem rm_W_slopeLength_C_slopeLength : RMok I_C_slopeLength I_W_slopeLength 0 0 := ⟨⟨by decide, by decide⟩, by decide, by decide⟩
theorem rc_C_slopeLength : RC 4 I_C_slopeLength := ⟨by decide, _, _, rfl⟩
theorem md_C_horizontalLength : MDv I_C_horizontalLength 1 := ⟨tb_in (i := 1019) (by decide +kernel) (by decide +kernel), tb_in (i := 1020) (by decide +kernel) (by decide +kernel), rfl, ⟨tb_in (i := 81) (by decide +kernel) (by decide +kernel), tb_in (i := 1021) (by decide +kernel) (by decide +kernel), ⟨by decide, by decide, by decide +kernel⟩⟩⟩
theorem ml_W_67 : Cond.methodLink RL 67 yX4_horizontalLength ∈ TB := tb_in (i := 1018) (by decide +kernel) (by decide +kernel)
theorem rm_W_horizontalLength_C_horizontalLength : RMok I_C_horizontalLength I_W_horizontalLength 0 0 := ⟨⟨by decide, by decide⟩, by decide, by decide⟩
theorem rc_C_horizontalLength : RC 4 I_C_horizontalLength := ⟨by decide, _, _, rfl⟩
theorem md_C_eastStep : MDv I_C_eastStep 1 := ⟨tb_in (i := 1026) (by decide +kernel) (by decide +kernel), tb_in (i := 1027) (by decide +kernel) (by decide +kernel), rfl, ⟨tb_in (i := 81) (by decide +kernel) (by decide +kernel), tb_in (i := 1028) (by decide +kernel) (by decide +kernel), ⟨by decide, by decide, by decide +kernel⟩⟩⟩
theorem ml_W_70 : Cond.methodLink RL 70 yX4_eastStep ∈ TB := tb_in (i := 1025) (by decide +kernel) (by decide +kernel)
theorem rm_W_eastStep_C_eastStep : RMok I_C_eastStep I_W_eastStep 0 0 := ⟨⟨by decide, by decide⟩, by decide, by decide⟩
theorem rc_C_eastStep : RC 4 I_C_eastStep := ⟨by decide, _, _, rfl⟩
theorem md_C_northStep : MDv I_C_northStep 1 := ⟨tb_in (i := 1033) (by decide +kernel) (by decide +kernel), tb_in (i := 1034) (by decide +kernel) (by decide +kernel), rfl, ⟨tb_in (i := 81) (by decide +kernel) (by decide +kernel), tb_in (i := 1035) (by decide +kernel) (by decide +kernel), ⟨by decide, by decide, by decide +kernel⟩⟩⟩
theorem ml_W_73 : Cond.methodLink RL 73 yX4_northStep ∈ TB := tb_in (i := 1032) (by decide +kernel) (by decide +kernel)
theorem rm_W_northStep_C_northStep : RMok I_C_northStep I_W_northStep 0 0 := ⟨⟨by decide, by decide⟩, by decide, by decide⟩
theorem rc_C_northStep : RC 4 I_C_northStep := ⟨by decide, _, _, rfl⟩
theorem md_C_tallies : MDv I_C_tallies 1 := ⟨tb_in (i := 1040) (by decide +kernel) (by decide +kernel), tb_in (i := 1041) (by decide +kernel) (by decide +kernel), rfl, ⟨tb_in (i := 81) (by decide +kernel) (by decide +kernel), tb_in (i := 1042) (by decide +kernel) (by decide +kernel), ⟨by decide, by decide, by decide +kernel⟩⟩⟩
theorem ml_W_76 : Cond.methodLink RL 76 yX4_tallies ∈ TB := tb_in (i := 1039) (by decide +kernel) (by decide +kernel)
theorem rm_W_tallies_C_tallies : RMok I_C_tallies I_W_tallies 0 0 := ⟨⟨by decide, by decide⟩, by decide, by decide⟩
theorem rc_C_tallies : RC 4 I_C_tallies := ⟨by decide, _, _, rfl⟩
theorem md_C_isBog : MDv I_C_isBog 1 := ⟨tb_in (i := 1047) (by decide +kernel) (by decide +kernel), tb_in (i := 1048) (by decide +kernel) (by decide +kernel), rfl, ⟨tb_in (i := 81) (by decide +kernel) (by decide +kernel), tb_in (i := 1049) (by decide +kernel) (by decide +kernel), ⟨by decide, by decide, by decide +kernel⟩⟩⟩
theorem ml_W_79 : Cond.methodLink RL 79 yX4_isBog ∈ TB := tb_in (i := 1046) (by decide +kernel) (by decide +kernel)
theorem rm_W_isBog_C_isBog : RMok I_C_isBog I_W_isBog 0 0 := ⟨⟨by decide, by decide⟩, by decide, by decide⟩
theorem rc_C_isBog : RC 4 I_C_isBog := ⟨by decide, _, _, rfl⟩
theorem md_C_nameByte : MDv I_C_nameByte 2 := ⟨tb_in (i := 1054) (by decide +kernel) (by decide +kernel), tb_in (i := 1055) (by decide +kernel) (by decide +kernel), rfl, ⟨tb_in (i := 81) (by decide +kernel) (by decide +kernel), tb_in (i := 1056) (by decide +kernel) (by decide +kernel), ⟨by decide, by decide, by decide +kernel⟩⟩⟩
theorem ml_W_83 : Cond.methodLink RL 83 yX4_nameByte ∈ TB := tb_in (i := 1053) (by decide +kernel) (by decide +kernel)
theorem rm_W_nameByte_C_nameByte : RMok I_C_nameByte I_W_nameByte 0 0 := ⟨⟨by decide, by decide⟩, by decide, by decide⟩
theorem rc_C_nameByte : RC 4 I_C_nameByte := ⟨by decide, _, _, rfl⟩
theorem md_C_rawEast : MDv I_C_rawEast 1 := ⟨tb_in (i := 1064) (by decide +kernel) (by decide +kernel), tb_in (i := 1065) (by decide +kernel) (by decide +kernel), rfl, ⟨tb_in (i := 81) (by decide +kernel) (by decide +kernel), tb_in (i := 1066) (by decide +kernel) (by decide +kernel), ⟨by decide, by decide, by decide +kernel⟩⟩⟩
theorem ml_W_86 : Cond.methodLink RL 86 yX4_rawEast ∈ TB := tb_in (i := 1063) (by decide +kernel) (by decide +kernel)
theorem rm_W_rawEast_C_rawEast : RMok I_C_rawEast I_W_rawEast 0 0 := ⟨⟨by decide, by decide⟩, by decide, by decide⟩
theorem rc_C_rawEast : RC 4 I_C_rawEast := ⟨by decide, _, _, rfl⟩
theorem md_C_rawNorth : MDv I_C_rawNorth 1 := ⟨tb_in (i := 1076) (by decide +kernel) (by decide +kernel), tb_in (i := 1077) (by decide +kernel) (by decide +kernel), rfl, ⟨tb_in (i := 81) (by decide +kernel) (by decide +kernel), tb_in (i := 1078) (by decide +kernel) (by decide +kernel), ⟨by decide, by decide, by decide +kernel⟩⟩⟩
theorem ml_W_89 : Cond.methodLink RL 89 yX4_rawNorth ∈ TB := tb_in (i := 1075) (by decide +kernel) (by decide +kernel)
theorem rm_W_rawNorth_C_rawNorth : RMok I_C_rawNorth I_W_rawNorth 0 0 := ⟨⟨by decide, by decide⟩, by decide, by decide⟩
theorem rc_C_rawNorth : RC 4 I_C_rawNorth := ⟨by decide, _, _, rfl⟩
theorem md_C_east : MDv I_C_east 1 := ⟨tb_in (i := 1083) (by decide +kernel) (by decide +kernel), tb_in (i := 1084) (by decide +kernel) (by decide +kernel), rfl, ⟨tb_in (i := 81) (by decide +kernel) (by decide +kernel), tb_in (i := 1085) (by decide +kernel) (by decide +kernel), ⟨by decide, by decide, by decide +kernel⟩⟩⟩
theorem ml_W_92 : Cond.methodLink RL 92 yX4_east ∈ TB := tb_in (i := 1082) (by decide +kernel) (by decide +kernel)
theorem rm_W_east_C_east : RMok I_C_east I_W_east 0 0 := ⟨⟨by decide, by decide⟩, by decide, by decide⟩
theorem rc_C_east : RC 4 I_C_east := ⟨by decide, _, _, rfl⟩
theorem md_C_north : MDv I_C_north 1 := ⟨tb_in (i := 1090) (by decide +kernel) (by decide +kernel), tb_in (i := 1091) (by decide +kernel) (by decide +kernel), rfl, ⟨tb_in (i := 81) (by decide +kernel) (by decide +kernel), tb_in (i := 1092) (by decide +kernel) (by decide +kernel), ⟨by decide, by decide, by decide +kernel⟩⟩⟩
theorem ml_W_95 : Cond.methodLink RL 95 yX4_north ∈ TB := tb_in (i := 1089) (by decide +kernel) (by decide +kernel)
theorem rm_W_north_C_north : RMok I_C_north I_W_north 0 0 := ⟨⟨by decide, by decide⟩, by decide, by decide⟩
theorem rc_C_north : RC 4 I_C_north := ⟨by decide, _, _, rfl⟩
theorem md_C_run : MDv I_C_run 1 := ⟨tb_in (i := 1097) (by decide +kernel) (by decide +kernel), tb_in (i := 1098) (by decide +kernel) (by decide +kernel), rfl, ⟨tb_in (i := 81) (by decide +kernel) (by decide +kernel), tb_in (i := 1099) (by decide +kernel) (by decide +kernel), ⟨by decide, by decide, by decide +kernel⟩⟩⟩
theorem ml_W_98 : Cond.methodLink RL 98 yX4_run ∈ TB := tb_in (i := 1096) (by decide +kernel) (by decide +kernel)
theorem rm_W_run_C_run : RMok I_C_run I_W_run 0 0 := ⟨⟨by decide, by decide⟩, by decide, by decide⟩
theorem rc_C_run : RC 4 I_C_run := ⟨by decide, _, _, rfl⟩
theorem md_C_distanceFromStart : MDv I_C_distanceFromStart 1 := ⟨tb_in (i := 1104) (by decide +kernel) (by decide +kernel), tb_in (i := 1105) (by decide +kernel) (by decide +kernel), rfl, ⟨tb_in (i := 81) (by decide +kernel) (by decide +kernel), tb_in (i := 1106) (by decide +kernel) (by decide +kernel), ⟨by decide, by decide, by decide +kernel⟩⟩⟩
theorem ml_W_101 : Cond.methodLink RL 101 yX4_distanceFromStart ∈ TB := tb_in (i := 1103) (by decide +kernel) (by decide +kernel)
theorem rm_W_distanceFromStart_C_distanceFromStart : RMok I_C_distanceFromStart I_W_distanceFromStart 0 0 := ⟨⟨by decide, by decide⟩, by decide, by decide⟩
theorem rc_C_distanceFromStart : RC 4 I_C_distanceFromStart := ⟨by decide, _, _, rfl⟩
theorem md_C_misclosureIfDropped : MDv I_C_misclosureIfDropped 1 := ⟨tb_in (i := 1111) (by decide +kernel) (by decide +kernel), tb_in (i := 1112) (by decide +kernel) (by decide +kernel), rfl, ⟨tb_in (i := 81) (by decide +kernel) (by decide +kernel), tb_in (i := 1113) (by decide +kernel) (by decide +kernel), ⟨by decide, by decide, by decide +kernel⟩⟩⟩
theorem ml_W_104 : Cond.methodLink RL 104 yX4_misclosureIfDropped ∈ TB := tb_in (i := 1110) (by decide +kernel) (by decide +kernel)
theorem rm_W_misclosureIfDropped_C_misclosureIfDropped : RMok I_C_misclosureIfDropped I_W_misclosureIfDropped 0 0 := ⟨⟨by decide, by decide⟩, by decide, by decide⟩
theorem rc_C_misclosureIfDropped : RC 4 I_C_misclosureIfDropped := ⟨by decide, _, _, rfl⟩
