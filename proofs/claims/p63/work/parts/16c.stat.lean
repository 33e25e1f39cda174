/-! words -/
theorem ml_S_3 : Cond.methodLink RX2 3 (⟨"java/lang/Object", "<init>", "()V"⟩ : MethodName) ∈ TB := tb_in (i := 104) (by decide +kernel) (by decide +kernel)
theorem oi_i : Cond.instanceMethod Lib.objectInit ∈ TB := tb_in (i := 59) (by decide +kernel) (by decide +kernel)
theorem oi_c : Cond.code Lib.objectInit ⟨#[0xb1]⟩ 1 none ∈ TB := tb_in (i := 60) (by decide +kernel) (by decide +kernel)
theorem ol_S_3 : Cond.methodLink RX2 3 Lib.objectInit ∈ TB := tb_in (i := 104) (by decide +kernel) (by decide +kernel)
theorem ac_int : Cond.arrayClass .int ∈ TB := tb_in (i := 163) (by decide +kernel) (by decide +kernel)
theorem ff_S_9 : FF RX2 9 2 0 (.array .int) := ⟨_, _, _, _, ck_2, by decide, tb_in (i := 105) (by decide +kernel) (by decide +kernel), rfl, by decide +kernel, rfl⟩
theorem ff_S_15 : FF RX2 15 2 1 (.array .int) := ⟨_, _, _, _, ck_2, by decide, tb_in (i := 107) (by decide +kernel) (by decide +kernel), rfl, by decide +kernel, rfl⟩
theorem ac_boolean : Cond.arrayClass .boolean ∈ TB := tb_in (i := 164) (by decide +kernel) (by decide +kernel)
theorem ff_S_18 : FF RX2 18 2 2 (.array .boolean) := ⟨_, _, _, _, ck_2, by decide, tb_in (i := 110) (by decide +kernel) (by decide +kernel), rfl, by decide +kernel, rfl⟩
theorem ff_S_22 : FF RX2 22 2 3 (.array .int) := ⟨_, _, _, _, ck_2, by decide, tb_in (i := 112) (by decide +kernel) (by decide +kernel), rfl, by decide +kernel, rfl⟩
theorem ff_S_25 : FF RX2 25 2 4 (.array .int) := ⟨_, _, _, _, ck_2, by decide, tb_in (i := 114) (by decide +kernel) (by decide +kernel), rfl, by decide +kernel, rfl⟩
theorem ff_S_28 : FF RX2 28 2 5 (.array .int) := ⟨_, _, _, _, ck_2, by decide, tb_in (i := 116) (by decide +kernel) (by decide +kernel), rfl, by decide +kernel, rfl⟩
theorem ff_S_31 : FF RX2 31 2 6 (.array .int) := ⟨_, _, _, _, ck_2, by decide, tb_in (i := 117) (by decide +kernel) (by decide +kernel), rfl, by decide +kernel, rfl⟩
theorem ff_S_34 : FF RX2 34 2 7 (.array .int) := ⟨_, _, _, _, ck_2, by decide, tb_in (i := 120) (by decide +kernel) (by decide +kernel), rfl, by decide +kernel, rfl⟩
theorem ff_S_37 : FF RX2 37 2 8 (.array .int) := ⟨_, _, _, _, ck_2, by decide, tb_in (i := 121) (by decide +kernel) (by decide +kernel), rfl, by decide +kernel, rfl⟩
theorem ml_L_3 : Cond.methodLink RX1 3 (⟨"java/lang/Object", "<init>", "()V"⟩ : MethodName) ∈ TB := tb_in (i := 72) (by decide +kernel) (by decide +kernel)
theorem ol_L_3 : Cond.methodLink RX1 3 Lib.objectInit ∈ TB := tb_in (i := 72) (by decide +kernel) (by decide +kernel)
theorem ac_byte : Cond.arrayClass .byte ∈ TB := tb_in (i := 98) (by decide +kernel) (by decide +kernel)
theorem ff_L_9 : FF RX1 9 1 0 (.array .byte) := ⟨_, _, _, _, ck_1, by decide, tb_in (i := 73) (by decide +kernel) (by decide +kernel), rfl, by decide +kernel, rfl⟩
theorem ml_T_3 : Cond.methodLink RX3 3 (⟨"java/lang/Object", "<init>", "()V"⟩ : MethodName) ∈ TB := tb_in (i := 192) (by decide +kernel) (by decide +kernel)
theorem ol_T_3 : Cond.methodLink RX3 3 Lib.objectInit ∈ TB := tb_in (i := 192) (by decide +kernel) (by decide +kernel)
theorem bp_21 : (Int8.ofInt 21).toInt32 = 21 := by decide
theorem ff_T_9 : FF RX3 9 3 0 (.array .int) := ⟨_, _, _, _, ck_3, by decide, tb_in (i := 193) (by decide +kernel) (by decide +kernel), rfl, by decide +kernel, rfl⟩
theorem ff_T_15 : FF RX3 15 3 1 (.array .int) := ⟨_, _, _, _, ck_3, by decide, tb_in (i := 195) (by decide +kernel) (by decide +kernel), rfl, by decide +kernel, rfl⟩
theorem ff_T_18 : FF RX3 18 3 2 (.array .int) := ⟨_, _, _, _, ck_3, by decide, tb_in (i := 197) (by decide +kernel) (by decide +kernel), rfl, by decide +kernel, rfl⟩
theorem ff_T_21 : FF RX3 21 3 3 (.array .int) := ⟨_, _, _, _, ck_3, by decide, tb_in (i := 199) (by decide +kernel) (by decide +kernel), rfl, by decide +kernel, rfl⟩
theorem ff_T_24 : FF RX3 24 3 4 (.array .int) := ⟨_, _, _, _, ck_3, by decide, tb_in (i := 201) (by decide +kernel) (by decide +kernel), rfl, by decide +kernel, rfl⟩
theorem ml_I_3 : Cond.methodLink RX0 3 (⟨"java/lang/Object", "<init>", "()V"⟩ : MethodName) ∈ TB := tb_in (i := 66) (by decide +kernel) (by decide +kernel)
theorem ol_I_3 : Cond.methodLink RX0 3 Lib.objectInit ∈ TB := tb_in (i := 66) (by decide +kernel) (by decide +kernel)
theorem cl_I_9 : Cond.classLink RX0 9 RX1 ∈ TB := tb_in (i := 67) (by decide +kernel) (by decide +kernel)
theorem is_1 : Cond.instantiable RX1 6 ∈ TB := tb_in (i := 68) (by decide +kernel) (by decide +kernel)
theorem ic_X1 : Cond.initialized RX1 ∈ TB := tb_in (i := 33) (by decide +kernel) (by decide +kernel)
theorem hd_1_2 : ∀ j, j < 6 → defaultValue (tyX1 j) = if tg 2 j = 0 then .int 0 else .null := by decide +kernel
theorem md_L_init : MDi I_L_init 0 := ⟨tb_in (i := 70) (by decide +kernel) (by decide +kernel), rfl, rfl, rfl, ⟨tb_in (i := 33) (by decide +kernel) (by decide +kernel), tb_in (i := 71) (by decide +kernel) (by decide +kernel), ⟨by decide, by decide, by decide +kernel⟩⟩⟩
theorem mn_I_11 : Cond.methodLinkNest RX0 11 yX1_init "ChainSurvey" ∈ lx_tbl := List.mem_of_getElem? (i := 69) (by decide +kernel)
theorem rm_I_init_L_init_1_6 : RMok I_L_init I_I_init 1 6 := ⟨⟨by decide, by decide⟩, by decide, by decide⟩
theorem ff_I_12 : FF RX0 12 0 0 (.object "ChainSurvey$Lexer") := ⟨_, _, _, _, ck_0, by decide, tb_in (i := 165) (by decide +kernel) (by decide +kernel), rfl, by decide +kernel, rfl⟩
theorem cl_I_18 : Cond.classLink RX0 18 RX2 ∈ TB := tb_in (i := 99) (by decide +kernel) (by decide +kernel)
theorem is_2 : Cond.instantiable RX2 13 ∈ TB := tb_in (i := 100) (by decide +kernel) (by decide +kernel)
theorem ic_X2 : Cond.initialized RX2 ∈ TB := tb_in (i := 34) (by decide +kernel) (by decide +kernel)
theorem hd_2_4 : ∀ j, j < 13 → defaultValue (tyX2 j) = if tg 4 j = 0 then .int 0 else .null := by decide +kernel
theorem md_S_init : MDi I_S_init 0 := ⟨tb_in (i := 102) (by decide +kernel) (by decide +kernel), rfl, rfl, rfl, ⟨tb_in (i := 34) (by decide +kernel) (by decide +kernel), tb_in (i := 103) (by decide +kernel) (by decide +kernel), ⟨by decide, by decide, by decide +kernel⟩⟩⟩
theorem mn_I_20 : Cond.methodLinkNest RX0 20 yX2_init "ChainSurvey" ∈ lx_tbl := List.mem_of_getElem? (i := 101) (by decide +kernel)
theorem rm_I_init_S_init_3_919 : RMok I_S_init I_I_init 3 919 := ⟨⟨by decide, by decide⟩, by decide, by decide⟩
theorem ff_I_21 : FF RX0 21 0 1 (.object "ChainSurvey$Survey") := ⟨_, _, _, _, ck_0, by decide, tb_in (i := 167) (by decide +kernel) (by decide +kernel), rfl, by decide +kernel, rfl⟩
theorem ml_C_1 : Cond.methodLink RX4 1 (⟨"java/lang/Object", "<init>", "()V"⟩ : MethodName) ∈ TB := tb_in (i := 58) (by decide +kernel) (by decide +kernel)
theorem ol_C_1 : Cond.methodLink RX4 1 Lib.objectInit ∈ TB := tb_in (i := 58) (by decide +kernel) (by decide +kernel)
theorem cl_C_7 : Cond.classLink RX4 7 RX0 ∈ TB := tb_in (i := 61) (by decide +kernel) (by decide +kernel)
theorem is_0 : Cond.instantiable RX0 5 ∈ TB := tb_in (i := 62) (by decide +kernel) (by decide +kernel)
theorem ic_X0 : Cond.initialized RX0 ∈ TB := tb_in (i := 32) (by decide +kernel) (by decide +kernel)
theorem hd_0_1 : ∀ j, j < 5 → defaultValue (tyX0 j) = if tg 1 j = 0 then .int 0 else .null := by decide +kernel
theorem md_I_init : MDi I_I_init 0 := ⟨tb_in (i := 64) (by decide +kernel) (by decide +kernel), rfl, rfl, rfl, ⟨tb_in (i := 32) (by decide +kernel) (by decide +kernel), tb_in (i := 65) (by decide +kernel) (by decide +kernel), ⟨by decide, by decide, by decide +kernel⟩⟩⟩
theorem mn_C_9 : Cond.methodLinkNest RX4 9 yX0_init "ChainSurvey" ∈ lx_tbl := List.mem_of_getElem? (i := 63) (by decide +kernel)
theorem rm_C_init_I_init_1_5 : RMok I_I_init I_C_init 1 5 := ⟨⟨by decide, by decide⟩, by decide, by decide⟩
theorem ff_C_10 : FF RX4 10 4 0 (.object "ChainSurvey$Interpreter") := ⟨_, _, _, _, ck_4, by decide, tb_in (i := 421) (by decide +kernel) (by decide +kernel), rfl, by decide +kernel, rfl⟩
theorem fl_C_16 : FL RX4 16 0 0 := ⟨_, _, _, _, ck_0, by decide, tb_in (i := 166) (by decide +kernel) (by decide +kernel)⟩
theorem fl_C_20 : FL RX4 20 1 0 := ⟨_, _, _, _, ck_1, by decide, tb_in (i := 74) (by decide +kernel) (by decide +kernel)⟩
theorem ff_C_26 : FF RX4 26 4 1 (.array .byte) := ⟨_, _, _, _, ck_4, by decide, tb_in (i := 422) (by decide +kernel) (by decide +kernel), rfl, by decide +kernel, rfl⟩
theorem sp_512 : (Int16.ofInt 512).toInt32 = 512 := by decide
theorem kk_14 : kd 14 = 11 := by decide +kernel
theorem ll_14 : ln 14 = 512 := by decide +kernel
theorem ff_C_33 : FF RX4 33 4 5 (.array .byte) := ⟨_, _, _, _, ck_4, by decide, tb_in (i := 426) (by decide +kernel) (by decide +kernel), rfl, by decide +kernel, rfl⟩
theorem tt_0_5 : tg 0 5 = 15 := by decide +kernel
theorem cl_C_36 : Cond.classLink RX4 36 RX2 ∈ TB := tb_in (i := 185) (by decide +kernel) (by decide +kernel)
theorem hd_2_15 : ∀ j, j < 13 → defaultValue (tyX2 j) = if tg 15 j = 0 then .int 0 else .null := by decide +kernel
theorem mn_C_38 : Cond.methodLinkNest RX4 38 yX2_init "ChainSurvey" ∈ lx_tbl := List.mem_of_getElem? (i := 186) (by decide +kernel)
theorem rm_C_init_S_init_15_1629 : RMok I_S_init I_C_init 15 1629 := ⟨⟨by decide, by decide⟩, by decide, by decide⟩
theorem ff_C_39 : FF RX4 39 4 7 (.object "ChainSurvey$Survey") := ⟨_, _, _, _, ck_4, by decide, tb_in (i := 427) (by decide +kernel) (by decide +kernel), rfl, by decide +kernel, rfl⟩
theorem fl_C_43 : FL RX4 43 0 1 := ⟨_, _, _, _, ck_0, by decide, tb_in (i := 168) (by decide +kernel) (by decide +kernel)⟩
theorem ff_C_46 : FF RX4 46 4 8 (.object "ChainSurvey$Survey") := ⟨_, _, _, _, ck_4, by decide, tb_in (i := 428) (by decide +kernel) (by decide +kernel), rfl, by decide +kernel, rfl⟩
theorem cl_C_49 : Cond.classLink RX4 49 RX3 ∈ TB := tb_in (i := 187) (by decide +kernel) (by decide +kernel)
theorem is_3 : Cond.instantiable RX3 6 ∈ TB := tb_in (i := 188) (by decide +kernel) (by decide +kernel)
theorem ic_X3 : Cond.initialized RX3 ∈ TB := tb_in (i := 35) (by decide +kernel) (by decide +kernel)
theorem hd_3_25 : ∀ j, j < 6 → defaultValue (tyX3 j) = if tg 25 j = 0 then .int 0 else .null := by decide +kernel
theorem md_T_init : MDi I_T_init 0 := ⟨tb_in (i := 190) (by decide +kernel) (by decide +kernel), rfl, rfl, rfl, ⟨tb_in (i := 35) (by decide +kernel) (by decide +kernel), tb_in (i := 191) (by decide +kernel) (by decide +kernel), ⟨by decide, by decide, by decide +kernel⟩⟩⟩
theorem mn_C_51 : Cond.methodLinkNest RX4 51 yX3_init "ChainSurvey" ∈ lx_tbl := List.mem_of_getElem? (i := 189) (by decide +kernel)
theorem rm_C_init_T_init_25_1815 : RMok I_T_init I_C_init 25 1815 := ⟨⟨by decide, by decide⟩, by decide, by decide⟩
theorem ff_C_52 : FF RX4 52 4 9 (.object "ChainSurvey$Traverse") := ⟨_, _, _, _, ck_4, by decide, tb_in (i := 429) (by decide +kernel) (by decide +kernel), rfl, by decide +kernel, rfl⟩
theorem ff_C_56 : FF RX4 56 4 10 (.array (.object "ChainSurvey$Survey")) := ⟨_, _, _, _, ck_4, by decide, tb_in (i := 430) (by decide +kernel) (by decide +kernel), rfl, by decide +kernel, rfl⟩
theorem kk_32 : kd 32 = 14 := by decide +kernel
theorem ll_32 : ln 32 = 2 := by decide +kernel
theorem ff_C_60 : FF RX4 60 4 13 (.array (.object "ChainSurvey$Survey")) := ⟨_, _, _, _, ck_4, by decide, tb_in (i := 433) (by decide +kernel) (by decide +kernel), rfl, by decide +kernel, rfl⟩
theorem tt_0_13 : tg 0 13 = 33 := by decide +kernel
theorem kk_33 : kd 33 = 12 := by decide +kernel
theorem ll_33 : ln 33 = 2 := by decide +kernel
theorem ff_C_63 : FF RX4 63 4 14 (.array .boolean) := ⟨_, _, _, _, ck_4, by decide, tb_in (i := 434) (by decide +kernel) (by decide +kernel), rfl, by decide +kernel, rfl⟩
theorem tt_0_14 : tg 0 14 = 34 := by decide +kernel
theorem hd_2_34 : ∀ j, j < 13 → defaultValue (tyX2 j) = if tg 34 j = 0 then .int 0 else .null := by decide +kernel
theorem kk_34 : kd 34 = 2 := by decide +kernel
theorem sv_34 : isSv 34 := by unfold isSv; decide
theorem rm_C_init_S_init_34_1945 : RMok I_S_init I_C_init 34 1945 := ⟨⟨by decide, by decide⟩, by decide, by decide⟩
theorem hd_2_44 : ∀ j, j < 13 → defaultValue (tyX2 j) = if tg 44 j = 0 then .int 0 else .null := by decide +kernel
theorem kk_44 : kd 44 = 2 := by decide +kernel
theorem sv_44 : isSv 44 := by unfold isSv; decide
theorem rm_C_init_S_init_44_2138 : RMok I_S_init I_C_init 44 2138 := ⟨⟨by decide, by decide⟩, by decide, by decide⟩
theorem hd_2_54 : ∀ j, j < 13 → defaultValue (tyX2 j) = if tg 54 j = 0 then .int 0 else .null := by decide +kernel
theorem kk_54 : kd 54 = 2 := by decide +kernel
theorem sv_54 : isSv 54 := by unfold isSv; decide
theorem rm_C_init_S_init_54_2331 : RMok I_S_init I_C_init 54 2331 := ⟨⟨by decide, by decide⟩, by decide, by decide⟩
theorem hd_2_64 : ∀ j, j < 13 → defaultValue (tyX2 j) = if tg 64 j = 0 then .int 0 else .null := by decide +kernel
theorem kk_64 : kd 64 = 2 := by decide +kernel
theorem sv_64 : isSv 64 := by unfold isSv; decide
theorem rm_C_init_S_init_64_2524 : RMok I_S_init I_C_init 64 2524 := ⟨⟨by decide, by decide⟩, by decide, by decide⟩
theorem hd_2_74 : ∀ j, j < 13 → defaultValue (tyX2 j) = if tg 74 j = 0 then .int 0 else .null := by decide +kernel
theorem kk_74 : kd 74 = 2 := by decide +kernel
theorem sv_74 : isSv 74 := by unfold isSv; decide
theorem rm_C_init_S_init_74_2717 : RMok I_S_init I_C_init 74 2717 := ⟨⟨by decide, by decide⟩, by decide, by decide⟩
theorem hd_2_84 : ∀ j, j < 13 → defaultValue (tyX2 j) = if tg 84 j = 0 then .int 0 else .null := by decide +kernel
theorem kk_84 : kd 84 = 2 := by decide +kernel
theorem sv_84 : isSv 84 := by unfold isSv; decide
theorem rm_C_init_S_init_84_2910 : RMok I_S_init I_C_init 84 2910 := ⟨⟨by decide, by decide⟩, by decide, by decide⟩
theorem hd_2_94 : ∀ j, j < 13 → defaultValue (tyX2 j) = if tg 94 j = 0 then .int 0 else .null := by decide +kernel
theorem kk_94 : kd 94 = 2 := by decide +kernel
theorem sv_94 : isSv 94 := by unfold isSv; decide
theorem rm_C_init_S_init_94_3103 : RMok I_S_init I_C_init 94 3103 := ⟨⟨by decide, by decide⟩, by decide, by decide⟩
theorem hd_2_104 : ∀ j, j < 13 → defaultValue (tyX2 j) = if tg 104 j = 0 then .int 0 else .null := by decide +kernel
theorem kk_104 : kd 104 = 2 := by decide +kernel
theorem sv_104 : isSv 104 := by unfold isSv; decide
theorem rm_C_init_S_init_104_3296 : RMok I_S_init I_C_init 104 3296 := ⟨⟨by decide, by decide⟩, by decide, by decide⟩
theorem fl_C_60 : FL RX4 60 4 13 := ⟨_, _, _, _, ck_4, by decide, tb_in (i := 433) (by decide +kernel) (by decide +kernel)⟩
theorem hd_2_114 : ∀ j, j < 13 → defaultValue (tyX2 j) = if tg 114 j = 0 then .int 0 else .null := by decide +kernel
theorem kk_114 : kd 114 = 2 := by decide +kernel
theorem sv_114 : isSv 114 := by unfold isSv; decide
theorem rm_C_init_S_init_114_3489 : RMok I_S_init I_C_init 114 3489 := ⟨⟨by decide, by decide⟩, by decide, by decide⟩
theorem hd_2_124 : ∀ j, j < 13 → defaultValue (tyX2 j) = if tg 124 j = 0 then .int 0 else .null := by decide +kernel
theorem kk_124 : kd 124 = 2 := by decide +kernel
theorem sv_124 : isSv 124 := by unfold isSv; decide
theorem rm_C_init_S_init_124_3682 : RMok I_S_init I_C_init 124 3682 := ⟨⟨by decide, by decide⟩, by decide, by decide⟩
theorem ml_C_69 : Cond.methodLink RX4 69 yJ0_length_8abf5 ∈ TB := tb_in (i := 220) (by decide +kernel) (by decide +kernel)
theorem rm_C_init_U_length_133_3862 : RMok I_U_length I_C_init 133 3862 := ⟨⟨by decide, by decide⟩, by decide, by decide⟩
theorem ml_C_75 : Cond.methodLink RX4 75 yJ0_charAt_5068e ∈ TB := tb_in (i := 230) (by decide +kernel) (by decide +kernel)
theorem rm_C_init_U_charAt_133_3862 : RMok I_U_charAt I_C_init 133 3862 := ⟨⟨by decide, by decide⟩, by decide, by decide⟩
theorem rm_C_init_I_begin_133_3862 : RMok I_I_begin I_C_init 133 3862 := ⟨⟨by decide, by decide⟩, by decide, by decide⟩
theorem rm_C_init_I_readsHead_133_3862 : RMok I_I_readsHead I_C_init 133 3862 := ⟨⟨by decide, by decide⟩, by decide, by decide⟩
theorem rm_C_init_I_readsCommands_133_3862 : RMok I_I_readsCommands I_C_init 133 3862 := ⟨⟨by decide, by decide⟩, by decide, by decide⟩
theorem rm_C_init_S_copyFrom_133_3862 : RMok I_S_copyFrom I_C_init 133 3862 := ⟨⟨by decide, by decide⟩, by decide, by decide⟩
theorem ml_A_3 : Cond.methodLink RJ5 3 (⟨"java/lang/Object", "<init>", "()V"⟩ : MethodName) ∈ TB := tb_in (i := 1034) (by decide +kernel) (by decide +kernel)
theorem ol_A_3 : Cond.methodLink RJ5 3 Lib.objectInit ∈ TB := tb_in (i := 1034) (by decide +kernel) (by decide +kernel)
theorem gs_A_18 : Cond.fieldLink RJ5 18 "java/lang/String" "COMPACT_STRINGS" "Z" ∈ TB := tb_in (i := 1035) (by decide +kernel) (by decide +kernel)
theorem kk_135 : kd 135 = 11 := by decide +kernel
theorem ll_135 : ln 135 = 16 := by decide +kernel
theorem ck_5 : CK 5 RJ4 TJ4 4 tyJ4 := ⟨rfl, by decide, by decide, uws_in [1017, 1019, 1021, 1023] (by decide +kernel), tyJ4_ok, nmJ4⟩
theorem fw_A_15 : FW RJ5 15 5 0 (.array .byte) := ⟨_, _, _, _, ck_5, by decide, tb_in (i := 1043) (by decide +kernel) (by decide +kernel), rfl, by decide +kernel⟩
theorem kk_134 : kd 134 = 5 := by decide +kernel
theorem tt_134_0 : tg 134 0 = 136 := by decide +kernel
theorem fw_A_22 : FW RJ5 22 5 1 .byte := ⟨_, _, _, _, ck_5, by decide, tb_in (i := 1044) (by decide +kernel) (by decide +kernel), rfl, by decide +kernel⟩
theorem tt_134_1 : tg 134 1 = 0 := by decide +kernel
theorem bp_16 : (Int8.ofInt 16).toInt32 = 16 := by decide
theorem md_A_init : MDi I_A_init 1 := ⟨tb_in (i := 1032) (by decide +kernel) (by decide +kernel), rfl, rfl, rfl, ⟨tb_in (i := 41) (by decide +kernel) (by decide +kernel), tb_in (i := 1033) (by decide +kernel) (by decide +kernel), ⟨by decide, by decide, by decide +kernel⟩⟩⟩
theorem ml_B_1 : Cond.methodLink RJ4 1 yJ5_init_d00df ∈ TB := tb_in (i := 1031) (by decide +kernel) (by decide +kernel)
theorem rm_B_init_A_init : RMok I_A_init I_B_init 0 0 := ⟨⟨by decide, by decide⟩, by decide, by decide⟩
theorem fl_A_15 : FL RJ5 15 5 0 := ⟨_, _, _, _, ck_5, by decide, tb_in (i := 1043) (by decide +kernel) (by decide +kernel)⟩
theorem fl_A_22 : FL RJ5 22 5 1 := ⟨_, _, _, _, ck_5, by decide, tb_in (i := 1044) (by decide +kernel) (by decide +kernel)⟩
theorem ml_A_40 : Cond.methodLink RJ5 40 yJ0_coder_7d493 ∈ TB := tb_in (i := 1127) (by decide +kernel) (by decide +kernel)
theorem rm_A_inflateIfNeededFor_U_coder : RMok I_U_coder I_A_inflateIfNeededFor 0 0 := ⟨⟨by decide, by decide⟩, by decide, by decide⟩
theorem mlx_U_335 : Cond.methodLink RJ0 335 yJ0_coder_7d493 ∈ TB := tb_in (i := 224) (by decide +kernel) (by decide +kernel)
theorem rm_U_getBytes_U_coder : RMok I_U_coder I_U_getBytes 0 0 := ⟨⟨by decide, by decide⟩, by decide, by decide⟩
theorem mlx_U_212 : Cond.methodLink RJ0 212 (⟨"java/lang/System", "arraycopy", "(Ljava/lang/Object;ILjava/lang/Object;II)V"⟩ : MethodName) ∈ TB := tb_in (i := 1151) (by decide +kernel) (by decide +kernel)
theorem nat_copy : Cond.native arraycopyName ∈ TB := tb_in (i := 1097) (by decide +kernel) (by decide +kernel)
theorem sta_copy : Cond.static arraycopyName ∈ TB := tb_in (i := 1096) (by decide +kernel) (by decide +kernel)
theorem ini_sys : Cond.initialized "java/lang/System" ∈ TB := tb_in (i := 45) (by decide +kernel) (by decide +kernel)
theorem ml_A_397 : Cond.methodLink RJ5 397 yJ5_inflateIfNeededFor_a7421 ∈ TB := tb_in (i := 1123) (by decide +kernel) (by decide +kernel)
theorem rm_A_putStringAt_A_inflateIfNeededFor : RMok I_A_inflateIfNeededFor I_A_putStringAt 0 0 := ⟨⟨by decide, by decide⟩, by decide, by decide⟩
theorem mu_A_inflateIfNeededFor : MDu yJ5_inflateIfNeededFor_a7421 I_A_inflateIfNeededFor "java/lang/StringBuilder" "java/lang/AbstractStringBuilder" 1 := ⟨tb_in (i := 1252) (by decide +kernel) (by decide +kernel), tb_in (i := 2) (by decide +kernel) (by decide +kernel), tb_in (i := 1125) (by decide +kernel) (by decide +kernel), rfl, tb_in (i := 41) (by decide +kernel) (by decide +kernel), tb_in (i := 1126) (by decide +kernel) (by decide +kernel), ⟨by decide, by decide, by decide +kernel⟩, Or.inl rfl⟩
theorem md_U_getBytes : MDv I_U_getBytes 3 := ⟨tb_in (i := 1148) (by decide +kernel) (by decide +kernel), tb_in (i := 1149) (by decide +kernel) (by decide +kernel), rfl, ⟨tb_in (i := 36) (by decide +kernel) (by decide +kernel), tb_in (i := 1150) (by decide +kernel) (by decide +kernel), ⟨by decide, by decide, by decide +kernel⟩⟩⟩
theorem ml_A_399 : Cond.methodLink RJ5 399 yJ0_getBytes_840e7 ∈ TB := tb_in (i := 1147) (by decide +kernel) (by decide +kernel)
theorem rm_A_putStringAt_U_getBytes : RMok I_U_getBytes I_A_putStringAt 0 0 := ⟨⟨by decide, by decide⟩, by decide, by decide⟩
theorem ml_A_32 : Cond.methodLink RJ5 32 yJ0_length_8abf5 ∈ TB := tb_in (i := 1118) (by decide +kernel) (by decide +kernel)
theorem rm_A_append_U_length : RMok I_U_length I_A_append 0 0 := ⟨⟨by decide, by decide⟩, by decide, by decide⟩
theorem fl_A_79 : FL RJ5 79 5 3 := ⟨_, _, _, _, ck_5, by decide, tb_in (i := 1046) (by decide +kernel) (by decide +kernel)⟩
theorem tt_134_3 : tg 134 3 = 0 := by decide +kernel
theorem ml_A_100 : Cond.methodLink RJ5 100 yJ5_ensureCapacityInternal_d00df ∈ TB := tb_in (i := 1067) (by decide +kernel) (by decide +kernel)
theorem rm_A_append_A_ensureCapacityInternal : RMok I_A_ensureCapacityInternal I_A_append 0 0 := ⟨⟨by decide, by decide⟩, by decide, by decide⟩
theorem mu_A_ensureCapacityInternal : MDu yJ5_ensureCapacityInternal_d00df I_A_ensureCapacityInternal "java/lang/StringBuilder" "java/lang/AbstractStringBuilder" 1 := ⟨tb_in (i := 1249) (by decide +kernel) (by decide +kernel), tb_in (i := 0) (by decide +kernel) (by decide +kernel), tb_in (i := 1069) (by decide +kernel) (by decide +kernel), rfl, tb_in (i := 41) (by decide +kernel) (by decide +kernel), tb_in (i := 1070) (by decide +kernel) (by decide +kernel), ⟨by decide, by decide, by decide +kernel⟩, Or.inl rfl⟩
theorem ml_A_208 : Cond.methodLink RJ5 208 yJ5_putStringAt_47b60 ∈ TB := tb_in (i := 1119) (by decide +kernel) (by decide +kernel)
theorem rm_A_append_A_putStringAt : RMok I_A_putStringAt I_A_append 0 0 := ⟨⟨by decide, by decide⟩, by decide, by decide⟩
theorem mu_A_putStringAt : MDu yJ5_putStringAt_47b60 I_A_putStringAt "java/lang/StringBuilder" "java/lang/AbstractStringBuilder" 2 := ⟨tb_in (i := 1251) (by decide +kernel) (by decide +kernel), tb_in (i := 1) (by decide +kernel) (by decide +kernel), tb_in (i := 1121) (by decide +kernel) (by decide +kernel), rfl, tb_in (i := 41) (by decide +kernel) (by decide +kernel), tb_in (i := 1122) (by decide +kernel) (by decide +kernel), ⟨by decide, by decide, by decide +kernel⟩, Or.inl rfl⟩
theorem fw_A_79 : FW RJ5 79 5 3 .int := ⟨_, _, _, _, ck_5, by decide, tb_in (i := 1046) (by decide +kernel) (by decide +kernel), rfl, by decide +kernel⟩
theorem ml_B_29 : Cond.methodLink RJ4 29 yJ5_append_cf1ce ∈ TB := tb_in (i := 1060) (by decide +kernel) (by decide +kernel)
theorem rm_B_append_A_append : RMok I_A_append I_B_append 0 0 := ⟨⟨by decide, by decide⟩, by decide, by decide⟩
theorem mp_A_append : MDp RJ4 I_A_append 1 := ⟨tb_in (i := 1247) (by decide +kernel) (by decide +kernel), tb_in (i := 1055) (by decide +kernel) (by decide +kernel), tb_in (i := 1061) (by decide +kernel) (by decide +kernel), rfl, tb_in (i := 41) (by decide +kernel) (by decide +kernel), tb_in (i := 1062) (by decide +kernel) (by decide +kernel), by decide, by decide +kernel⟩
theorem bp_m10 : (Int8.ofInt (-10)).toInt32 = -10 := by decide
theorem bp_m100 : (Int8.ofInt (-100)).toInt32 = -100 := by decide
theorem inc_m1 (x : Int32) : x + Int32.ofInt (-1) = x + -1 := rfl
theorem gs_N_83 : Cond.fieldLink RJ6 83 "java/lang/Integer" "DigitOnes" "[B" ∈ TB := tb_in (i := 1166) (by decide +kernel) (by decide +kernel)
theorem bp_m9 : (Int8.ofInt (-9)).toInt32 = -9 := by decide
theorem gs_N_87 : Cond.fieldLink RJ6 87 "java/lang/Integer" "DigitTens" "[B" ∈ TB := tb_in (i := 1168) (by decide +kernel) (by decide +kernel)
theorem bp_45 : (Int8.ofInt 45).toInt32 = 45 := by decide
theorem md_N_stringSize : MDs I_N_stringSize 1 := ⟨tb_in (i := 1161) (by decide +kernel) (by decide +kernel), rfl, ⟨tb_in (i := 46) (by decide +kernel) (by decide +kernel), tb_in (i := 1162) (by decide +kernel) (by decide +kernel), ⟨by decide, by decide, by decide +kernel⟩⟩⟩
theorem ml_A_245 : Cond.methodLink RJ5 245 yJ6_stringSize_0f7a4 ∈ TB := tb_in (i := 1160) (by decide +kernel) (by decide +kernel)
theorem rm_A_appendI_N_stringSize : RMok I_N_stringSize I_A_appendI 0 0 := ⟨⟨by decide, by decide⟩, by decide, by decide⟩
theorem rm_A_appendI_A_ensureCapacityInternal : RMok I_A_ensureCapacityInternal I_A_appendI 0 0 := ⟨⟨by decide, by decide⟩, by decide, by decide⟩
theorem ml_A_83 : Cond.methodLink RJ5 83 yJ5_isLatin1_aae02 ∈ TB := tb_in (i := 1098) (by decide +kernel) (by decide +kernel)
theorem rm_A_appendI_A_isLatin1 : RMok I_A_isLatin1 I_A_appendI 0 0 := ⟨⟨by decide, by decide⟩, by decide, by decide⟩
theorem mu_A_isLatin1 : MDu yJ5_isLatin1_aae02 I_A_isLatin1 "java/lang/StringBuilder" "java/lang/AbstractStringBuilder" 0 := ⟨tb_in (i := 1100) (by decide +kernel) (by decide +kernel), tb_in (i := 1101) (by decide +kernel) (by decide +kernel), tb_in (i := 1099) (by decide +kernel) (by decide +kernel), rfl, tb_in (i := 41) (by decide +kernel) (by decide +kernel), tb_in (i := 1102) (by decide +kernel) (by decide +kernel), ⟨by decide, by decide, by decide +kernel⟩, Or.inl rfl⟩
theorem md_N_getChars : MDs I_N_getChars 3 := ⟨tb_in (i := 1164) (by decide +kernel) (by decide +kernel), rfl, ⟨tb_in (i := 46) (by decide +kernel) (by decide +kernel), tb_in (i := 1165) (by decide +kernel) (by decide +kernel), ⟨by decide, by decide, by decide +kernel⟩⟩⟩
theorem ml_A_248 : Cond.methodLink RJ5 248 yJ6_getChars_ba4f3 ∈ TB := tb_in (i := 1163) (by decide +kernel) (by decide +kernel)
theorem rm_A_appendI_N_getChars : RMok I_N_getChars I_A_appendI 0 0 := ⟨⟨by decide, by decide⟩, by decide, by decide⟩
theorem ml_B_53 : Cond.methodLink RJ4 53 yJ5_append_c97b9 ∈ TB := tb_in (i := 1157) (by decide +kernel) (by decide +kernel)
theorem rm_B_appendI_A_appendI : RMok I_A_appendI I_B_appendI 0 0 := ⟨⟨by decide, by decide⟩, by decide, by decide⟩
theorem mp_A_appendI : MDp RJ4 I_A_appendI 1 := ⟨tb_in (i := 1254) (by decide +kernel) (by decide +kernel), tb_in (i := 1055) (by decide +kernel) (by decide +kernel), tb_in (i := 1158) (by decide +kernel) (by decide +kernel), rfl, tb_in (i := 41) (by decide +kernel) (by decide +kernel), tb_in (i := 1159) (by decide +kernel) (by decide +kernel), by decide, by decide +kernel⟩
theorem ml_B_343 : Cond.methodLink RJ4 343 yJ5_length_8abf5 ∈ TB := tb_in (i := 1202) (by decide +kernel) (by decide +kernel)
theorem rm_B_length_A_length : RMok I_A_length I_B_length 0 0 := ⟨⟨by decide, by decide⟩, by decide, by decide⟩
theorem mp_A_length : MDp RJ4 I_A_length 0 := ⟨tb_in (i := 1198) (by decide +kernel) (by decide +kernel), tb_in (i := 1055) (by decide +kernel) (by decide +kernel), tb_in (i := 1197) (by decide +kernel) (by decide +kernel), rfl, tb_in (i := 41) (by decide +kernel) (by decide +kernel), tb_in (i := 1203) (by decide +kernel) (by decide +kernel), by decide, by decide +kernel⟩
theorem md_R_checkLength : MDs I_R_checkLength 2 := ⟨tb_in (i := 1212) (by decide +kernel) (by decide +kernel), rfl, ⟨tb_in (i := 44) (by decide +kernel) (by decide +kernel), tb_in (i := 1213) (by decide +kernel) (by decide +kernel), ⟨by decide, by decide, by decide +kernel⟩⟩⟩
theorem ml_R_343 : Cond.methodLink RJ7 343 yJ7_checkLength_df160 ∈ TB := tb_in (i := 1211) (by decide +kernel) (by decide +kernel)
theorem rm_R_copyOfRangeByte_R_checkLength : RMok I_R_checkLength I_R_copyOfRangeByte 0 0 := ⟨⟨by decide, by decide⟩, by decide, by decide⟩
theorem kk_137 : kd 137 = 15 := by decide +kernel
theorem ml_R_304 : Cond.methodLink RJ7 304 yJ9_min_7cf53 ∈ TB := tb_in (i := 1094) (by decide +kernel) (by decide +kernel)
theorem ml_R_150 : Cond.methodLink RJ7 150 (⟨"java/lang/System", "arraycopy", "(Ljava/lang/Object;ILjava/lang/Object;II)V"⟩ : MethodName) ∈ TB := tb_in (i := 1095) (by decide +kernel) (by decide +kernel)
theorem md_R_copyOfRangeByte : MDs I_R_copyOfRangeByte 3 := ⟨tb_in (i := 1209) (by decide +kernel) (by decide +kernel), rfl, ⟨tb_in (i := 44) (by decide +kernel) (by decide +kernel), tb_in (i := 1210) (by decide +kernel) (by decide +kernel), ⟨by decide, by decide, by decide +kernel⟩⟩⟩
theorem ml_R_339 : Cond.methodLink RJ7 339 yJ7_copyOfRangeByte_39247 ∈ TB := tb_in (i := 1208) (by decide +kernel) (by decide +kernel)
theorem rm_R_copyOfRange_R_copyOfRangeByte : RMok I_R_copyOfRangeByte I_R_copyOfRange 0 0 := ⟨⟨by decide, by decide⟩, by decide, by decide⟩
theorem mlx_U_1 : Cond.methodLink RJ0 1 (⟨"java/lang/Object", "<init>", "()V"⟩ : MethodName) ∈ TB := tb_in (i := 1190) (by decide +kernel) (by decide +kernel)
theorem ol_U_1 : Cond.methodLink RJ0 1 Lib.objectInit ∈ TB := tb_in (i := 1190) (by decide +kernel) (by decide +kernel)
theorem mlx_U_552 : Cond.methodLink RJ0 552 yJ5_getValue_6d5f1 ∈ TB := tb_in (i := 1191) (by decide +kernel) (by decide +kernel)
theorem rm_X_init2_A_getValue : RMok I_A_getValue I_X_init2 0 0 := ⟨⟨by decide, by decide⟩, by decide, by decide⟩
theorem mu_A_getValue : MDu yJ5_getValue_6d5f1 I_A_getValue "java/lang/StringBuilder" "java/lang/AbstractStringBuilder" 0 := ⟨tb_in (i := 1193) (by decide +kernel) (by decide +kernel), tb_in (i := 1194) (by decide +kernel) (by decide +kernel), tb_in (i := 1192) (by decide +kernel) (by decide +kernel), rfl, tb_in (i := 41) (by decide +kernel) (by decide +kernel), tb_in (i := 1195) (by decide +kernel) (by decide +kernel), ⟨by decide, by decide, by decide +kernel⟩, Or.inl rfl⟩
theorem mlx_U_549 : Cond.methodLink RJ0 549 yJ5_length_8abf5 ∈ TB := tb_in (i := 1196) (by decide +kernel) (by decide +kernel)
theorem rm_X_init2_B_length : RMok I_B_length I_X_init2 0 0 := ⟨⟨by decide, by decide⟩, by decide, by decide⟩
theorem mu_B_length : MDu yJ5_length_8abf5 I_B_length "java/lang/StringBuilder" "java/lang/AbstractStringBuilder" 0 := ⟨tb_in (i := 1198) (by decide +kernel) (by decide +kernel), tb_in (i := 1199) (by decide +kernel) (by decide +kernel), tb_in (i := 1200) (by decide +kernel) (by decide +kernel), rfl, tb_in (i := 42) (by decide +kernel) (by decide +kernel), tb_in (i := 1201) (by decide +kernel) (by decide +kernel), ⟨by decide, by decide, by decide +kernel⟩, Or.inr ⟨tb_in (i := 1197) (by decide +kernel) (by decide +kernel), cJ5_length_8abf5, 1, some .int, tb_in (i := 1203) (by decide +kernel) (by decide +kernel)⟩⟩
theorem mlx_U_1047 : Cond.methodLink RJ0 1047 yJ5_isLatin1_aae02 ∈ TB := tb_in (i := 1204) (by decide +kernel) (by decide +kernel)
theorem rm_X_init2_A_isLatin1 : RMok I_A_isLatin1 I_X_init2 0 0 := ⟨⟨by decide, by decide⟩, by decide, by decide⟩
theorem ck_9 : CK 9 RJ0 TJ0 4 tyJ0 := ⟨rfl, by decide, by decide, uws_in [1204, 1206, 1208, 1210] (by decide +kernel), tyJ0_ok, nmJ0⟩
theorem ff_U_15 : FF RJ0 15 9 1 .byte := ⟨_, _, _, _, ck_9, by decide, tb_in (i := 1233) (by decide +kernel) (by decide +kernel), rfl, by decide +kernel, rfl⟩
theorem kk_136 : kd 136 = 9 := by decide +kernel
theorem tt_136_1 : tg 136 1 = 0 := by decide +kernel
theorem md_R_copyOfRange : MDs I_R_copyOfRange 3 := ⟨tb_in (i := 1206) (by decide +kernel) (by decide +kernel), rfl, ⟨tb_in (i := 44) (by decide +kernel) (by decide +kernel), tb_in (i := 1207) (by decide +kernel) (by decide +kernel), ⟨by decide, by decide, by decide +kernel⟩⟩⟩
theorem mlx_U_54 : Cond.methodLink RJ0 54 yJ7_copyOfRange_39247 ∈ TB := tb_in (i := 1205) (by decide +kernel) (by decide +kernel)
theorem rm_X_init2_R_copyOfRange : RMok I_R_copyOfRange I_X_init2 0 0 := ⟨⟨by decide, by decide⟩, by decide, by decide⟩
theorem ff_U_9 : FF RJ0 9 9 0 (.array .byte) := ⟨_, _, _, _, ck_9, by decide, tb_in (i := 1232) (by decide +kernel) (by decide +kernel), rfl, by decide +kernel, rfl⟩
theorem tt_136_0 : tg 136 0 = 138 := by decide +kernel
theorem md_X_init2 : MDi I_X_init2 2 := ⟨tb_in (i := 1188) (by decide +kernel) (by decide +kernel), rfl, rfl, rfl, ⟨tb_in (i := 36) (by decide +kernel) (by decide +kernel), tb_in (i := 1189) (by decide +kernel) (by decide +kernel), ⟨by decide, by decide, by decide +kernel⟩⟩⟩
theorem mlx_U_489 : Cond.methodLink RJ0 489 yJ0_init_db425 ∈ TB := tb_in (i := 1187) (by decide +kernel) (by decide +kernel)
theorem rm_X_init_X_init2 : RMok I_X_init2 I_X_init 0 0 := ⟨⟨by decide, by decide⟩, by decide, by decide⟩
theorem cl_B_18 : Cond.classLink RJ4 18 RJ0 ∈ TB := tb_in (i := 1182) (by decide +kernel) (by decide +kernel)
theorem is_9 : Cond.instantiable RJ0 4 ∈ TB := tb_in (i := 1183) (by decide +kernel) (by decide +kernel)
theorem ic_X9 : Cond.initialized RJ0 ∈ TB := tb_in (i := 36) (by decide +kernel) (by decide +kernel)
theorem hd_9_136 : ∀ j, j < 4 → defaultValue (tyJ0 j) = if tg 136 j = 0 then .int 0 else .null := by decide +kernel
theorem md_X_init : MDi I_X_init 1 := ⟨tb_in (i := 1185) (by decide +kernel) (by decide +kernel), rfl, rfl, rfl, ⟨tb_in (i := 36) (by decide +kernel) (by decide +kernel), tb_in (i := 1186) (by decide +kernel) (by decide +kernel), ⟨by decide, by decide, by decide +kernel⟩⟩⟩
theorem ml_B_137 : Cond.methodLink RJ4 137 yJ0_init_81219 ∈ TB := tb_in (i := 1184) (by decide +kernel) (by decide +kernel)
theorem rm_B_toString_X_init_1_4 : RMok I_X_init I_B_toString 1 4 := ⟨⟨by decide, by decide⟩, by decide, by decide⟩
theorem gs_U_38 : Cond.fieldLink RJ0 38 "java/lang/String" "COMPACT_STRINGS" "Z" ∈ TB := tb_in (i := 228) (by decide +kernel) (by decide +kernel)
theorem flx_U_15 : FL RJ0 15 9 1 := ⟨_, _, _, _, ck_9, by decide, tb_in (i := 1233) (by decide +kernel) (by decide +kernel)⟩
theorem flx_U_9 : FL RJ0 9 9 0 := ⟨_, _, _, _, ck_9, by decide, tb_in (i := 1232) (by decide +kernel) (by decide +kernel)⟩
theorem md_X_coder : MDv I_X_coder 0 := ⟨tb_in (i := 225) (by decide +kernel) (by decide +kernel), tb_in (i := 226) (by decide +kernel) (by decide +kernel), rfl, ⟨tb_in (i := 36) (by decide +kernel) (by decide +kernel), tb_in (i := 227) (by decide +kernel) (by decide +kernel), ⟨by decide, by decide, by decide +kernel⟩⟩⟩
theorem rm_X_length_X_coder : RMok I_X_coder I_X_length 0 0 := ⟨⟨by decide, by decide⟩, by decide, by decide⟩
theorem rc_X_coder : RC 9 I_X_coder := ⟨by decide, _, _, rfl⟩
theorem mlx_V_9 : Cond.methodLink RJ1 9 yJ0_checkIndex_df160 ∈ TB := tb_in (i := 241) (by decide +kernel) (by decide +kernel)
theorem rm_Y_charAt_U_checkIndex : RMok I_U_checkIndex I_Y_charAt 0 0 := ⟨⟨by decide, by decide⟩, by decide, by decide⟩
theorem sp_255 : (Int16.ofInt 255).toInt32 = 255 := by decide
theorem md_X_isLatin1 : MDv I_X_isLatin1 0 := ⟨tb_in (i := 235) (by decide +kernel) (by decide +kernel), tb_in (i := 236) (by decide +kernel) (by decide +kernel), rfl, ⟨tb_in (i := 36) (by decide +kernel) (by decide +kernel), tb_in (i := 237) (by decide +kernel) (by decide +kernel), ⟨by decide, by decide, by decide +kernel⟩⟩⟩
theorem mlx_U_492 : Cond.methodLink RJ0 492 yJ0_isLatin1_aae02 ∈ TB := tb_in (i := 234) (by decide +kernel) (by decide +kernel)
theorem rm_X_charAt_X_isLatin1 : RMok I_X_isLatin1 I_X_charAt 0 0 := ⟨⟨by decide, by decide⟩, by decide, by decide⟩
theorem rc_X_isLatin1 : RC 9 I_X_isLatin1 := ⟨by decide, _, _, rfl⟩
theorem md_Y_charAt : MDs I_Y_charAt 2 := ⟨tb_in (i := 239) (by decide +kernel) (by decide +kernel), rfl, ⟨tb_in (i := 37) (by decide +kernel) (by decide +kernel), tb_in (i := 240) (by decide +kernel) (by decide +kernel), ⟨by decide, by decide, by decide +kernel⟩⟩⟩
theorem mlx_U_495 : Cond.methodLink RJ0 495 yJ1_charAt_3b067 ∈ TB := tb_in (i := 238) (by decide +kernel) (by decide +kernel)
theorem rm_X_charAt_Y_charAt : RMok I_Y_charAt I_X_charAt 0 0 := ⟨⟨by decide, by decide⟩, by decide, by decide⟩
theorem md_C_truncateInput : MDv I_C_truncateInput 1 := ⟨tb_in (i := 655) (by decide +kernel) (by decide +kernel), tb_in (i := 656) (by decide +kernel) (by decide +kernel), rfl, ⟨tb_in (i := 31) (by decide +kernel) (by decide +kernel), tb_in (i := 657) (by decide +kernel) (by decide +kernel), ⟨by decide, by decide, by decide +kernel⟩⟩⟩
theorem ml_W_7 : Cond.methodLink RL 7 yX4_truncateInput ∈ TB := tb_in (i := 654) (by decide +kernel) (by decide +kernel)
theorem rm_W_truncateInput_C_truncateInput : RMok I_C_truncateInput I_W_truncateInput 0 0 := ⟨⟨by decide, by decide⟩, by decide, by decide⟩
theorem rc_C_truncateInput : RC 4 I_C_truncateInput := ⟨by decide, _, _, rfl⟩
theorem cn_W_15 : Cond.constant RL 15 (-1000000018) ∈ TB := tb_in (i := 674) (by decide +kernel) (by decide +kernel)
theorem cl_W_13 : Cond.classLink RL 13 "java/lang/IllegalArgumentException" ∈ TB := tb_in (i := 653) (by decide +kernel) (by decide +kernel)
theorem ca_1 : Cond.castable "java/lang/IllegalArgumentException" "java/lang/IllegalArgumentException" ∈ lx_tbl := List.mem_of_getElem? (i := 660) (by decide +kernel)
theorem md_C_addLeg : MDv I_C_addLeg 5 := ⟨tb_in (i := 915) (by decide +kernel) (by decide +kernel), tb_in (i := 916) (by decide +kernel) (by decide +kernel), rfl, ⟨tb_in (i := 31) (by decide +kernel) (by decide +kernel), tb_in (i := 917) (by decide +kernel) (by decide +kernel), ⟨by decide, by decide, by decide +kernel⟩⟩⟩
theorem ml_W_16 : Cond.methodLink RL 16 yX4_addLeg ∈ TB := tb_in (i := 914) (by decide +kernel) (by decide +kernel)
theorem rm_W_addLeg_C_addLeg : RMok I_C_addLeg I_W_addLeg 0 0 := ⟨⟨by decide, by decide⟩, by decide, by decide⟩
theorem rc_C_addLeg : RC 4 I_C_addLeg := ⟨by decide, _, _, rfl⟩
theorem cn_W_22 : Cond.constant RL 22 (-1000000019) ∈ TB := tb_in (i := 646) (by decide +kernel) (by decide +kernel)
theorem cl_W_20 : Cond.classLink RL 20 "java/lang/IllegalStateException" ∈ TB := tb_in (i := 574) (by decide +kernel) (by decide +kernel)
theorem ca_2 : Cond.castable "java/lang/IllegalStateException" "java/lang/IllegalStateException" ∈ lx_tbl := List.mem_of_getElem? (i := 581) (by decide +kernel)
theorem md_C_addBog : MDv I_C_addBog 2 := ⟨tb_in (i := 942) (by decide +kernel) (by decide +kernel), tb_in (i := 943) (by decide +kernel) (by decide +kernel), rfl, ⟨tb_in (i := 31) (by decide +kernel) (by decide +kernel), tb_in (i := 944) (by decide +kernel) (by decide +kernel), ⟨by decide, by decide, by decide +kernel⟩⟩⟩
theorem ml_W_23 : Cond.methodLink RL 23 yX4_addBog ∈ TB := tb_in (i := 941) (by decide +kernel) (by decide +kernel)
theorem rm_W_addBog_C_addBog : RMok I_C_addBog I_W_addBog 0 0 := ⟨⟨by decide, by decide⟩, by decide, by decide⟩
theorem rc_C_addBog : RC 4 I_C_addBog := ⟨by decide, _, _, rfl⟩
theorem md_C_dropPin : MDv I_C_dropPin 1 := ⟨tb_in (i := 955) (by decide +kernel) (by decide +kernel), tb_in (i := 956) (by decide +kernel) (by decide +kernel), rfl, ⟨tb_in (i := 31) (by decide +kernel) (by decide +kernel), tb_in (i := 957) (by decide +kernel) (by decide +kernel), ⟨by decide, by decide, by decide +kernel⟩⟩⟩
theorem ml_W_27 : Cond.methodLink RL 27 yX4_dropPin ∈ TB := tb_in (i := 954) (by decide +kernel) (by decide +kernel)
theorem rm_W_dropPin_C_dropPin : RMok I_C_dropPin I_W_dropPin 0 0 := ⟨⟨by decide, by decide⟩, by decide, by decide⟩
theorem rc_C_dropPin : RC 4 I_C_dropPin := ⟨by decide, _, _, rfl⟩
theorem cn_W_32 : Cond.constant RL 32 (-1000000017) ∈ TB := tb_in (i := 727) (by decide +kernel) (by decide +kernel)
theorem cl_W_30 : Cond.classLink RL 30 "java/lang/IndexOutOfBoundsException" ∈ TB := tb_in (i := 702) (by decide +kernel) (by decide +kernel)
theorem ca_3 : Cond.castable "java/lang/IndexOutOfBoundsException" "java/lang/IndexOutOfBoundsException" ∈ lx_tbl := List.mem_of_getElem? (i := 713) (by decide +kernel)
theorem md_C_findPin : MDv I_C_findPin 1 := ⟨tb_in (i := 975) (by decide +kernel) (by decide +kernel), tb_in (i := 976) (by decide +kernel) (by decide +kernel), rfl, ⟨tb_in (i := 31) (by decide +kernel) (by decide +kernel), tb_in (i := 977) (by decide +kernel) (by decide +kernel), ⟨by decide, by decide, by decide +kernel⟩⟩⟩
theorem ml_W_33 : Cond.methodLink RL 33 yX4_findPin ∈ TB := tb_in (i := 974) (by decide +kernel) (by decide +kernel)
theorem rm_W_findPin_C_findPin : RMok I_C_findPin I_W_findPin 0 0 := ⟨⟨by decide, by decide⟩, by decide, by decide⟩
theorem rc_C_findPin : RC 4 I_C_findPin := ⟨by decide, _, _, rfl⟩
theorem md_C_removeLast : MDv I_C_removeLast 0 := ⟨tb_in (i := 1021) (by decide +kernel) (by decide +kernel), tb_in (i := 1022) (by decide +kernel) (by decide +kernel), rfl, ⟨tb_in (i := 31) (by decide +kernel) (by decide +kernel), tb_in (i := 1023) (by decide +kernel) (by decide +kernel), ⟨by decide, by decide, by decide +kernel⟩⟩⟩
theorem ml_W_36 : Cond.methodLink RL 36 yX4_removeLast ∈ TB := tb_in (i := 1020) (by decide +kernel) (by decide +kernel)
theorem rm_W_removeLast_C_removeLast : RMok I_C_removeLast I_W_removeLast 0 0 := ⟨⟨by decide, by decide⟩, by decide, by decide⟩
theorem rc_C_removeLast : RC 4 I_C_removeLast := ⟨by decide, _, _, rfl⟩
theorem md_C_setWear : MDv I_C_setWear 1 := ⟨tb_in (i := 1013) (by decide +kernel) (by decide +kernel), tb_in (i := 1014) (by decide +kernel) (by decide +kernel), rfl, ⟨tb_in (i := 31) (by decide +kernel) (by decide +kernel), tb_in (i := 1015) (by decide +kernel) (by decide +kernel), ⟨by decide, by decide, by decide +kernel⟩⟩⟩
theorem ml_W_40 : Cond.methodLink RL 40 yX4_setWear ∈ TB := tb_in (i := 1012) (by decide +kernel) (by decide +kernel)
theorem rm_W_setWear_C_setWear : RMok I_C_setWear I_W_setWear 0 0 := ⟨⟨by decide, by decide⟩, by decide, by decide⟩
theorem rc_C_setWear : RC 4 I_C_setWear := ⟨by decide, _, _, rfl⟩
theorem md_C_setPace : MDv I_C_setPace 1 := ⟨tb_in (i := 1001) (by decide +kernel) (by decide +kernel), tb_in (i := 1002) (by decide +kernel) (by decide +kernel), rfl, ⟨tb_in (i := 31) (by decide +kernel) (by decide +kernel), tb_in (i := 1003) (by decide +kernel) (by decide +kernel), ⟨by decide, by decide, by decide +kernel⟩⟩⟩
theorem ml_W_43 : Cond.methodLink RL 43 yX4_setPace ∈ TB := tb_in (i := 1000) (by decide +kernel) (by decide +kernel)
theorem rm_W_setPace_C_setPace : RMok I_C_setPace I_W_setPace 0 0 := ⟨⟨by decide, by decide⟩, by decide, by decide⟩
theorem rc_C_setPace : RC 4 I_C_setPace := ⟨by decide, _, _, rfl⟩
theorem md_C_undo : MDv I_C_undo 0 := ⟨tb_in (i := 576) (by decide +kernel) (by decide +kernel), tb_in (i := 577) (by decide +kernel) (by decide +kernel), rfl, ⟨tb_in (i := 31) (by decide +kernel) (by decide +kernel), tb_in (i := 578) (by decide +kernel) (by decide +kernel), ⟨by decide, by decide, by decide +kernel⟩⟩⟩
theorem ml_W_46 : Cond.methodLink RL 46 yX4_undo ∈ TB := tb_in (i := 575) (by decide +kernel) (by decide +kernel)
theorem rm_W_undo_C_undo : RMok I_C_undo I_W_undo 0 0 := ⟨⟨by decide, by decide⟩, by decide, by decide⟩
theorem rc_C_undo : RC 4 I_C_undo := ⟨by decide, _, _, rfl⟩
theorem md_C_bearing : MDv I_C_bearing 1 := ⟨tb_in (i := 759) (by decide +kernel) (by decide +kernel), tb_in (i := 760) (by decide +kernel) (by decide +kernel), rfl, ⟨tb_in (i := 31) (by decide +kernel) (by decide +kernel), tb_in (i := 761) (by decide +kernel) (by decide +kernel), ⟨by decide, by decide, by decide +kernel⟩⟩⟩
theorem ml_W_49 : Cond.methodLink RL 49 yX4_bearing ∈ TB := tb_in (i := 758) (by decide +kernel) (by decide +kernel)
theorem rm_W_bearing_C_bearing : RMok I_C_bearing I_W_bearing 0 0 := ⟨⟨by decide, by decide⟩, by decide, by decide⟩
theorem rc_C_bearing : RC 4 I_C_bearing := ⟨by decide, _, _, rfl⟩
theorem md_C_pins : MDv I_C_pins 1 := ⟨tb_in (i := 789) (by decide +kernel) (by decide +kernel), tb_in (i := 790) (by decide +kernel) (by decide +kernel), rfl, ⟨tb_in (i := 31) (by decide +kernel) (by decide +kernel), tb_in (i := 791) (by decide +kernel) (by decide +kernel), ⟨by decide, by decide, by decide +kernel⟩⟩⟩
theorem ml_W_52 : Cond.methodLink RL 52 yX4_pins ∈ TB := tb_in (i := 788) (by decide +kernel) (by decide +kernel)
theorem rm_W_pins_C_pins : RMok I_C_pins I_W_pins 0 0 := ⟨⟨by decide, by decide⟩, by decide, by decide⟩
theorem rc_C_pins : RC 4 I_C_pins := ⟨by decide, _, _, rfl⟩
theorem md_C_droppedPins : MDv I_C_droppedPins 1 := ⟨tb_in (i := 819) (by decide +kernel) (by decide +kernel), tb_in (i := 820) (by decide +kernel) (by decide +kernel), rfl, ⟨tb_in (i := 31) (by decide +kernel) (by decide +kernel), tb_in (i := 821) (by decide +kernel) (by decide +kernel), ⟨by decide, by decide, by decide +kernel⟩⟩⟩
theorem ml_W_55 : Cond.methodLink RL 55 yX4_droppedPins ∈ TB := tb_in (i := 818) (by decide +kernel) (by decide +kernel)
theorem rm_W_droppedPins_C_droppedPins : RMok I_C_droppedPins I_W_droppedPins 0 0 := ⟨⟨by decide, by decide⟩, by decide, by decide⟩
theorem rc_C_droppedPins : RC 4 I_C_droppedPins := ⟨by decide, _, _, rfl⟩
theorem md_C_readLength : MDv I_C_readLength 1 := ⟨tb_in (i := 781) (by decide +kernel) (by decide +kernel), tb_in (i := 782) (by decide +kernel) (by decide +kernel), rfl, ⟨tb_in (i := 31) (by decide +kernel) (by decide +kernel), tb_in (i := 783) (by decide +kernel) (by decide +kernel), ⟨by decide, by decide, by decide +kernel⟩⟩⟩
theorem ml_W_58 : Cond.methodLink RL 58 yX4_readLength ∈ TB := tb_in (i := 780) (by decide +kernel) (by decide +kernel)
theorem rm_W_readLength_C_readLength : RMok I_C_readLength I_W_readLength 0 0 := ⟨⟨by decide, by decide⟩, by decide, by decide⟩
theorem rc_C_readLength : RC 4 I_C_readLength := ⟨by decide, _, _, rfl⟩
theorem md_C_slopeLength : MDv I_C_slopeLength 1 := ⟨tb_in (i := 766) (by decide +kernel) (by decide +kernel), tb_in (i := 767) (by decide +kernel) (by decide +kernel), rfl, ⟨tb_in (i := 31) (by decide +kernel) (by decide +kernel), tb_in (i := 768) (by decide +kernel) (by decide +kernel), ⟨by decide, by decide, by decide +kernel⟩⟩⟩
theorem ml_W_61 : Cond.methodLink RL 61 yX4_slopeLength ∈ TB := tb_in (i := 765) (by decide +kernel) (by decide +kernel)
theorem rm_W_slopeLength_C_slopeLength : RMok I_C_slopeLength I_W_slopeLength 0 0 := ⟨⟨by decide, by decide⟩, by decide, by decide⟩
theorem rc_C_slopeLength : RC 4 I_C_slopeLength := ⟨by decide, _, _, rfl⟩
theorem md_C_horizontalLength : MDv I_C_horizontalLength 1 := ⟨tb_in (i := 746) (by decide +kernel) (by decide +kernel), tb_in (i := 747) (by decide +kernel) (by decide +kernel), rfl, ⟨tb_in (i := 31) (by decide +kernel) (by decide +kernel), tb_in (i := 748) (by decide +kernel) (by decide +kernel), ⟨by decide, by decide, by decide +kernel⟩⟩⟩
theorem ml_W_64 : Cond.methodLink RL 64 yX4_horizontalLength ∈ TB := tb_in (i := 745) (by decide +kernel) (by decide +kernel)
theorem rm_W_horizontalLength_C_horizontalLength : RMok I_C_horizontalLength I_W_horizontalLength 0 0 := ⟨⟨by decide, by decide⟩, by decide, by decide⟩
theorem rc_C_horizontalLength : RC 4 I_C_horizontalLength := ⟨by decide, _, _, rfl⟩
theorem md_C_eastStep : MDv I_C_eastStep 1 := ⟨tb_in (i := 796) (by decide +kernel) (by decide +kernel), tb_in (i := 797) (by decide +kernel) (by decide +kernel), rfl, ⟨tb_in (i := 31) (by decide +kernel) (by decide +kernel), tb_in (i := 798) (by decide +kernel) (by decide +kernel), ⟨by decide, by decide, by decide +kernel⟩⟩⟩
theorem ml_W_67 : Cond.methodLink RL 67 yX4_eastStep ∈ TB := tb_in (i := 795) (by decide +kernel) (by decide +kernel)
theorem rm_W_eastStep_C_eastStep : RMok I_C_eastStep I_W_eastStep 0 0 := ⟨⟨by decide, by decide⟩, by decide, by decide⟩
theorem rc_C_eastStep : RC 4 I_C_eastStep := ⟨by decide, _, _, rfl⟩
theorem md_C_northStep : MDv I_C_northStep 1 := ⟨tb_in (i := 805) (by decide +kernel) (by decide +kernel), tb_in (i := 806) (by decide +kernel) (by decide +kernel), rfl, ⟨tb_in (i := 31) (by decide +kernel) (by decide +kernel), tb_in (i := 807) (by decide +kernel) (by decide +kernel), ⟨by decide, by decide, by decide +kernel⟩⟩⟩
theorem ml_W_70 : Cond.methodLink RL 70 yX4_northStep ∈ TB := tb_in (i := 804) (by decide +kernel) (by decide +kernel)
theorem rm_W_northStep_C_northStep : RMok I_C_northStep I_W_northStep 0 0 := ⟨⟨by decide, by decide⟩, by decide, by decide⟩
theorem rc_C_northStep : RC 4 I_C_northStep := ⟨by decide, _, _, rfl⟩
theorem md_C_tallies : MDv I_C_tallies 1 := ⟨tb_in (i := 812) (by decide +kernel) (by decide +kernel), tb_in (i := 813) (by decide +kernel) (by decide +kernel), rfl, ⟨tb_in (i := 31) (by decide +kernel) (by decide +kernel), tb_in (i := 814) (by decide +kernel) (by decide +kernel), ⟨by decide, by decide, by decide +kernel⟩⟩⟩
theorem ml_W_73 : Cond.methodLink RL 73 yX4_tallies ∈ TB := tb_in (i := 811) (by decide +kernel) (by decide +kernel)
theorem rm_W_tallies_C_tallies : RMok I_C_tallies I_W_tallies 0 0 := ⟨⟨by decide, by decide⟩, by decide, by decide⟩
theorem rc_C_tallies : RC 4 I_C_tallies := ⟨by decide, _, _, rfl⟩
theorem md_C_misclosureIfDropped : MDv I_C_misclosureIfDropped 1 := ⟨tb_in (i := 964) (by decide +kernel) (by decide +kernel), tb_in (i := 965) (by decide +kernel) (by decide +kernel), rfl, ⟨tb_in (i := 31) (by decide +kernel) (by decide +kernel), tb_in (i := 966) (by decide +kernel) (by decide +kernel), ⟨by decide, by decide, by decide +kernel⟩⟩⟩
theorem ml_W_76 : Cond.methodLink RL 76 yX4_misclosureIfDropped ∈ TB := tb_in (i := 963) (by decide +kernel) (by decide +kernel)
theorem rm_W_misclosureIfDropped_C_misclosureIfDropped : RMok I_C_misclosureIfDropped I_W_misclosureIfDropped 0 0 := ⟨⟨by decide, by decide⟩, by decide, by decide⟩
theorem rc_C_misclosureIfDropped : RC 4 I_C_misclosureIfDropped := ⟨by decide, _, _, rfl⟩
theorem md_C_isBog : MDv I_C_isBog 1 := ⟨tb_in (i := 774) (by decide +kernel) (by decide +kernel), tb_in (i := 775) (by decide +kernel) (by decide +kernel), rfl, ⟨tb_in (i := 31) (by decide +kernel) (by decide +kernel), tb_in (i := 776) (by decide +kernel) (by decide +kernel), ⟨by decide, by decide, by decide +kernel⟩⟩⟩
theorem ml_W_79 : Cond.methodLink RL 79 yX4_isBog ∈ TB := tb_in (i := 773) (by decide +kernel) (by decide +kernel)
theorem rm_W_isBog_C_isBog : RMok I_C_isBog I_W_isBog 0 0 := ⟨⟨by decide, by decide⟩, by decide, by decide⟩
theorem rc_C_isBog : RC 4 I_C_isBog := ⟨by decide, _, _, rfl⟩
theorem md_C_nameByte : MDv I_C_nameByte 2 := ⟨tb_in (i := 932) (by decide +kernel) (by decide +kernel), tb_in (i := 933) (by decide +kernel) (by decide +kernel), rfl, ⟨tb_in (i := 31) (by decide +kernel) (by decide +kernel), tb_in (i := 934) (by decide +kernel) (by decide +kernel), ⟨by decide, by decide, by decide +kernel⟩⟩⟩
theorem ml_W_83 : Cond.methodLink RL 83 yX4_nameByte ∈ TB := tb_in (i := 931) (by decide +kernel) (by decide +kernel)
theorem rm_W_nameByte_C_nameByte : RMok I_C_nameByte I_W_nameByte 0 0 := ⟨⟨by decide, by decide⟩, by decide, by decide⟩
theorem rc_C_nameByte : RC 4 I_C_nameByte := ⟨by decide, _, _, rfl⟩
theorem md_C_rawEast : MDv I_C_rawEast 1 := ⟨tb_in (i := 704) (by decide +kernel) (by decide +kernel), tb_in (i := 705) (by decide +kernel) (by decide +kernel), rfl, ⟨tb_in (i := 31) (by decide +kernel) (by decide +kernel), tb_in (i := 706) (by decide +kernel) (by decide +kernel), ⟨by decide, by decide, by decide +kernel⟩⟩⟩
theorem ml_W_86 : Cond.methodLink RL 86 yX4_rawEast ∈ TB := tb_in (i := 703) (by decide +kernel) (by decide +kernel)
theorem rm_W_rawEast_C_rawEast : RMok I_C_rawEast I_W_rawEast 0 0 := ⟨⟨by decide, by decide⟩, by decide, by decide⟩
theorem rc_C_rawEast : RC 4 I_C_rawEast := ⟨by decide, _, _, rfl⟩
theorem md_C_rawNorth : MDv I_C_rawNorth 1 := ⟨tb_in (i := 826) (by decide +kernel) (by decide +kernel), tb_in (i := 827) (by decide +kernel) (by decide +kernel), rfl, ⟨tb_in (i := 31) (by decide +kernel) (by decide +kernel), tb_in (i := 828) (by decide +kernel) (by decide +kernel), ⟨by decide, by decide, by decide +kernel⟩⟩⟩
theorem ml_W_89 : Cond.methodLink RL 89 yX4_rawNorth ∈ TB := tb_in (i := 825) (by decide +kernel) (by decide +kernel)
theorem rm_W_rawNorth_C_rawNorth : RMok I_C_rawNorth I_W_rawNorth 0 0 := ⟨⟨by decide, by decide⟩, by decide, by decide⟩
theorem rc_C_rawNorth : RC 4 I_C_rawNorth := ⟨by decide, _, _, rfl⟩
theorem md_C_east : MDv I_C_east 1 := ⟨tb_in (i := 732) (by decide +kernel) (by decide +kernel), tb_in (i := 733) (by decide +kernel) (by decide +kernel), rfl, ⟨tb_in (i := 31) (by decide +kernel) (by decide +kernel), tb_in (i := 734) (by decide +kernel) (by decide +kernel), ⟨by decide, by decide, by decide +kernel⟩⟩⟩
theorem ml_W_92 : Cond.methodLink RL 92 yX4_east ∈ TB := tb_in (i := 731) (by decide +kernel) (by decide +kernel)
theorem rm_W_east_C_east : RMok I_C_east I_W_east 0 0 := ⟨⟨by decide, by decide⟩, by decide, by decide⟩
theorem rc_C_east : RC 4 I_C_east := ⟨by decide, _, _, rfl⟩
theorem md_C_north : MDv I_C_north 1 := ⟨tb_in (i := 833) (by decide +kernel) (by decide +kernel), tb_in (i := 834) (by decide +kernel) (by decide +kernel), rfl, ⟨tb_in (i := 31) (by decide +kernel) (by decide +kernel), tb_in (i := 835) (by decide +kernel) (by decide +kernel), ⟨by decide, by decide, by decide +kernel⟩⟩⟩
theorem ml_W_95 : Cond.methodLink RL 95 yX4_north ∈ TB := tb_in (i := 832) (by decide +kernel) (by decide +kernel)
theorem rm_W_north_C_north : RMok I_C_north I_W_north 0 0 := ⟨⟨by decide, by decide⟩, by decide, by decide⟩
theorem rc_C_north : RC 4 I_C_north := ⟨by decide, _, _, rfl⟩
theorem md_C_run : MDv I_C_run 1 := ⟨tb_in (i := 739) (by decide +kernel) (by decide +kernel), tb_in (i := 740) (by decide +kernel) (by decide +kernel), rfl, ⟨tb_in (i := 31) (by decide +kernel) (by decide +kernel), tb_in (i := 741) (by decide +kernel) (by decide +kernel), ⟨by decide, by decide, by decide +kernel⟩⟩⟩
theorem ml_W_98 : Cond.methodLink RL 98 yX4_run ∈ TB := tb_in (i := 738) (by decide +kernel) (by decide +kernel)
theorem rm_W_run_C_run : RMok I_C_run I_W_run 0 0 := ⟨⟨by decide, by decide⟩, by decide, by decide⟩
theorem rc_C_run : RC 4 I_C_run := ⟨by decide, _, _, rfl⟩
theorem md_C_distanceFromStart : MDv I_C_distanceFromStart 1 := ⟨tb_in (i := 840) (by decide +kernel) (by decide +kernel), tb_in (i := 841) (by decide +kernel) (by decide +kernel), rfl, ⟨tb_in (i := 31) (by decide +kernel) (by decide +kernel), tb_in (i := 842) (by decide +kernel) (by decide +kernel), ⟨by decide, by decide, by decide +kernel⟩⟩⟩
theorem ml_W_101 : Cond.methodLink RL 101 yX4_distanceFromStart ∈ TB := tb_in (i := 839) (by decide +kernel) (by decide +kernel)
theorem rm_W_distanceFromStart_C_distanceFromStart : RMok I_C_distanceFromStart I_W_distanceFromStart 0 0 := ⟨⟨by decide, by decide⟩, by decide, by decide⟩
theorem rc_C_distanceFromStart : RC 4 I_C_distanceFromStart := ⟨by decide, _, _, rfl⟩
theorem md_X_length : MDv I_X_length 0 := ⟨tb_in (i := 221) (by decide +kernel) (by decide +kernel), tb_in (i := 222) (by decide +kernel) (by decide +kernel), rfl, ⟨tb_in (i := 36) (by decide +kernel) (by decide +kernel), tb_in (i := 223) (by decide +kernel) (by decide +kernel), ⟨by decide, by decide, by decide +kernel⟩⟩⟩
theorem ml_W_104 : Cond.methodLink RL 104 yJ0_length_8abf5 ∈ TB := tb_in (i := 675) (by decide +kernel) (by decide +kernel)
theorem rm_W_word_X_length : RMok I_X_length I_W_word 0 0 := ⟨⟨by decide, by decide⟩, by decide, by decide⟩
theorem rc_X_length : RC 9 I_X_length := ⟨by decide, _, _, rfl⟩
theorem md_X_charAt : MDv I_X_charAt 1 := ⟨tb_in (i := 231) (by decide +kernel) (by decide +kernel), tb_in (i := 232) (by decide +kernel) (by decide +kernel), rfl, ⟨tb_in (i := 36) (by decide +kernel) (by decide +kernel), tb_in (i := 233) (by decide +kernel) (by decide +kernel), ⟨by decide, by decide, by decide +kernel⟩⟩⟩
theorem ml_W_109 : Cond.methodLink RL 109 yJ0_charAt_5068e ∈ TB := tb_in (i := 679) (by decide +kernel) (by decide +kernel)
theorem rm_W_word_X_charAt : RMok I_X_charAt I_W_word 0 0 := ⟨⟨by decide, by decide⟩, by decide, by decide⟩
theorem rc_X_charAt : RC 9 I_X_charAt := ⟨by decide, _, _, rfl⟩
theorem md_W_truncateInput : MDx I_W_truncateInput 2 := ⟨tb_in (i := 651) (by decide +kernel) (by decide +kernel), rfl, ⟨tb_in (i := 30) (by decide +kernel) (by decide +kernel), tb_in (i := 652) (by decide +kernel) (by decide +kernel), ⟨by decide, by decide, by decide +kernel⟩⟩⟩
theorem ml_W_113 : Cond.methodLink RL 113 yL_truncateInput ∈ TB := tb_in (i := 650) (by decide +kernel) (by decide +kernel)
theorem rm_W_write_W_truncateInput : RMok I_W_truncateInput I_W_write 0 0 := ⟨⟨by decide, by decide⟩, by decide, by decide⟩
theorem rm_W_write_X_length_1_6 : RMok I_X_length I_W_write 1 6 := ⟨⟨by decide, by decide⟩, by decide, by decide⟩
theorem rm_W_write_W_truncateInput_1_6 : RMok I_W_truncateInput I_W_write 1 6 := ⟨⟨by decide, by decide⟩, by decide, by decide⟩
theorem rm_W_write_X_length_2_12 : RMok I_X_length I_W_write 2 12 := ⟨⟨by decide, by decide⟩, by decide, by decide⟩
theorem md_W_word : MDs I_W_word 2 := ⟨tb_in (i := 677) (by decide +kernel) (by decide +kernel), rfl, ⟨tb_in (i := 30) (by decide +kernel) (by decide +kernel), tb_in (i := 678) (by decide +kernel) (by decide +kernel), ⟨by decide, by decide, by decide +kernel⟩⟩⟩
theorem ml_W_118 : Cond.methodLink RL 118 yL_word ∈ TB := tb_in (i := 676) (by decide +kernel) (by decide +kernel)
theorem rm_W_write_W_word_1_6 : RMok I_W_word I_W_write 1 6 := ⟨⟨by decide, by decide⟩, by decide, by decide⟩
theorem bp_12 : (Int8.ofInt 12).toInt32 = 12 := by decide
theorem md_C_append : MDv I_C_append 5 := ⟨tb_in (i := 681) (by decide +kernel) (by decide +kernel), tb_in (i := 682) (by decide +kernel) (by decide +kernel), rfl, ⟨tb_in (i := 31) (by decide +kernel) (by decide +kernel), tb_in (i := 683) (by decide +kernel) (by decide +kernel), ⟨by decide, by decide, by decide +kernel⟩⟩⟩
theorem ml_W_122 : Cond.methodLink RL 122 yX4_append ∈ TB := tb_in (i := 680) (by decide +kernel) (by decide +kernel)
theorem rm_W_write_C_append_1_6 : RMok I_C_append I_W_write 1 6 := ⟨⟨by decide, by decide⟩, by decide, by decide⟩
theorem rc_C_append : RC 4 I_C_append := ⟨by decide, _, _, rfl⟩
theorem inc_20 (x : Int32) : x + Int32.ofInt 20 = x + 20 := rfl
theorem cn_W_125 : Cond.constant RL 125 1103515245 ∈ TB := tb_in (i := 691) (by decide +kernel) (by decide +kernel)
theorem sp_12345 : (Int16.ofInt 12345).toInt32 = 12345 := by decide
