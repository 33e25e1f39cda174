/-! what the tables say, word by word -/
theorem bp_97 : (Int8.ofInt 97).toInt32 = 97 := by decide
theorem bp_122 : (Int8.ofInt 122).toInt32 = 122 := by decide
theorem ic_1 : Int32.ofInt 1 = 1 := by decide
theorem ic_0 : Int32.ofInt 0 = 0 := by decide
theorem bp_48 : (Int8.ofInt 48).toInt32 = 48 := by decide
theorem bp_57 : (Int8.ofInt 57).toInt32 = 57 := by decide
theorem ck_1 : CK 1 RX1 TX1 6 tyX1 := ⟨rfl, by decide, by decide, uws_in [51, 53, 55, 57, 59, 61] (by decide +kernel), tyX1_ok, nmX1⟩
theorem fl_L_25 : FL RX1 25 1 4 := ⟨_, _, _, _, ck_1, by decide, tb_in (i := 127) (by decide +kernel) (by decide +kernel)⟩
theorem kk_2 : kd 2 = 1 := by decide +kernel
theorem tt_2_4 : tg 2 4 = 0 := by decide +kernel
theorem fw_L_31 : FW RX1 31 1 3 .int := ⟨_, _, _, _, ck_1, by decide, tb_in (i := 125) (by decide +kernel) (by decide +kernel), rfl, by decide +kernel⟩
theorem tt_2_3 : tg 2 3 = 0 := by decide +kernel
theorem fl_L_31 : FL RX1 31 1 3 := ⟨_, _, _, _, ck_1, by decide, tb_in (i := 125) (by decide +kernel) (by decide +kernel)⟩
theorem fl_L_21 : FL RX1 21 1 1 := ⟨_, _, _, _, ck_1, by decide, tb_in (i := 122) (by decide +kernel) (by decide +kernel)⟩
theorem tt_2_1 : tg 2 1 = 0 := by decide +kernel
theorem fl_L_9 : FL RX1 9 1 0 := ⟨_, _, _, _, ck_1, by decide, tb_in (i := 119) (by decide +kernel) (by decide +kernel)⟩
theorem tt_2_0 : tg 2 0 = 4 := by decide +kernel
theorem kk_3 : kd 3 = 11 := by decide +kernel
theorem ll_3 : ln 3 = 900 := by decide +kernel
theorem bp_32 : (Int8.ofInt 32).toInt32 = 32 := by decide
theorem fw_L_25 : FW RX1 25 1 4 .int := ⟨_, _, _, _, ck_1, by decide, tb_in (i := 127) (by decide +kernel) (by decide +kernel), rfl, by decide +kernel⟩
theorem md_C_isLetter : MDs I_C_isLetter 1 := ⟨tb_in (i := 331) (by decide +kernel) (by decide +kernel), rfl, ⟨tb_in (i := 81) (by decide +kernel) (by decide +kernel), tb_in (i := 332) (by decide +kernel) (by decide +kernel), ⟨by decide, by decide, by decide +kernel⟩⟩⟩
theorem mn_L_37 : Cond.methodLinkNest RX1 37 yX4_isLetter "ChainSurvey" ∈ lw_tbl := List.mem_of_getElem? (i := 330) (by decide +kernel)
theorem rm_L_advance_C_isLetter : RMok I_C_isLetter I_L_advance 0 0 := ⟨⟨by decide, by decide⟩, by decide, by decide⟩
theorem md_C_isDigit : MDs I_C_isDigit 1 := ⟨tb_in (i := 334) (by decide +kernel) (by decide +kernel), rfl, ⟨tb_in (i := 81) (by decide +kernel) (by decide +kernel), tb_in (i := 335) (by decide +kernel) (by decide +kernel), ⟨by decide, by decide, by decide +kernel⟩⟩⟩
theorem mn_L_41 : Cond.methodLinkNest RX1 41 yX4_isDigit "ChainSurvey" ∈ lw_tbl := List.mem_of_getElem? (i := 333) (by decide +kernel)
theorem rm_L_advance_C_isDigit : RMok I_C_isDigit I_L_advance 0 0 := ⟨⟨by decide, by decide⟩, by decide, by decide⟩
theorem bp_59 : (Int8.ofInt 59).toInt32 = 59 := by decide
theorem ic_4 : Int32.ofInt 4 = 4 := by decide
theorem ic_3 : Int32.ofInt 3 = 3 := by decide
theorem ic_2 : Int32.ofInt 2 = 2 := by decide
theorem fw_L_34 : FW RX1 34 1 2 .int := ⟨_, _, _, _, ck_1, by decide, tb_in (i := 123) (by decide +kernel) (by decide +kernel), rfl, by decide +kernel⟩
theorem tt_2_2 : tg 2 2 = 0 := by decide +kernel
theorem fw_L_44 : FW RX1 44 1 5 .int := ⟨_, _, _, _, ck_1, by decide, tb_in (i := 129) (by decide +kernel) (by decide +kernel), rfl, by decide +kernel⟩
theorem tt_2_5 : tg 2 5 = 0 := by decide +kernel
theorem fl_L_44 : FL RX1 44 1 5 := ⟨_, _, _, _, ck_1, by decide, tb_in (i := 129) (by decide +kernel) (by decide +kernel)⟩
theorem bp_10 : (Int8.ofInt 10).toInt32 = 10 := by decide
theorem cn_L_47 : Cond.constant RX1 47 1000000 ∈ TB := tb_in (i := 336) (by decide +kernel) (by decide +kernel)
theorem ml_L_15 : Cond.methodLink RX1 15 yJ9_min_7cf53 ∈ TB := tb_in (i := 323) (by decide +kernel) (by decide +kernel)
theorem ms_min : Cond.static Lib.Math.min.name ∈ TB := tb_in (i := 324) (by decide +kernel) (by decide +kernel)
theorem mc_min : Cond.code Lib.Math.min.name Lib.Math.min.code 2 (some .int) ∈ TB := tb_in (i := 325) (by decide +kernel) (by decide +kernel)
theorem ini_math : Cond.initialized "java/lang/Math" ∈ TB := tb_in (i := 90) (by decide +kernel) (by decide +kernel)
theorem fw_L_21 : FW RX1 21 1 1 .int := ⟨_, _, _, _, ck_1, by decide, tb_in (i := 122) (by decide +kernel) (by decide +kernel), rfl, by decide +kernel⟩
theorem md_L_advance : MDv I_L_advance 0 := ⟨tb_in (i := 327) (by decide +kernel) (by decide +kernel), tb_in (i := 328) (by decide +kernel) (by decide +kernel), rfl, ⟨tb_in (i := 83) (by decide +kernel) (by decide +kernel), tb_in (i := 329) (by decide +kernel) (by decide +kernel), ⟨by decide, by decide, by decide +kernel⟩⟩⟩
theorem ml_L_28 : Cond.methodLink RX1 28 yX1_advance ∈ TB := tb_in (i := 326) (by decide +kernel) (by decide +kernel)
theorem rm_L_begin_L_advance : RMok I_L_advance I_L_begin 0 0 := ⟨⟨by decide, by decide⟩, by decide, by decide⟩
theorem rc_L_advance : RC 1 I_L_advance := ⟨by decide, _, _, rfl⟩
theorem ck_0 : CK 0 RX0 TX0 5 tyX0 := ⟨rfl, by decide, by decide, uws_in [141, 143, 145, 147, 149] (by decide +kernel), tyX0_ok, nmX0⟩
theorem fw_I_29 : FW RX0 29 0 3 .int := ⟨_, _, _, _, ck_0, by decide, tb_in (i := 217) (by decide +kernel) (by decide +kernel), rfl, by decide +kernel⟩
theorem kk_1 : kd 1 = 0 := by decide +kernel
theorem tt_1_3 : tg 1 3 = 0 := by decide +kernel
theorem ic_m1 : Int32.ofInt (-1) = -1 := by decide
theorem fw_I_25 : FW RX0 25 0 4 .int := ⟨_, _, _, _, ck_0, by decide, tb_in (i := 219) (by decide +kernel) (by decide +kernel), rfl, by decide +kernel⟩
theorem tt_1_4 : tg 1 4 = 0 := by decide +kernel
theorem fl_I_12 : FL RX0 12 0 0 := ⟨_, _, _, _, ck_0, by decide, tb_in (i := 211) (by decide +kernel) (by decide +kernel)⟩
theorem tt_1_0 : tg 1 0 = 3 := by decide +kernel
theorem md_L_begin : MDv I_L_begin 1 := ⟨tb_in (i := 320) (by decide +kernel) (by decide +kernel), tb_in (i := 321) (by decide +kernel) (by decide +kernel), rfl, ⟨tb_in (i := 83) (by decide +kernel) (by decide +kernel), tb_in (i := 322) (by decide +kernel) (by decide +kernel), ⟨by decide, by decide, by decide +kernel⟩⟩⟩
theorem ml_I_32 : Cond.methodLink RX0 32 yX1_begin ∈ TB := tb_in (i := 319) (by decide +kernel) (by decide +kernel)
theorem rm_I_begin_L_begin : RMok I_L_begin I_I_begin 0 0 := ⟨⟨by decide, by decide⟩, by decide, by decide⟩
theorem rc_L_begin : RC 1 I_L_begin := ⟨by decide, _, _, rfl⟩
theorem fl_I_36 : FL RX0 36 1 3 := ⟨_, _, _, _, ck_1, by decide, tb_in (i := 126) (by decide +kernel) (by decide +kernel)⟩
theorem ck_2 : CK 2 RX2 TX2 13 tyX2 := ⟨rfl, by decide, by decide, uws_in [102, 104, 106, 108, 110, 112, 114, 116, 118, 120, 122, 124, 126] (by decide +kernel), tyX2_ok, nmX2⟩
theorem fw_S_44 : FW RX2 44 2 9 .int := ⟨_, _, _, _, ck_2, by decide, tb_in (i := 168) (by decide +kernel) (by decide +kernel), rfl, by decide +kernel⟩
theorem fw_S_47 : FW RX2 47 2 12 .boolean := ⟨_, _, _, _, ck_2, by decide, tb_in (i := 178) (by decide +kernel) (by decide +kernel), rfl, by decide +kernel⟩
theorem fl_L_34 : FL RX1 34 1 2 := ⟨_, _, _, _, ck_1, by decide, tb_in (i := 123) (by decide +kernel) (by decide +kernel)⟩
theorem ml_L_48 : Cond.methodLink RX1 48 yJ0_length_8abf5 ∈ TB := tb_in (i := 350) (by decide +kernel) (by decide +kernel)
theorem rm_L_isAt_U_length : RMok I_U_length I_L_isAt 0 0 := ⟨⟨by decide, by decide⟩, by decide, by decide⟩
theorem ml_L_53 : Cond.methodLink RX1 53 yJ0_charAt_5068e ∈ TB := tb_in (i := 351) (by decide +kernel) (by decide +kernel)
theorem rm_L_isAt_U_charAt : RMok I_U_charAt I_L_isAt 0 0 := ⟨⟨by decide, by decide⟩, by decide, by decide⟩
theorem inc_1 (x : Int32) : x + Int32.ofInt 1 = x + 1 := rfl
theorem fl_I_67 : FL RX0 67 1 2 := ⟨_, _, _, _, ck_1, by decide, tb_in (i := 124) (by decide +kernel) (by decide +kernel)⟩
theorem fl_I_176 : FL RX0 176 1 5 := ⟨_, _, _, _, ck_1, by decide, tb_in (i := 130) (by decide +kernel) (by decide +kernel)⟩
theorem md_C_isBetween : MDs I_C_isBetween 3 := ⟨tb_in (i := 366) (by decide +kernel) (by decide +kernel), rfl, ⟨tb_in (i := 81) (by decide +kernel) (by decide +kernel), tb_in (i := 367) (by decide +kernel) (by decide +kernel), ⟨by decide, by decide, by decide +kernel⟩⟩⟩
theorem mn_I_182 : Cond.methodLinkNest RX0 182 yX4_isBetween "ChainSurvey" ∈ lw_tbl := List.mem_of_getElem? (i := 365) (by decide +kernel)
theorem rm_I_numberHere_C_isBetween : RMok I_C_isBetween I_I_numberHere 0 0 := ⟨⟨by decide, by decide⟩, by decide, by decide⟩
theorem ml_I_51 : Cond.methodLink RX0 51 yX1_advance ∈ TB := tb_in (i := 356) (by decide +kernel) (by decide +kernel)
theorem rm_I_numberHere_L_advance : RMok I_L_advance I_I_numberHere 0 0 := ⟨⟨by decide, by decide⟩, by decide, by decide⟩
theorem md_I_fail : MDv I_I_fail 1 := ⟨tb_in (i := 354) (by decide +kernel) (by decide +kernel), tb_in (i := 0) (by decide +kernel) (by decide +kernel), rfl, ⟨tb_in (i := 82) (by decide +kernel) (by decide +kernel), tb_in (i := 355) (by decide +kernel) (by decide +kernel), ⟨by decide, by decide, by decide +kernel⟩⟩⟩
theorem ml_I_47 : Cond.methodLink RX0 47 yX0_fail ∈ TB := tb_in (i := 352) (by decide +kernel) (by decide +kernel)
theorem rm_I_numberHere_I_fail : RMok I_I_fail I_I_numberHere 0 0 := ⟨⟨by decide, by decide⟩, by decide, by decide⟩
theorem rc_I_fail : RC 0 I_I_fail := ⟨by decide, _, _, rfl⟩
theorem sp_999 : (Int16.ofInt 999).toInt32 = 999 := by decide
theorem md_I_numberHere : MDv I_I_numberHere 2 := ⟨tb_in (i := 363) (by decide +kernel) (by decide +kernel), tb_in (i := 2) (by decide +kernel) (by decide +kernel), rfl, ⟨tb_in (i := 82) (by decide +kernel) (by decide +kernel), tb_in (i := 364) (by decide +kernel) (by decide +kernel), ⟨by decide, by decide, by decide +kernel⟩⟩⟩
theorem ml_I_114 : Cond.methodLink RX0 114 yX0_numberHere ∈ TB := tb_in (i := 361) (by decide +kernel) (by decide +kernel)
theorem rm_I_readsWear_I_numberHere : RMok I_I_numberHere I_I_readsWear 0 0 := ⟨⟨by decide, by decide⟩, by decide, by decide⟩
theorem rc_I_numberHere : RC 0 I_I_numberHere := ⟨by decide, _, _, rfl⟩
theorem fl_I_21 : FL RX0 21 0 1 := ⟨_, _, _, _, ck_0, by decide, tb_in (i := 213) (by decide +kernel) (by decide +kernel)⟩
theorem tt_1_1 : tg 1 1 = 5 := by decide +kernel
theorem fw_I_147 : FW RX0 147 2 10 .int := ⟨_, _, _, _, ck_2, by decide, tb_in (i := 173) (by decide +kernel) (by decide +kernel), rfl, by decide +kernel⟩
theorem kk_4 : kd 4 = 2 := by decide +kernel
theorem tt_4_10 : tg 4 10 = 0 := by decide +kernel
theorem bp_100 : (Int8.ofInt 100).toInt32 = 100 := by decide
theorem rm_I_readsPace_I_numberHere : RMok I_I_numberHere I_I_readsPace 0 0 := ⟨⟨by decide, by decide⟩, by decide, by decide⟩
theorem fw_I_149 : FW RX0 149 2 11 .int := ⟨_, _, _, _, ck_2, by decide, tb_in (i := 176) (by decide +kernel) (by decide +kernel), rfl, by decide +kernel⟩
theorem tt_4_11 : tg 4 11 = 0 := by decide +kernel
theorem rm_I_readsSemicolon_L_advance : RMok I_L_advance I_I_readsSemicolon 0 0 := ⟨⟨by decide, by decide⟩, by decide, by decide⟩
theorem rm_I_readsSemicolon_I_fail : RMok I_I_fail I_I_readsSemicolon 0 0 := ⟨⟨by decide, by decide⟩, by decide, by decide⟩
theorem sv_4 : isSv 4 := by unfold isSv; decide
theorem md_S_clear : MDv I_S_clear 0 := ⟨tb_in (i := 342) (by decide +kernel) (by decide +kernel), tb_in (i := 343) (by decide +kernel) (by decide +kernel), rfl, ⟨tb_in (i := 84) (by decide +kernel) (by decide +kernel), tb_in (i := 344) (by decide +kernel) (by decide +kernel), ⟨by decide, by decide, by decide +kernel⟩⟩⟩
theorem ml_I_39 : Cond.methodLink RX0 39 yX2_clear ∈ TB := tb_in (i := 341) (by decide +kernel) (by decide +kernel)
theorem rm_I_readsHead_S_clear : RMok I_S_clear I_I_readsHead 0 0 := ⟨⟨by decide, by decide⟩, by decide, by decide⟩
theorem rc_S_clear : RC 2 I_S_clear := ⟨by decide, _, _, rfl⟩
theorem md_L_isAt : MDv I_L_isAt 1 := ⟨tb_in (i := 347) (by decide +kernel) (by decide +kernel), tb_in (i := 348) (by decide +kernel) (by decide +kernel), rfl, ⟨tb_in (i := 83) (by decide +kernel) (by decide +kernel), tb_in (i := 349) (by decide +kernel) (by decide +kernel), ⟨by decide, by decide, by decide +kernel⟩⟩⟩
theorem ml_I_43 : Cond.methodLink RX0 43 yX1_isAt ∈ TB := tb_in (i := 346) (by decide +kernel) (by decide +kernel)
theorem rm_I_readsHead_L_isAt : RMok I_L_isAt I_I_readsHead 0 0 := ⟨⟨by decide, by decide⟩, by decide, by decide⟩
theorem rc_L_isAt : RC 1 I_L_isAt := ⟨by decide, _, _, rfl⟩
theorem rm_I_readsHead_L_advance : RMok I_L_advance I_I_readsHead 0 0 := ⟨⟨by decide, by decide⟩, by decide, by decide⟩
theorem md_I_readsWear : MDv I_I_readsWear 0 := ⟨tb_in (i := 359) (by decide +kernel) (by decide +kernel), tb_in (i := 1) (by decide +kernel) (by decide +kernel), rfl, ⟨tb_in (i := 82) (by decide +kernel) (by decide +kernel), tb_in (i := 360) (by decide +kernel) (by decide +kernel), ⟨by decide, by decide, by decide +kernel⟩⟩⟩
theorem ml_I_54 : Cond.methodLink RX0 54 yX0_readsWear ∈ TB := tb_in (i := 357) (by decide +kernel) (by decide +kernel)
theorem rm_I_readsHead_I_readsWear : RMok I_I_readsWear I_I_readsHead 0 0 := ⟨⟨by decide, by decide⟩, by decide, by decide⟩
theorem rc_I_readsWear : RC 0 I_I_readsWear := ⟨by decide, _, _, rfl⟩
theorem md_I_readsPace : MDv I_I_readsPace 0 := ⟨tb_in (i := 370) (by decide +kernel) (by decide +kernel), tb_in (i := 3) (by decide +kernel) (by decide +kernel), rfl, ⟨tb_in (i := 82) (by decide +kernel) (by decide +kernel), tb_in (i := 371) (by decide +kernel) (by decide +kernel), ⟨by decide, by decide, by decide +kernel⟩⟩⟩
theorem ml_I_58 : Cond.methodLink RX0 58 yX0_readsPace ∈ TB := tb_in (i := 368) (by decide +kernel) (by decide +kernel)
theorem rm_I_readsHead_I_readsPace : RMok I_I_readsPace I_I_readsHead 0 0 := ⟨⟨by decide, by decide⟩, by decide, by decide⟩
theorem rc_I_readsPace : RC 0 I_I_readsPace := ⟨by decide, _, _, rfl⟩
theorem md_I_readsSemicolon : MDv I_I_readsSemicolon 0 := ⟨tb_in (i := 374) (by decide +kernel) (by decide +kernel), tb_in (i := 4) (by decide +kernel) (by decide +kernel), rfl, ⟨tb_in (i := 82) (by decide +kernel) (by decide +kernel), tb_in (i := 375) (by decide +kernel) (by decide +kernel), ⟨by decide, by decide, by decide +kernel⟩⟩⟩
theorem ml_I_61 : Cond.methodLink RX0 61 yX0_readsSemicolon ∈ TB := tb_in (i := 372) (by decide +kernel) (by decide +kernel)
theorem rm_I_readsHead_I_readsSemicolon : RMok I_I_readsSemicolon I_I_readsHead 0 0 := ⟨⟨by decide, by decide⟩, by decide, by decide⟩
theorem rc_I_readsSemicolon : RC 0 I_I_readsSemicolon := ⟨by decide, _, _, rfl⟩
theorem rm_I_readsHead_I_fail : RMok I_I_fail I_I_readsHead 0 0 := ⟨⟨by decide, by decide⟩, by decide, by decide⟩
theorem bp_6 : (Int8.ofInt 6).toInt32 = 6 := by decide
theorem bp_96 : (Int8.ofInt 96).toInt32 = 96 := by decide
theorem bp_26 : (Int8.ofInt 26).toInt32 = 26 := by decide
theorem ic_5 : Int32.ofInt 5 = 5 := by decide
theorem fl_I_165 : FL RX0 165 1 0 := ⟨_, _, _, _, ck_1, by decide, tb_in (i := 121) (by decide +kernel) (by decide +kernel)⟩
theorem fl_I_169 : FL RX0 169 1 4 := ⟨_, _, _, _, ck_1, by decide, tb_in (i := 128) (by decide +kernel) (by decide +kernel)⟩
theorem md_C_packedName : MDs I_C_packedName 3 := ⟨tb_in (i := 398) (by decide +kernel) (by decide +kernel), rfl, ⟨tb_in (i := 81) (by decide +kernel) (by decide +kernel), tb_in (i := 399) (by decide +kernel) (by decide +kernel), ⟨by decide, by decide, by decide +kernel⟩⟩⟩
theorem mn_I_172 : Cond.methodLinkNest RX0 172 yX4_packedName "ChainSurvey" ∈ lw_tbl := List.mem_of_getElem? (i := 397) (by decide +kernel)
theorem rm_I_nameHere_C_packedName : RMok I_C_packedName I_I_nameHere 0 0 := ⟨⟨by decide, by decide⟩, by decide, by decide⟩
theorem rm_I_nameHere_I_fail : RMok I_I_fail I_I_nameHere 0 0 := ⟨⟨by decide, by decide⟩, by decide, by decide⟩
theorem fl_S_44 : FL RX2 44 2 9 := ⟨_, _, _, _, ck_2, by decide, tb_in (i := 168) (by decide +kernel) (by decide +kernel)⟩
theorem fl_S_9 : FL RX2 9 2 0 := ⟨_, _, _, _, ck_2, by decide, tb_in (i := 151) (by decide +kernel) (by decide +kernel)⟩
theorem fl_I_155 : FL RX0 155 2 9 := ⟨_, _, _, _, ck_2, by decide, tb_in (i := 171) (by decide +kernel) (by decide +kernel)⟩
theorem tt_4_9 : tg 4 9 = 0 := by decide +kernel
theorem bp_20 : (Int8.ofInt 20).toInt32 = 20 := by decide
theorem rm_I_newName_L_advance : RMok I_L_advance I_I_newName 0 0 := ⟨⟨by decide, by decide⟩, by decide, by decide⟩
theorem md_I_nameHere : MDv I_I_nameHere 0 := ⟨tb_in (i := 395) (by decide +kernel) (by decide +kernel), tb_in (i := 8) (by decide +kernel) (by decide +kernel), rfl, ⟨tb_in (i := 82) (by decide +kernel) (by decide +kernel), tb_in (i := 396) (by decide +kernel) (by decide +kernel), ⟨by decide, by decide, by decide +kernel⟩⟩⟩
theorem ml_I_158 : Cond.methodLink RX0 158 yX0_nameHere ∈ TB := tb_in (i := 393) (by decide +kernel) (by decide +kernel)
theorem rm_I_newName_I_nameHere : RMok I_I_nameHere I_I_newName 0 0 := ⟨⟨by decide, by decide⟩, by decide, by decide⟩
theorem rc_I_nameHere : RC 0 I_I_nameHere := ⟨by decide, _, _, rfl⟩
theorem md_S_legNamed : MDv I_S_legNamed 1 := ⟨tb_in (i := 401) (by decide +kernel) (by decide +kernel), tb_in (i := 402) (by decide +kernel) (by decide +kernel), rfl, ⟨tb_in (i := 84) (by decide +kernel) (by decide +kernel), tb_in (i := 403) (by decide +kernel) (by decide +kernel), ⟨by decide, by decide, by decide +kernel⟩⟩⟩
theorem ml_I_161 : Cond.methodLink RX0 161 yX2_legNamed ∈ TB := tb_in (i := 400) (by decide +kernel) (by decide +kernel)
theorem rm_I_newName_S_legNamed : RMok I_S_legNamed I_I_newName 0 0 := ⟨⟨by decide, by decide⟩, by decide, by decide⟩
theorem rc_S_legNamed : RC 2 I_S_legNamed := ⟨by decide, _, _, rfl⟩
theorem rm_I_newName_I_fail : RMok I_I_fail I_I_newName 0 0 := ⟨⟨by decide, by decide⟩, by decide, by decide⟩
theorem sp_345 : (Int16.ofInt 345).toInt32 = 345 := by decide
theorem ml_C_100 : Cond.methodLink RX4 100 yX4_isBetween ∈ TB := tb_in (i := 411) (by decide +kernel) (by decide +kernel)
theorem rm_C_isBearing_C_isBetween : RMok I_C_isBetween I_C_isBearing 0 0 := ⟨⟨by decide, by decide⟩, by decide, by decide⟩
theorem bp_15 : (Int8.ofInt 15).toInt32 = 15 := by decide
theorem md_C_isBearing : MDs I_C_isBearing 1 := ⟨tb_in (i := 409) (by decide +kernel) (by decide +kernel), rfl, ⟨tb_in (i := 81) (by decide +kernel) (by decide +kernel), tb_in (i := 410) (by decide +kernel) (by decide +kernel), ⟨by decide, by decide, by decide +kernel⟩⟩⟩
theorem mn_I_179 : Cond.methodLinkNest RX0 179 yX4_isBearing "ChainSurvey" ∈ lw_tbl := List.mem_of_getElem? (i := 408) (by decide +kernel)
theorem rm_I_mayTurnHere_C_isBearing : RMok I_C_isBearing I_I_mayTurnHere 0 0 := ⟨⟨by decide, by decide⟩, by decide, by decide⟩
theorem rm_I_mayTurnHere_I_fail : RMok I_I_fail I_I_mayTurnHere 0 0 := ⟨⟨by decide, by decide⟩, by decide, by decide⟩
theorem rm_I_passes_L_isAt : RMok I_L_isAt I_I_passes 0 0 := ⟨⟨by decide, by decide⟩, by decide, by decide⟩
theorem rm_I_passes_L_advance : RMok I_L_advance I_I_passes 0 0 := ⟨⟨by decide, by decide⟩, by decide, by decide⟩
theorem fl_S_15 : FL RX2 15 2 1 := ⟨_, _, _, _, ck_2, by decide, tb_in (i := 153) (by decide +kernel) (by decide +kernel)⟩
theorem fl_S_18 : FL RX2 18 2 2 := ⟨_, _, _, _, ck_2, by decide, tb_in (i := 156) (by decide +kernel) (by decide +kernel)⟩
theorem fl_S_22 : FL RX2 22 2 3 := ⟨_, _, _, _, ck_2, by decide, tb_in (i := 158) (by decide +kernel) (by decide +kernel)⟩
theorem fl_S_25 : FL RX2 25 2 4 := ⟨_, _, _, _, ck_2, by decide, tb_in (i := 160) (by decide +kernel) (by decide +kernel)⟩
theorem fl_S_28 : FL RX2 28 2 5 := ⟨_, _, _, _, ck_2, by decide, tb_in (i := 162) (by decide +kernel) (by decide +kernel)⟩
theorem fl_S_31 : FL RX2 31 2 6 := ⟨_, _, _, _, ck_2, by decide, tb_in (i := 163) (by decide +kernel) (by decide +kernel)⟩
theorem fl_S_34 : FL RX2 34 2 7 := ⟨_, _, _, _, ck_2, by decide, tb_in (i := 166) (by decide +kernel) (by decide +kernel)⟩
theorem fl_S_37 : FL RX2 37 2 8 := ⟨_, _, _, _, ck_2, by decide, tb_in (i := 167) (by decide +kernel) (by decide +kernel)⟩
theorem md_I_newName : MDv I_I_newName 0 := ⟨tb_in (i := 391) (by decide +kernel) (by decide +kernel), tb_in (i := 7) (by decide +kernel) (by decide +kernel), rfl, ⟨tb_in (i := 82) (by decide +kernel) (by decide +kernel), tb_in (i := 392) (by decide +kernel) (by decide +kernel), ⟨by decide, by decide, by decide +kernel⟩⟩⟩
theorem ml_I_107 : Cond.methodLink RX0 107 yX0_newName ∈ TB := tb_in (i := 389) (by decide +kernel) (by decide +kernel)
theorem rm_I_readsChained_I_newName : RMok I_I_newName I_I_readsChained 0 0 := ⟨⟨by decide, by decide⟩, by decide, by decide⟩
theorem rc_I_newName : RC 0 I_I_newName := ⟨by decide, _, _, rfl⟩
theorem md_I_mayTurnHere : MDv I_I_mayTurnHere 0 := ⟨tb_in (i := 406) (by decide +kernel) (by decide +kernel), tb_in (i := 9) (by decide +kernel) (by decide +kernel), rfl, ⟨tb_in (i := 82) (by decide +kernel) (by decide +kernel), tb_in (i := 407) (by decide +kernel) (by decide +kernel), ⟨by decide, by decide, by decide +kernel⟩⟩⟩
theorem ml_I_111 : Cond.methodLink RX0 111 yX0_mayTurnHere ∈ TB := tb_in (i := 404) (by decide +kernel) (by decide +kernel)
theorem rm_I_readsChained_I_mayTurnHere : RMok I_I_mayTurnHere I_I_readsChained 0 0 := ⟨⟨by decide, by decide⟩, by decide, by decide⟩
theorem rc_I_mayTurnHere : RC 0 I_I_mayTurnHere := ⟨by decide, _, _, rfl⟩
theorem rm_I_readsChained_I_numberHere : RMok I_I_numberHere I_I_readsChained 0 0 := ⟨⟨by decide, by decide⟩, by decide, by decide⟩
theorem bp_99 : (Int8.ofInt 99).toInt32 = 99 := by decide
theorem md_I_passes : MDv I_I_passes 1 := ⟨tb_in (i := 415) (by decide +kernel) (by decide +kernel), tb_in (i := 10) (by decide +kernel) (by decide +kernel), rfl, ⟨tb_in (i := 82) (by decide +kernel) (by decide +kernel), tb_in (i := 416) (by decide +kernel) (by decide +kernel), ⟨by decide, by decide, by decide +kernel⟩⟩⟩
theorem ml_I_120 : Cond.methodLink RX0 120 yX0_passes ∈ TB := tb_in (i := 413) (by decide +kernel) (by decide +kernel)
theorem rm_I_readsChained_I_passes : RMok I_I_passes I_I_readsChained 0 0 := ⟨⟨by decide, by decide⟩, by decide, by decide⟩
theorem rc_I_passes : RC 0 I_I_passes := ⟨by decide, _, _, rfl⟩
theorem bp_9 : (Int8.ofInt 9).toInt32 = 9 := by decide
theorem sp_9999 : (Int16.ofInt 9999).toInt32 = 9999 := by decide
theorem bp_50 : (Int8.ofInt 50).toInt32 = 50 := by decide
theorem rm_I_readsChained_I_readsSemicolon : RMok I_I_readsSemicolon I_I_readsChained 0 0 := ⟨⟨by decide, by decide⟩, by decide, by decide⟩
theorem md_S_addChained : MDv I_S_addChained 7 := ⟨tb_in (i := 420) (by decide +kernel) (by decide +kernel), tb_in (i := 421) (by decide +kernel) (by decide +kernel), rfl, ⟨tb_in (i := 84) (by decide +kernel) (by decide +kernel), tb_in (i := 422) (by decide +kernel) (by decide +kernel), ⟨by decide, by decide, by decide +kernel⟩⟩⟩
theorem ml_I_127 : Cond.methodLink RX0 127 yX2_addChained ∈ TB := tb_in (i := 419) (by decide +kernel) (by decide +kernel)
theorem rm_I_readsChained_S_addChained : RMok I_S_addChained I_I_readsChained 0 0 := ⟨⟨by decide, by decide⟩, by decide, by decide⟩
theorem rc_S_addChained : RC 2 I_S_addChained := ⟨by decide, _, _, rfl⟩
theorem ml_S_54 : Cond.methodLink RX2 54 yX2_addChained ∈ TB := tb_in (i := 432) (by decide +kernel) (by decide +kernel)
theorem rm_S_addPaced_S_addChained : RMok I_S_addChained I_S_addPaced 0 0 := ⟨⟨by decide, by decide⟩, by decide, by decide⟩
theorem rm_I_readsBog_I_newName : RMok I_I_newName I_I_readsBog 0 0 := ⟨⟨by decide, by decide⟩, by decide, by decide⟩
theorem rm_I_readsBog_I_mayTurnHere : RMok I_I_mayTurnHere I_I_readsBog 0 0 := ⟨⟨by decide, by decide⟩, by decide, by decide⟩
theorem rm_I_readsBog_I_numberHere : RMok I_I_numberHere I_I_readsBog 0 0 := ⟨⟨by decide, by decide⟩, by decide, by decide⟩
theorem rm_I_readsBog_I_readsSemicolon : RMok I_I_readsSemicolon I_I_readsBog 0 0 := ⟨⟨by decide, by decide⟩, by decide, by decide⟩
theorem md_S_addPaced : MDv I_S_addPaced 3 := ⟨tb_in (i := 429) (by decide +kernel) (by decide +kernel), tb_in (i := 430) (by decide +kernel) (by decide +kernel), rfl, ⟨tb_in (i := 84) (by decide +kernel) (by decide +kernel), tb_in (i := 431) (by decide +kernel) (by decide +kernel), ⟨by decide, by decide, by decide +kernel⟩⟩⟩
theorem ml_I_131 : Cond.methodLink RX0 131 yX2_addPaced ∈ TB := tb_in (i := 428) (by decide +kernel) (by decide +kernel)
theorem rm_I_readsBog_S_addPaced : RMok I_S_addPaced I_I_readsBog 0 0 := ⟨⟨by decide, by decide⟩, by decide, by decide⟩
theorem rc_S_addPaced : RC 2 I_S_addPaced := ⟨by decide, _, _, rfl⟩
theorem rm_I_legHere_I_nameHere : RMok I_I_nameHere I_I_legHere 0 0 := ⟨⟨by decide, by decide⟩, by decide, by decide⟩
theorem rm_I_legHere_S_legNamed : RMok I_S_legNamed I_I_legHere 0 0 := ⟨⟨by decide, by decide⟩, by decide, by decide⟩
theorem rm_I_legHere_L_advance : RMok I_L_advance I_I_legHere 0 0 := ⟨⟨by decide, by decide⟩, by decide, by decide⟩
theorem rm_I_legHere_I_fail : RMok I_I_fail I_I_legHere 0 0 := ⟨⟨by decide, by decide⟩, by decide, by decide⟩
theorem rm_I_readsPin_L_advance : RMok I_L_advance I_I_readsPin 0 0 := ⟨⟨by decide, by decide⟩, by decide, by decide⟩
theorem md_I_legHere : MDv I_I_legHere 0 := ⟨tb_in (i := 440) (by decide +kernel) (by decide +kernel), tb_in (i := 13) (by decide +kernel) (by decide +kernel), rfl, ⟨tb_in (i := 82) (by decide +kernel) (by decide +kernel), tb_in (i := 441) (by decide +kernel) (by decide +kernel), ⟨by decide, by decide, by decide +kernel⟩⟩⟩
theorem ml_I_135 : Cond.methodLink RX0 135 yX0_legHere ∈ TB := tb_in (i := 438) (by decide +kernel) (by decide +kernel)
theorem rm_I_readsPin_I_legHere : RMok I_I_legHere I_I_readsPin 0 0 := ⟨⟨by decide, by decide⟩, by decide, by decide⟩
theorem rc_I_legHere : RC 0 I_I_legHere := ⟨by decide, _, _, rfl⟩
theorem md_S_canFind : MDv I_S_canFind 1 := ⟨tb_in (i := 447) (by decide +kernel) (by decide +kernel), tb_in (i := 448) (by decide +kernel) (by decide +kernel), rfl, ⟨tb_in (i := 84) (by decide +kernel) (by decide +kernel), tb_in (i := 449) (by decide +kernel) (by decide +kernel), ⟨by decide, by decide, by decide +kernel⟩⟩⟩
theorem ml_I_141 : Cond.methodLink RX0 141 yX2_canFind ∈ TB := tb_in (i := 446) (by decide +kernel) (by decide +kernel)
theorem rm_I_readsPin_S_canFind : RMok I_S_canFind I_I_readsPin 0 0 := ⟨⟨by decide, by decide⟩, by decide, by decide⟩
theorem rc_S_canFind : RC 2 I_S_canFind := ⟨by decide, _, _, rfl⟩
theorem md_S_canDrop : MDv I_S_canDrop 1 := ⟨tb_in (i := 443) (by decide +kernel) (by decide +kernel), tb_in (i := 444) (by decide +kernel) (by decide +kernel), rfl, ⟨tb_in (i := 84) (by decide +kernel) (by decide +kernel), tb_in (i := 445) (by decide +kernel) (by decide +kernel), ⟨by decide, by decide, by decide +kernel⟩⟩⟩
theorem ml_I_138 : Cond.methodLink RX0 138 yX2_canDrop ∈ TB := tb_in (i := 442) (by decide +kernel) (by decide +kernel)
theorem rm_I_readsPin_S_canDrop : RMok I_S_canDrop I_I_readsPin 0 0 := ⟨⟨by decide, by decide⟩, by decide, by decide⟩
theorem rc_S_canDrop : RC 2 I_S_canDrop := ⟨by decide, _, _, rfl⟩
theorem rm_I_readsPin_I_readsSemicolon : RMok I_I_readsSemicolon I_I_readsPin 0 0 := ⟨⟨by decide, by decide⟩, by decide, by decide⟩
theorem fl_I_144 : FL RX0 144 2 6 := ⟨_, _, _, _, ck_2, by decide, tb_in (i := 164) (by decide +kernel) (by decide +kernel)⟩
theorem tt_4_6 : tg 4 6 = 12 := by decide +kernel
theorem kk_11 : kd 11 = 10 := by decide +kernel
theorem ll_11 : ln 11 = 20 := by decide +kernel
theorem rm_I_readsPin_I_fail : RMok I_I_fail I_I_readsPin 0 0 := ⟨⟨by decide, by decide⟩, by decide, by decide⟩
theorem rm_I_readsAdjusted_L_advance : RMok I_L_advance I_I_readsAdjusted 0 0 := ⟨⟨by decide, by decide⟩, by decide, by decide⟩
theorem fw_I_151 : FW RX0 151 2 12 .boolean := ⟨_, _, _, _, ck_2, by decide, tb_in (i := 180) (by decide +kernel) (by decide +kernel), rfl, by decide +kernel⟩
theorem tt_4_12 : tg 4 12 = 0 := by decide +kernel
theorem rm_I_readsAdjusted_I_readsSemicolon : RMok I_I_readsSemicolon I_I_readsAdjusted 0 0 := ⟨⟨by decide, by decide⟩, by decide, by decide⟩
theorem rm_I_readsBack_L_advance : RMok I_L_advance I_I_readsBack 0 0 := ⟨⟨by decide, by decide⟩, by decide, by decide⟩
theorem rm_I_readsBack_I_fail : RMok I_I_fail I_I_readsBack 0 0 := ⟨⟨by decide, by decide⟩, by decide, by decide⟩
theorem rm_I_readsBack_I_readsSemicolon : RMok I_I_readsSemicolon I_I_readsBack 0 0 := ⟨⟨by decide, by decide⟩, by decide, by decide⟩
theorem fw_I_155 : FW RX0 155 2 9 .int := ⟨_, _, _, _, ck_2, by decide, tb_in (i := 171) (by decide +kernel) (by decide +kernel), rfl, by decide +kernel⟩
theorem rm_I_readsCommand_L_isAt : RMok I_L_isAt I_I_readsCommand 0 0 := ⟨⟨by decide, by decide⟩, by decide, by decide⟩
theorem rm_I_readsCommand_I_fail : RMok I_I_fail I_I_readsCommand 0 0 := ⟨⟨by decide, by decide⟩, by decide, by decide⟩
theorem md_I_readsBack : MDv I_I_readsBack 0 := ⟨tb_in (i := 462) (by decide +kernel) (by decide +kernel), tb_in (i := 15) (by decide +kernel) (by decide +kernel), rfl, ⟨tb_in (i := 82) (by decide +kernel) (by decide +kernel), tb_in (i := 463) (by decide +kernel) (by decide +kernel), ⟨by decide, by decide, by decide +kernel⟩⟩⟩
theorem ml_I_104 : Cond.methodLink RX0 104 yX0_readsBack ∈ TB := tb_in (i := 460) (by decide +kernel) (by decide +kernel)
theorem rm_I_readsCommand_I_readsBack : RMok I_I_readsBack I_I_readsCommand 0 0 := ⟨⟨by decide, by decide⟩, by decide, by decide⟩
theorem rc_I_readsBack : RC 0 I_I_readsBack := ⟨by decide, _, _, rfl⟩
theorem md_I_readsAdjusted : MDv I_I_readsAdjusted 1 := ⟨tb_in (i := 456) (by decide +kernel) (by decide +kernel), tb_in (i := 14) (by decide +kernel) (by decide +kernel), rfl, ⟨tb_in (i := 82) (by decide +kernel) (by decide +kernel), tb_in (i := 457) (by decide +kernel) (by decide +kernel), ⟨by decide, by decide, by decide +kernel⟩⟩⟩
theorem ml_I_97 : Cond.methodLink RX0 97 yX0_readsAdjusted ∈ TB := tb_in (i := 454) (by decide +kernel) (by decide +kernel)
theorem rm_I_readsCommand_I_readsAdjusted : RMok I_I_readsAdjusted I_I_readsCommand 0 0 := ⟨⟨by decide, by decide⟩, by decide, by decide⟩
theorem rc_I_readsAdjusted : RC 0 I_I_readsAdjusted := ⟨by decide, _, _, rfl⟩
theorem rm_I_readsCommand_L_advance : RMok I_L_advance I_I_readsCommand 0 0 := ⟨⟨by decide, by decide⟩, by decide, by decide⟩
theorem rm_I_readsCommand_I_readsPace : RMok I_I_readsPace I_I_readsCommand 0 0 := ⟨⟨by decide, by decide⟩, by decide, by decide⟩
theorem rm_I_readsCommand_I_readsSemicolon : RMok I_I_readsSemicolon I_I_readsCommand 0 0 := ⟨⟨by decide, by decide⟩, by decide, by decide⟩
theorem rm_I_readsCommand_I_readsWear : RMok I_I_readsWear I_I_readsCommand 0 0 := ⟨⟨by decide, by decide⟩, by decide, by decide⟩
theorem md_I_readsPin : MDv I_I_readsPin 1 := ⟨tb_in (i := 436) (by decide +kernel) (by decide +kernel), tb_in (i := 12) (by decide +kernel) (by decide +kernel), rfl, ⟨tb_in (i := 82) (by decide +kernel) (by decide +kernel), tb_in (i := 437) (by decide +kernel) (by decide +kernel), ⟨by decide, by decide, by decide +kernel⟩⟩⟩
theorem ml_I_85 : Cond.methodLink RX0 85 yX0_readsPin ∈ TB := tb_in (i := 434) (by decide +kernel) (by decide +kernel)
theorem rm_I_readsCommand_I_readsPin : RMok I_I_readsPin I_I_readsCommand 0 0 := ⟨⟨by decide, by decide⟩, by decide, by decide⟩
theorem rc_I_readsPin : RC 0 I_I_readsPin := ⟨by decide, _, _, rfl⟩
theorem md_I_readsBog : MDv I_I_readsBog 0 := ⟨tb_in (i := 426) (by decide +kernel) (by decide +kernel), tb_in (i := 11) (by decide +kernel) (by decide +kernel), rfl, ⟨tb_in (i := 82) (by decide +kernel) (by decide +kernel), tb_in (i := 427) (by decide +kernel) (by decide +kernel), ⟨by decide, by decide, by decide +kernel⟩⟩⟩
theorem ml_I_80 : Cond.methodLink RX0 80 yX0_readsBog ∈ TB := tb_in (i := 424) (by decide +kernel) (by decide +kernel)
theorem rm_I_readsCommand_I_readsBog : RMok I_I_readsBog I_I_readsCommand 0 0 := ⟨⟨by decide, by decide⟩, by decide, by decide⟩
theorem rc_I_readsBog : RC 0 I_I_readsBog := ⟨by decide, _, _, rfl⟩
theorem md_I_readsChained : MDv I_I_readsChained 0 := ⟨tb_in (i := 387) (by decide +kernel) (by decide +kernel), tb_in (i := 6) (by decide +kernel) (by decide +kernel), rfl, ⟨tb_in (i := 82) (by decide +kernel) (by decide +kernel), tb_in (i := 388) (by decide +kernel) (by decide +kernel), ⟨by decide, by decide, by decide +kernel⟩⟩⟩
theorem ml_I_75 : Cond.methodLink RX0 75 yX0_readsChained ∈ TB := tb_in (i := 385) (by decide +kernel) (by decide +kernel)
theorem rm_I_readsCommand_I_readsChained : RMok I_I_readsChained I_I_readsCommand 0 0 := ⟨⟨by decide, by decide⟩, by decide, by decide⟩
theorem rc_I_readsChained : RC 0 I_I_readsChained := ⟨by decide, _, _, rfl⟩
theorem fw_I_64 : FW RX0 64 0 2 .int := ⟨_, _, _, _, ck_0, by decide, tb_in (i := 215) (by decide +kernel) (by decide +kernel), rfl, by decide +kernel⟩
theorem tt_1_2 : tg 1 2 = 0 := by decide +kernel
theorem fl_I_64 : FL RX0 64 0 2 := ⟨_, _, _, _, ck_0, by decide, tb_in (i := 215) (by decide +kernel) (by decide +kernel)⟩
theorem sp_900 : (Int16.ofInt 900).toInt32 = 900 := by decide
theorem md_I_readsCommand : MDv I_I_readsCommand 0 := ⟨tb_in (i := 382) (by decide +kernel) (by decide +kernel), tb_in (i := 5) (by decide +kernel) (by decide +kernel), rfl, ⟨tb_in (i := 82) (by decide +kernel) (by decide +kernel), tb_in (i := 383) (by decide +kernel) (by decide +kernel), ⟨by decide, by decide, by decide +kernel⟩⟩⟩
theorem ml_I_70 : Cond.methodLink RX0 70 yX0_readsCommand ∈ TB := tb_in (i := 380) (by decide +kernel) (by decide +kernel)
theorem rm_I_readsCommands_I_readsCommand : RMok I_I_readsCommand I_I_readsCommands 0 0 := ⟨⟨by decide, by decide⟩, by decide, by decide⟩
theorem rc_I_readsCommand : RC 0 I_I_readsCommand := ⟨by decide, _, _, rfl⟩
theorem fl_S_51 : FL RX2 51 2 10 := ⟨_, _, _, _, ck_2, by decide, tb_in (i := 172) (by decide +kernel) (by decide +kernel)⟩
theorem fw_S_51 : FW RX2 51 2 10 .int := ⟨_, _, _, _, ck_2, by decide, tb_in (i := 172) (by decide +kernel) (by decide +kernel), rfl, by decide +kernel⟩
theorem fl_S_40 : FL RX2 40 2 11 := ⟨_, _, _, _, ck_2, by decide, tb_in (i := 175) (by decide +kernel) (by decide +kernel)⟩
theorem fw_S_40 : FW RX2 40 2 11 .int := ⟨_, _, _, _, ck_2, by decide, tb_in (i := 175) (by decide +kernel) (by decide +kernel), rfl, by decide +kernel⟩
theorem fl_S_47 : FL RX2 47 2 12 := ⟨_, _, _, _, ck_2, by decide, tb_in (i := 178) (by decide +kernel) (by decide +kernel)⟩
theorem sp_10000 : (Int16.ofInt 10000).toInt32 = 10000 := by decide
theorem md_S_readUnits : MDv I_S_readUnits 1 := ⟨tb_in (i := 602) (by decide +kernel) (by decide +kernel), tb_in (i := 603) (by decide +kernel) (by decide +kernel), rfl, ⟨tb_in (i := 84) (by decide +kernel) (by decide +kernel), tb_in (i := 604) (by decide +kernel) (by decide +kernel), ⟨by decide, by decide, by decide +kernel⟩⟩⟩
theorem ml_S_58 : Cond.methodLink RX2 58 yX2_readUnits ∈ TB := tb_in (i := 601) (by decide +kernel) (by decide +kernel)
theorem rm_S_slopeUnits_S_readUnits : RMok I_S_readUnits I_S_slopeUnits 0 0 := ⟨⟨by decide, by decide⟩, by decide, by decide⟩
theorem rc_S_readUnits : RC 2 I_S_readUnits := ⟨by decide, _, _, rfl⟩
theorem cj_S_62 : Cond.constantLong RX2 62 10000 ∈ TB := tb_in (i := 605) (by decide +kernel) (by decide +kernel)
theorem cj_S_64 : Cond.constantLong RX2 64 12 ∈ TB := tb_in (i := 606) (by decide +kernel) (by decide +kernel)
theorem cj_S_66 : Cond.constantLong RX2 66 1000000 ∈ TB := tb_in (i := 607) (by decide +kernel) (by decide +kernel)
theorem cn_C_357 : Cond.constant RX4 357 1073741824 ∈ TB := tb_in (i := 611) (by decide +kernel) (by decide +kernel)
theorem md_S_slopeUnits : MDv I_S_slopeUnits 1 := ⟨tb_in (i := 598) (by decide +kernel) (by decide +kernel), tb_in (i := 599) (by decide +kernel) (by decide +kernel), rfl, ⟨tb_in (i := 84) (by decide +kernel) (by decide +kernel), tb_in (i := 600) (by decide +kernel) (by decide +kernel), ⟨by decide, by decide, by decide +kernel⟩⟩⟩
theorem ml_S_68 : Cond.methodLink RX2 68 yX2_slopeUnits ∈ TB := tb_in (i := 597) (by decide +kernel) (by decide +kernel)
theorem rm_S_horizontalUnits_S_slopeUnits : RMok I_S_slopeUnits I_S_horizontalUnits 0 0 := ⟨⟨by decide, by decide⟩, by decide, by decide⟩
theorem rc_S_slopeUnits : RC 2 I_S_slopeUnits := ⟨by decide, _, _, rfl⟩
theorem md_C_root : MDs I_C_root 1 := ⟨tb_in (i := 609) (by decide +kernel) (by decide +kernel), rfl, ⟨tb_in (i := 81) (by decide +kernel) (by decide +kernel), tb_in (i := 610) (by decide +kernel) (by decide +kernel), ⟨by decide, by decide, by decide +kernel⟩⟩⟩
theorem mn_S_71 : Cond.methodLinkNest RX2 71 yX4_root "ChainSurvey" ∈ lw_tbl := List.mem_of_getElem? (i := 608) (by decide +kernel)
theorem rm_S_horizontalUnits_C_root : RMok I_C_root I_S_horizontalUnits 0 0 := ⟨⟨by decide, by decide⟩, by decide, by decide⟩
theorem sp_360 : (Int16.ofInt 360).toInt32 = 360 := by decide
theorem md_Q_floorMod : MDs I_Q_floorMod 2 := ⟨tb_in (i := 619) (by decide +kernel) (by decide +kernel), rfl, ⟨tb_in (i := 90) (by decide +kernel) (by decide +kernel), tb_in (i := 620) (by decide +kernel) (by decide +kernel), ⟨by decide, by decide, by decide +kernel⟩⟩⟩
theorem ml_C_345 : Cond.methodLink RX4 345 yJ9_floorMod_7cf53 ∈ TB := tb_in (i := 618) (by decide +kernel) (by decide +kernel)
theorem rm_C_cosine_Q_floorMod : RMok I_Q_floorMod I_C_cosine 0 0 := ⟨⟨by decide, by decide⟩, by decide, by decide⟩
theorem sp_180 : (Int16.ofInt 180).toInt32 = 180 := by decide
theorem bp_90 : (Int8.ofInt 90).toInt32 = 90 := by decide
theorem gs_C_348 : Cond.fieldLink RX4 348 RX4 "COSINES" "[I" ∈ TB := tb_in (i := 621) (by decide +kernel) (by decide +kernel)
theorem md_C_cosine : MDs I_C_cosine 1 := ⟨tb_in (i := 616) (by decide +kernel) (by decide +kernel), rfl, ⟨tb_in (i := 81) (by decide +kernel) (by decide +kernel), tb_in (i := 617) (by decide +kernel) (by decide +kernel), ⟨by decide, by decide, by decide +kernel⟩⟩⟩
theorem ml_C_236 : Cond.methodLink RX4 236 yX4_cosine ∈ TB := tb_in (i := 615) (by decide +kernel) (by decide +kernel)
theorem rm_C_sine_C_cosine : RMok I_C_cosine I_C_sine 0 0 := ⟨⟨by decide, by decide⟩, by decide, by decide⟩
theorem cj_C_351 : Cond.constantLong RX4 351 10000 ∈ TB := tb_in (i := 626) (by decide +kernel) (by decide +kernel)
theorem ck_3 : CK 3 RX3 TX3 6 tyX3 := ⟨rfl, by decide, by decide, uws_in [172, 174, 176, 178, 180, 182] (by decide +kernel), tyX3_ok, nmX3⟩
theorem fl_T_15 : FL RX3 15 3 1 := ⟨_, _, _, _, ck_3, by decide, tb_in (i := 242) (by decide +kernel) (by decide +kernel)⟩
theorem kk_25 : kd 25 = 3 := by decide +kernel
theorem tt_25_1 : tg 25 1 = 28 := by decide +kernel
theorem fl_T_33 : FL RX3 33 3 5 := ⟨_, _, _, _, ck_3, by decide, tb_in (i := 250) (by decide +kernel) (by decide +kernel)⟩
theorem tt_25_5 : tg 25 5 = 0 := by decide +kernel
theorem kk_27 : kd 27 = 10 := by decide +kernel
theorem ll_27 : ln 27 = 21 := by decide +kernel
theorem fl_T_9 : FL RX3 9 3 0 := ⟨_, _, _, _, ck_3, by decide, tb_in (i := 240) (by decide +kernel) (by decide +kernel)⟩
theorem tt_25_0 : tg 25 0 = 27 := by decide +kernel
theorem kk_26 : kd 26 = 10 := by decide +kernel
theorem ll_26 : ln 26 = 21 := by decide +kernel
theorem md_T_totalRun : MDv I_T_totalRun 0 := ⟨tb_in (i := 637) (by decide +kernel) (by decide +kernel), tb_in (i := 638) (by decide +kernel) (by decide +kernel), rfl, ⟨tb_in (i := 85) (by decide +kernel) (by decide +kernel), tb_in (i := 639) (by decide +kernel) (by decide +kernel), ⟨by decide, by decide, by decide +kernel⟩⟩⟩
theorem ml_T_65 : Cond.methodLink RX3 65 yX3_totalRun ∈ TB := tb_in (i := 636) (by decide +kernel) (by decide +kernel)
theorem rm_T_shareAt_T_totalRun : RMok I_T_totalRun I_T_shareAt 0 0 := ⟨⟨by decide, by decide⟩, by decide, by decide⟩
theorem rc_T_totalRun : RC 3 I_T_totalRun := ⟨by decide, _, _, rfl⟩
theorem fl_T_18 : FL RX3 18 3 2 := ⟨_, _, _, _, ck_3, by decide, tb_in (i := 244) (by decide +kernel) (by decide +kernel)⟩
theorem tt_25_2 : tg 25 2 = 29 := by decide +kernel
theorem kk_28 : kd 28 = 10 := by decide +kernel
theorem ll_28 : ln 28 = 21 := by decide +kernel
theorem fl_T_27 : FL RX3 27 2 9 := ⟨_, _, _, _, ck_2, by decide, tb_in (i := 169) (by decide +kernel) (by decide +kernel)⟩
theorem fw_T_33 : FW RX3 33 3 5 .int := ⟨_, _, _, _, ck_3, by decide, tb_in (i := 250) (by decide +kernel) (by decide +kernel), rfl, by decide +kernel⟩
theorem md_S_horizontalUnits : MDv I_S_horizontalUnits 1 := ⟨tb_in (i := 594) (by decide +kernel) (by decide +kernel), tb_in (i := 595) (by decide +kernel) (by decide +kernel), rfl, ⟨tb_in (i := 84) (by decide +kernel) (by decide +kernel), tb_in (i := 596) (by decide +kernel) (by decide +kernel), ⟨by decide, by decide, by decide +kernel⟩⟩⟩
theorem ml_T_34 : Cond.methodLink RX3 34 yX2_horizontalUnits ∈ TB := tb_in (i := 593) (by decide +kernel) (by decide +kernel)
theorem rm_T_follow_S_horizontalUnits : RMok I_S_horizontalUnits I_T_follow 0 0 := ⟨⟨by decide, by decide⟩, by decide, by decide⟩
theorem rc_S_horizontalUnits : RC 2 I_S_horizontalUnits := ⟨by decide, _, _, rfl⟩
theorem fl_T_38 : FL RX3 38 2 1 := ⟨_, _, _, _, ck_2, by decide, tb_in (i := 154) (by decide +kernel) (by decide +kernel)⟩
theorem md_C_sine : MDs I_C_sine 1 := ⟨tb_in (i := 613) (by decide +kernel) (by decide +kernel), rfl, ⟨tb_in (i := 81) (by decide +kernel) (by decide +kernel), tb_in (i := 614) (by decide +kernel) (by decide +kernel), ⟨by decide, by decide, by decide +kernel⟩⟩⟩
theorem mn_T_41 : Cond.methodLinkNest RX3 41 yX4_sine "ChainSurvey" ∈ lw_tbl := List.mem_of_getElem? (i := 612) (by decide +kernel)
theorem rm_T_follow_C_sine : RMok I_C_sine I_T_follow 0 0 := ⟨⟨by decide, by decide⟩, by decide, by decide⟩
theorem md_C_stepOf : MDs I_C_stepOf 2 := ⟨tb_in (i := 624) (by decide +kernel) (by decide +kernel), rfl, ⟨tb_in (i := 81) (by decide +kernel) (by decide +kernel), tb_in (i := 625) (by decide +kernel) (by decide +kernel), ⟨by decide, by decide, by decide +kernel⟩⟩⟩
theorem mn_T_44 : Cond.methodLinkNest RX3 44 yX4_stepOf "ChainSurvey" ∈ lw_tbl := List.mem_of_getElem? (i := 623) (by decide +kernel)
theorem rm_T_follow_C_stepOf : RMok I_C_stepOf I_T_follow 0 0 := ⟨⟨by decide, by decide⟩, by decide, by decide⟩
theorem mn_T_48 : Cond.methodLinkNest RX3 48 yX4_cosine "ChainSurvey" ∈ lw_tbl := List.mem_of_getElem? (i := 627) (by decide +kernel)
theorem rm_T_follow_C_cosine : RMok I_C_cosine I_T_follow 0 0 := ⟨⟨by decide, by decide⟩, by decide, by decide⟩
theorem fl_T_21 : FL RX3 21 3 3 := ⟨_, _, _, _, ck_3, by decide, tb_in (i := 246) (by decide +kernel) (by decide +kernel)⟩
theorem tt_25_3 : tg 25 3 = 30 := by decide +kernel
theorem kk_29 : kd 29 = 10 := by decide +kernel
theorem ll_29 : ln 29 = 21 := by decide +kernel
theorem fl_T_24 : FL RX3 24 3 4 := ⟨_, _, _, _, ck_3, by decide, tb_in (i := 248) (by decide +kernel) (by decide +kernel)⟩
theorem tt_25_4 : tg 25 4 = 31 := by decide +kernel
theorem kk_30 : kd 30 = 10 := by decide +kernel
theorem ll_30 : ln 30 = 21 := by decide +kernel
theorem fl_T_51 : FL RX3 51 2 12 := ⟨_, _, _, _, ck_2, by decide, tb_in (i := 179) (by decide +kernel) (by decide +kernel)⟩
theorem md_T_endEast : MDv I_T_endEast 0 := ⟨tb_in (i := 629) (by decide +kernel) (by decide +kernel), tb_in (i := 630) (by decide +kernel) (by decide +kernel), rfl, ⟨tb_in (i := 85) (by decide +kernel) (by decide +kernel), tb_in (i := 631) (by decide +kernel) (by decide +kernel), ⟨by decide, by decide, by decide +kernel⟩⟩⟩
theorem ml_T_55 : Cond.methodLink RX3 55 yX3_endEast ∈ TB := tb_in (i := 628) (by decide +kernel) (by decide +kernel)
theorem rm_T_follow_T_endEast : RMok I_T_endEast I_T_follow 0 0 := ⟨⟨by decide, by decide⟩, by decide, by decide⟩
theorem rc_T_endEast : RC 3 I_T_endEast := ⟨by decide, _, _, rfl⟩
theorem md_T_shareAt : MDv I_T_shareAt 2 := ⟨tb_in (i := 634) (by decide +kernel) (by decide +kernel), tb_in (i := 20) (by decide +kernel) (by decide +kernel), rfl, ⟨tb_in (i := 85) (by decide +kernel) (by decide +kernel), tb_in (i := 635) (by decide +kernel) (by decide +kernel), ⟨by decide, by decide, by decide +kernel⟩⟩⟩
theorem ml_T_59 : Cond.methodLink RX3 59 yX3_shareAt ∈ TB := tb_in (i := 632) (by decide +kernel) (by decide +kernel)
theorem rm_T_follow_T_shareAt : RMok I_T_shareAt I_T_follow 0 0 := ⟨⟨by decide, by decide⟩, by decide, by decide⟩
theorem rc_T_shareAt : RC 3 I_T_shareAt := ⟨by decide, _, _, rfl⟩
theorem md_T_endNorth : MDv I_T_endNorth 0 := ⟨tb_in (i := 641) (by decide +kernel) (by decide +kernel), tb_in (i := 642) (by decide +kernel) (by decide +kernel), rfl, ⟨tb_in (i := 85) (by decide +kernel) (by decide +kernel), tb_in (i := 643) (by decide +kernel) (by decide +kernel), ⟨by decide, by decide, by decide +kernel⟩⟩⟩
theorem ml_T_62 : Cond.methodLink RX3 62 yX3_endNorth ∈ TB := tb_in (i := 640) (by decide +kernel) (by decide +kernel)
theorem rm_T_follow_T_endNorth : RMok I_T_endNorth I_T_follow 0 0 := ⟨⟨by decide, by decide⟩, by decide, by decide⟩
theorem rc_T_endNorth : RC 3 I_T_endNorth := ⟨by decide, _, _, rfl⟩
theorem ml_C_353 : Cond.methodLink RX4 353 yX4_root ∈ TB := tb_in (i := 666) (by decide +kernel) (by decide +kernel)
theorem rm_C_distance_C_root : RMok I_C_root I_C_distance 0 0 := ⟨⟨by decide, by decide⟩, by decide, by decide⟩
theorem rm_T_closingDistance_T_endEast : RMok I_T_endEast I_T_closingDistance 0 0 := ⟨⟨by decide, by decide⟩, by decide, by decide⟩
theorem rm_T_closingDistance_T_endNorth : RMok I_T_endNorth I_T_closingDistance 0 0 := ⟨⟨by decide, by decide⟩, by decide, by decide⟩
theorem md_C_distance : MDs I_C_distance 2 := ⟨tb_in (i := 664) (by decide +kernel) (by decide +kernel), rfl, ⟨tb_in (i := 81) (by decide +kernel) (by decide +kernel), tb_in (i := 665) (by decide +kernel) (by decide +kernel), ⟨by decide, by decide, by decide +kernel⟩⟩⟩
theorem mn_T_68 : Cond.methodLinkNest RX3 68 yX4_distance "ChainSurvey" ∈ lw_tbl := List.mem_of_getElem? (i := 663) (by decide +kernel)
theorem rm_T_closingDistance_C_distance : RMok I_C_distance I_T_closingDistance 0 0 := ⟨⟨by decide, by decide⟩, by decide, by decide⟩
theorem rm_T_distanceOf_C_distance : RMok I_C_distance I_T_distanceOf 0 0 := ⟨⟨by decide, by decide⟩, by decide, by decide⟩
theorem ml_T_71 : Cond.methodLink RX3 71 yJ9_abs_067f4 ∈ TB := tb_in (i := 710) (by decide +kernel) (by decide +kernel)
theorem ms_absJ : Cond.static Lib.MathLoose.abs_long.x ∈ TB := tb_in (i := 711) (by decide +kernel) (by decide +kernel)
theorem mc_absJ : Cond.code Lib.MathLoose.abs_long.x Lib.MathLoose.abs_long.code 2 (some .long) ∈ TB := tb_in (i := 712) (by decide +kernel) (by decide +kernel)
theorem cj_T_77 : Cond.constantLong RX3 77 2 ∈ TB := tb_in (i := 713) (by decide +kernel) (by decide +kernel)
theorem bp_24 : (Int8.ofInt 24).toInt32 = 24 := by decide
theorem ck_4 : CK 4 RX4 TX4 15 tyX4 := ⟨rfl, by decide, by decide, uws_in [403, 405, 407, 409, 411, 413, 415, 417, 419, 421, 423, 425, 427, 429, 431] (by decide +kernel), tyX4_ok, nmX4⟩
theorem fl_C_94 : FL RX4 94 4 2 := ⟨_, _, _, _, ck_4, by decide, tb_in (i := 470) (by decide +kernel) (by decide +kernel)⟩
theorem kk_0 : kd 0 = 4 := by decide +kernel
theorem tt_0_2 : tg 0 2 = 0 := by decide +kernel
theorem fl_C_26 : FL RX4 26 4 1 := ⟨_, _, _, _, ck_4, by decide, tb_in (i := 469) (by decide +kernel) (by decide +kernel)⟩
theorem tt_0_1 : tg 0 1 = 4 := by decide +kernel
theorem fw_C_94 : FW RX4 94 4 2 .int := ⟨_, _, _, _, ck_4, by decide, tb_in (i := 470) (by decide +kernel) (by decide +kernel), rfl, by decide +kernel⟩
theorem inc_m8 (x : Int32) : x + Int32.ofInt (-8) = x + -8 := rfl
theorem md_C_appendWord : MDv I_C_appendWord 1 := ⟨tb_in (i := 520) (by decide +kernel) (by decide +kernel), tb_in (i := 16) (by decide +kernel) (by decide +kernel), rfl, ⟨tb_in (i := 81) (by decide +kernel) (by decide +kernel), tb_in (i := 521) (by decide +kernel) (by decide +kernel), ⟨by decide, by decide, by decide +kernel⟩⟩⟩
theorem ml_C_97 : Cond.methodLink RX4 97 yX4_appendWord ∈ TB := tb_in (i := 518) (by decide +kernel) (by decide +kernel)
theorem rm_C_append_C_appendWord : RMok I_C_appendWord I_C_append 0 0 := ⟨⟨by decide, by decide⟩, by decide, by decide⟩
theorem rc_C_appendWord : RC 4 I_C_appendWord := ⟨by decide, _, _, rfl⟩
theorem rm_C_truncateInput_C_isBetween : RMok I_C_isBetween I_C_truncateInput 0 0 := ⟨⟨by decide, by decide⟩, by decide, by decide⟩
theorem cl_C_104 : Cond.classLink RX4 104 "java/lang/IllegalArgumentException" ∈ TB := tb_in (i := 781) (by decide +kernel) (by decide +kernel)
theorem ini_1 : Cond.initialized "java/lang/IllegalArgumentException" ∈ TB := tb_in (i := 96) (by decide +kernel) (by decide +kernel)
theorem at_C_108 : ∀ w ∈ vx_atS RX4 108 "java/lang/IllegalArgumentException" exN, AT w := at_of (by decide +kernel)
theorem fl_C_56 : FL RX4 56 4 10 := ⟨_, _, _, _, ck_4, by decide, tb_in (i := 478) (by decide +kernel) (by decide +kernel)⟩
theorem tt_0_10 : tg 0 10 = 32 := by decide +kernel
theorem fl_C_201 : FL RX4 201 4 11 := ⟨_, _, _, _, ck_4, by decide, tb_in (i := 479) (by decide +kernel) (by decide +kernel)⟩
theorem tt_0_11 : tg 0 11 = 0 := by decide +kernel
theorem kk_31 : kd 31 = 14 := by decide +kernel
theorem ll_31 : ln 31 = 8 := by decide +kernel
theorem fl_C_39 : FL RX4 39 4 7 := ⟨_, _, _, _, ck_4, by decide, tb_in (i := 475) (by decide +kernel) (by decide +kernel)⟩
theorem tt_0_7 : tg 0 7 = 16 := by decide +kernel
theorem sv_15 : isSv 15 := by unfold isSv; decide
theorem md_S_copyFrom : MDv I_S_copyFrom 1 := ⟨tb_in (i := 465) (by decide +kernel) (by decide +kernel), tb_in (i := 466) (by decide +kernel) (by decide +kernel), rfl, ⟨tb_in (i := 84) (by decide +kernel) (by decide +kernel), tb_in (i := 467) (by decide +kernel) (by decide +kernel), ⟨by decide, by decide, by decide +kernel⟩⟩⟩
theorem ml_C_90 : Cond.methodLink RX4 90 yX2_copyFrom ∈ TB := tb_in (i := 464) (by decide +kernel) (by decide +kernel)
theorem rm_C_remember_S_copyFrom : RMok I_S_copyFrom I_C_remember 0 0 := ⟨⟨by decide, by decide⟩, by decide, by decide⟩
theorem rc_S_copyFrom : RC 2 I_S_copyFrom := ⟨by decide, _, _, rfl⟩
theorem bp_7 : (Int8.ofInt 7).toInt32 = 7 := by decide
theorem fw_C_201 : FW RX4 201 4 11 .int := ⟨_, _, _, _, ck_4, by decide, tb_in (i := 479) (by decide +kernel) (by decide +kernel), rfl, by decide +kernel⟩
theorem fl_C_196 : FL RX4 196 4 12 := ⟨_, _, _, _, ck_4, by decide, tb_in (i := 480) (by decide +kernel) (by decide +kernel)⟩
theorem tt_0_12 : tg 0 12 = 0 := by decide +kernel
theorem bp_8 : (Int8.ofInt 8).toInt32 = 8 := by decide
theorem ml_C_204 : Cond.methodLink RX4 204 yJ9_min_7cf53 ∈ TB := tb_in (i := 534) (by decide +kernel) (by decide +kernel)
theorem fw_C_196 : FW RX4 196 4 12 .int := ⟨_, _, _, _, ck_4, by decide, tb_in (i := 480) (by decide +kernel) (by decide +kernel), rfl, by decide +kernel⟩
theorem fl_C_10 : FL RX4 10 4 0 := ⟨_, _, _, _, ck_4, by decide, tb_in (i := 468) (by decide +kernel) (by decide +kernel)⟩
theorem tt_0_0 : tg 0 0 = 2 := by decide +kernel
theorem fl_C_121 : FL RX4 121 0 3 := ⟨_, _, _, _, ck_0, by decide, tb_in (i := 218) (by decide +kernel) (by decide +kernel)⟩
theorem fw_C_124 : FW RX4 124 4 3 .int := ⟨_, _, _, _, ck_4, by decide, tb_in (i := 471) (by decide +kernel) (by decide +kernel), rfl, by decide +kernel⟩
theorem tt_0_3 : tg 0 3 = 0 := by decide +kernel
theorem fl_C_127 : FL RX4 127 0 4 := ⟨_, _, _, _, ck_0, by decide, tb_in (i := 220) (by decide +kernel) (by decide +kernel)⟩
theorem fw_C_29 : FW RX4 29 4 4 .int := ⟨_, _, _, _, ck_4, by decide, tb_in (i := 472) (by decide +kernel) (by decide +kernel), rfl, by decide +kernel⟩
theorem tt_0_4 : tg 0 4 = 0 := by decide +kernel
theorem md_C_remember : MDv I_C_remember 0 := ⟨tb_in (i := 532) (by decide +kernel) (by decide +kernel), tb_in (i := 18) (by decide +kernel) (by decide +kernel), rfl, ⟨tb_in (i := 81) (by decide +kernel) (by decide +kernel), tb_in (i := 533) (by decide +kernel) (by decide +kernel), ⟨by decide, by decide, by decide +kernel⟩⟩⟩
theorem ml_C_130 : Cond.methodLink RX4 130 yX4_remember ∈ TB := tb_in (i := 530) (by decide +kernel) (by decide +kernel)
theorem rm_C_settleText_C_remember : RMok I_C_remember I_C_settleText 0 0 := ⟨⟨by decide, by decide⟩, by decide, by decide⟩
theorem rc_C_remember : RC 4 I_C_remember := ⟨by decide, _, _, rfl⟩
theorem fl_C_46 : FL RX4 46 4 8 := ⟨_, _, _, _, ck_4, by decide, tb_in (i := 476) (by decide +kernel) (by decide +kernel)⟩
theorem tt_0_8 : tg 0 8 = 5 := by decide +kernel
theorem rm_C_settleText_S_copyFrom : RMok I_S_copyFrom I_C_settleText 0 0 := ⟨⟨by decide, by decide⟩, by decide, by decide⟩
theorem kk_15 : kd 15 = 2 := by decide +kernel
theorem md_I_begin : MDv I_I_begin 1 := ⟨tb_in (i := 316) (by decide +kernel) (by decide +kernel), tb_in (i := 317) (by decide +kernel) (by decide +kernel), rfl, ⟨tb_in (i := 82) (by decide +kernel) (by decide +kernel), tb_in (i := 318) (by decide +kernel) (by decide +kernel), ⟨by decide, by decide, by decide +kernel⟩⟩⟩
theorem ml_C_79 : Cond.methodLink RX4 79 yX0_begin ∈ TB := tb_in (i := 315) (by decide +kernel) (by decide +kernel)
theorem rm_C_load_I_begin : RMok I_I_begin I_C_load 0 0 := ⟨⟨by decide, by decide⟩, by decide, by decide⟩
theorem rc_I_begin : RC 0 I_I_begin := ⟨by decide, _, _, rfl⟩
theorem md_I_readsHead : MDv I_I_readsHead 0 := ⟨tb_in (i := 338) (by decide +kernel) (by decide +kernel), tb_in (i := 339) (by decide +kernel) (by decide +kernel), rfl, ⟨tb_in (i := 82) (by decide +kernel) (by decide +kernel), tb_in (i := 340) (by decide +kernel) (by decide +kernel), ⟨by decide, by decide, by decide +kernel⟩⟩⟩
theorem ml_C_83 : Cond.methodLink RX4 83 yX0_readsHead ∈ TB := tb_in (i := 337) (by decide +kernel) (by decide +kernel)
theorem rm_C_load_I_readsHead : RMok I_I_readsHead I_C_load 0 0 := ⟨⟨by decide, by decide⟩, by decide, by decide⟩
theorem rc_I_readsHead : RC 0 I_I_readsHead := ⟨by decide, _, _, rfl⟩
theorem md_I_readsCommands : MDv I_I_readsCommands 0 := ⟨tb_in (i := 377) (by decide +kernel) (by decide +kernel), tb_in (i := 378) (by decide +kernel) (by decide +kernel), rfl, ⟨tb_in (i := 82) (by decide +kernel) (by decide +kernel), tb_in (i := 379) (by decide +kernel) (by decide +kernel), ⟨by decide, by decide, by decide +kernel⟩⟩⟩
theorem ml_C_87 : Cond.methodLink RX4 87 yX0_readsCommands ∈ TB := tb_in (i := 376) (by decide +kernel) (by decide +kernel)
theorem rm_C_load_I_readsCommands : RMok I_I_readsCommands I_C_load 0 0 := ⟨⟨by decide, by decide⟩, by decide, by decide⟩
theorem rc_I_readsCommands : RC 0 I_I_readsCommands := ⟨by decide, _, _, rfl⟩
theorem md_C_settleText : MDv I_C_settleText 1 := ⟨tb_in (i := 528) (by decide +kernel) (by decide +kernel), tb_in (i := 17) (by decide +kernel) (by decide +kernel), rfl, ⟨tb_in (i := 81) (by decide +kernel) (by decide +kernel), tb_in (i := 529) (by decide +kernel) (by decide +kernel), ⟨by decide, by decide, by decide +kernel⟩⟩⟩
theorem ml_C_111 : Cond.methodLink RX4 111 yX4_settleText ∈ TB := tb_in (i := 526) (by decide +kernel) (by decide +kernel)
theorem rm_C_load_C_settleText : RMok I_C_settleText I_C_load 0 0 := ⟨⟨by decide, by decide⟩, by decide, by decide⟩
theorem rc_C_settleText : RC 4 I_C_settleText := ⟨by decide, _, _, rfl⟩
theorem fl_C_115 : FL RX4 115 2 9 := ⟨_, _, _, _, ck_2, by decide, tb_in (i := 170) (by decide +kernel) (by decide +kernel)⟩
theorem tt_15_9 : tg 15 9 = 0 := by decide +kernel
theorem rm_C_play_S_copyFrom : RMok I_S_copyFrom I_C_play 0 0 := ⟨⟨by decide, by decide⟩, by decide, by decide⟩
theorem rm_C_play_I_begin : RMok I_I_begin I_C_play 0 0 := ⟨⟨by decide, by decide⟩, by decide, by decide⟩
theorem rm_C_play_I_readsCommands : RMok I_I_readsCommands I_C_play 0 0 := ⟨⟨by decide, by decide⟩, by decide, by decide⟩
theorem rm_C_play_C_settleText : RMok I_C_settleText I_C_play 0 0 := ⟨⟨by decide, by decide⟩, by decide, by decide⟩
theorem fl_C_118 : FL RX4 118 0 2 := ⟨_, _, _, _, ck_0, by decide, tb_in (i := 216) (by decide +kernel) (by decide +kernel)⟩
theorem fl_C_124 : FL RX4 124 4 3 := ⟨_, _, _, _, ck_4, by decide, tb_in (i := 471) (by decide +kernel) (by decide +kernel)⟩
theorem fl_C_29 : FL RX4 29 4 4 := ⟨_, _, _, _, ck_4, by decide, tb_in (i := 472) (by decide +kernel) (by decide +kernel)⟩
theorem sp_544 : (Int16.ofInt 544).toInt32 = 544 := by decide
theorem ml_C_157 : Cond.methodLink RX4 157 yX2_legNamed ∈ TB := tb_in (i := 580) (by decide +kernel) (by decide +kernel)
theorem rm_C_nameForNextLeg_S_legNamed : RMok I_S_legNamed I_C_nameForNextLeg 0 0 := ⟨⟨by decide, by decide⟩, by decide, by decide⟩
theorem cl_C_152 : Cond.classLink RX4 152 "java/lang/IllegalStateException" ∈ TB := tb_in (i := 862) (by decide +kernel) (by decide +kernel)
theorem ini_2 : Cond.initialized "java/lang/IllegalStateException" ∈ TB := tb_in (i := 97) (by decide +kernel) (by decide +kernel)
theorem at_C_156 : ∀ w ∈ vx_atS RX4 156 "java/lang/IllegalStateException" exN, AT w := at_of (by decide +kernel)
theorem ml_C_133 : Cond.methodLink RX4 133 yX4_isBearing ∈ TB := tb_in (i := 856) (by decide +kernel) (by decide +kernel)
theorem rm_C_addLeg_C_isBearing : RMok I_C_isBearing I_C_addLeg 0 0 := ⟨⟨by decide, by decide⟩, by decide, by decide⟩
theorem rm_C_addLeg_C_isBetween : RMok I_C_isBetween I_C_addLeg 0 0 := ⟨⟨by decide, by decide⟩, by decide, by decide⟩
theorem md_C_nameForNextLeg : MDv I_C_nameForNextLeg 0 := ⟨tb_in (i := 860) (by decide +kernel) (by decide +kernel), tb_in (i := 26) (by decide +kernel) (by decide +kernel), rfl, ⟨tb_in (i := 81) (by decide +kernel) (by decide +kernel), tb_in (i := 861) (by decide +kernel) (by decide +kernel), ⟨by decide, by decide, by decide +kernel⟩⟩⟩
theorem ml_C_139 : Cond.methodLink RX4 139 yX4_nameForNextLeg ∈ TB := tb_in (i := 858) (by decide +kernel) (by decide +kernel)
theorem rm_C_addLeg_C_nameForNextLeg : RMok I_C_nameForNextLeg I_C_addLeg 0 0 := ⟨⟨by decide, by decide⟩, by decide, by decide⟩
theorem rc_C_nameForNextLeg : RC 4 I_C_nameForNextLeg := ⟨by decide, _, _, rfl⟩
theorem rm_C_addLeg_C_remember_1_6 : RMok I_C_remember I_C_addLeg 1 6 := ⟨⟨by decide, by decide⟩, by decide, by decide⟩
theorem ml_C_142 : Cond.methodLink RX4 142 yX2_addChained ∈ TB := tb_in (i := 879) (by decide +kernel) (by decide +kernel)
theorem rm_C_addLeg_S_addChained_1_6 : RMok I_S_addChained I_C_addLeg 1 6 := ⟨⟨by decide, by decide⟩, by decide, by decide⟩
theorem rm_C_addBog_C_isBearing : RMok I_C_isBearing I_C_addBog 0 0 := ⟨⟨by decide, by decide⟩, by decide, by decide⟩
theorem rm_C_addBog_C_isBetween : RMok I_C_isBetween I_C_addBog 0 0 := ⟨⟨by decide, by decide⟩, by decide, by decide⟩
theorem rm_C_addBog_C_nameForNextLeg : RMok I_C_nameForNextLeg I_C_addBog 0 0 := ⟨⟨by decide, by decide⟩, by decide, by decide⟩
theorem rm_C_addBog_C_remember_1_6 : RMok I_C_remember I_C_addBog 1 6 := ⟨⟨by decide, by decide⟩, by decide, by decide⟩
theorem ml_C_148 : Cond.methodLink RX4 148 yX2_addPaced ∈ TB := tb_in (i := 888) (by decide +kernel) (by decide +kernel)
theorem rm_C_addBog_S_addPaced_1_6 : RMok I_S_addPaced I_C_addBog 1 6 := ⟨⟨by decide, by decide⟩, by decide, by decide⟩
theorem rm_C_requireLeg_C_isBetween : RMok I_C_isBetween I_C_requireLeg 0 0 := ⟨⟨by decide, by decide⟩, by decide, by decide⟩
theorem cl_C_336 : Cond.classLink RX4 336 "java/lang/IndexOutOfBoundsException" ∈ TB := tb_in (i := 901) (by decide +kernel) (by decide +kernel)
theorem ini_3 : Cond.initialized "java/lang/IndexOutOfBoundsException" ∈ TB := tb_in (i := 98) (by decide +kernel) (by decide +kernel)
theorem at_C_340 : ∀ w ∈ vx_atS RX4 340 "java/lang/IndexOutOfBoundsException" exN, AT w := at_of (by decide +kernel)
theorem md_C_requireLeg : MDv I_C_requireLeg 1 := ⟨tb_in (i := 899) (by decide +kernel) (by decide +kernel), tb_in (i := 27) (by decide +kernel) (by decide +kernel), rfl, ⟨tb_in (i := 81) (by decide +kernel) (by decide +kernel), tb_in (i := 900) (by decide +kernel) (by decide +kernel), ⟨by decide, by decide, by decide +kernel⟩⟩⟩
theorem ml_C_163 : Cond.methodLink RX4 163 yX4_requireLeg ∈ TB := tb_in (i := 897) (by decide +kernel) (by decide +kernel)
theorem rm_C_dropPin_C_requireLeg : RMok I_C_requireLeg I_C_dropPin 0 0 := ⟨⟨by decide, by decide⟩, by decide, by decide⟩
theorem rc_C_requireLeg : RC 4 I_C_requireLeg := ⟨by decide, _, _, rfl⟩
theorem ml_C_166 : Cond.methodLink RX4 166 yX2_canDrop ∈ TB := tb_in (i := 722) (by decide +kernel) (by decide +kernel)
theorem rm_C_dropPin_S_canDrop_1_6 : RMok I_S_canDrop I_C_dropPin 1 6 := ⟨⟨by decide, by decide⟩, by decide, by decide⟩
theorem rm_C_dropPin_C_remember_1_6 : RMok I_C_remember I_C_dropPin 1 6 := ⟨⟨by decide, by decide⟩, by decide, by decide⟩
theorem fl_C_171 : FL RX4 171 2 6 := ⟨_, _, _, _, ck_2, by decide, tb_in (i := 165) (by decide +kernel) (by decide +kernel)⟩
theorem tt_15_6 : tg 15 6 = 23 := by decide +kernel
theorem kk_22 : kd 22 = 10 := by decide +kernel
theorem ll_22 : ln 22 = 20 := by decide +kernel
theorem rm_C_findPin_C_requireLeg : RMok I_C_requireLeg I_C_findPin 0 0 := ⟨⟨by decide, by decide⟩, by decide, by decide⟩
theorem ml_C_175 : Cond.methodLink RX4 175 yX2_canFind ∈ TB := tb_in (i := 925) (by decide +kernel) (by decide +kernel)
theorem rm_C_findPin_S_canFind_1_6 : RMok I_S_canFind I_C_findPin 1 6 := ⟨⟨by decide, by decide⟩, by decide, by decide⟩
theorem rm_C_findPin_C_remember_1_6 : RMok I_C_remember I_C_findPin 1 6 := ⟨⟨by decide, by decide⟩, by decide, by decide⟩
theorem rm_C_removeLast_C_remember : RMok I_C_remember I_C_removeLast 0 0 := ⟨⟨by decide, by decide⟩, by decide, by decide⟩
theorem fw_C_115 : FW RX4 115 2 9 .int := ⟨_, _, _, _, ck_2, by decide, tb_in (i := 170) (by decide +kernel) (by decide +kernel), rfl, by decide +kernel⟩
theorem rm_C_setWear_C_isBetween : RMok I_C_isBetween I_C_setWear 0 0 := ⟨⟨by decide, by decide⟩, by decide, by decide⟩
theorem fl_C_184 : FL RX4 184 2 10 := ⟨_, _, _, _, ck_2, by decide, tb_in (i := 174) (by decide +kernel) (by decide +kernel)⟩
theorem tt_15_10 : tg 15 10 = 0 := by decide +kernel
theorem rm_C_setWear_C_remember : RMok I_C_remember I_C_setWear 0 0 := ⟨⟨by decide, by decide⟩, by decide, by decide⟩
theorem fw_C_184 : FW RX4 184 2 10 .int := ⟨_, _, _, _, ck_2, by decide, tb_in (i := 174) (by decide +kernel) (by decide +kernel), rfl, by decide +kernel⟩
theorem rm_C_setPace_C_isBetween : RMok I_C_isBetween I_C_setPace 0 0 := ⟨⟨by decide, by decide⟩, by decide, by decide⟩
theorem fl_C_189 : FL RX4 189 2 11 := ⟨_, _, _, _, ck_2, by decide, tb_in (i := 177) (by decide +kernel) (by decide +kernel)⟩
theorem tt_15_11 : tg 15 11 = 0 := by decide +kernel
theorem rm_C_setPace_C_remember : RMok I_C_remember I_C_setPace 0 0 := ⟨⟨by decide, by decide⟩, by decide, by decide⟩
theorem fw_C_189 : FW RX4 189 2 11 .int := ⟨_, _, _, _, ck_2, by decide, tb_in (i := 177) (by decide +kernel) (by decide +kernel), rfl, by decide +kernel⟩
theorem fl_C_192 : FL RX4 192 2 12 := ⟨_, _, _, _, ck_2, by decide, tb_in (i := 181) (by decide +kernel) (by decide +kernel)⟩
theorem tt_15_12 : tg 15 12 = 0 := by decide +kernel
theorem rm_C_setAdjusted_C_remember : RMok I_C_remember I_C_setAdjusted 0 0 := ⟨⟨by decide, by decide⟩, by decide, by decide⟩
theorem fw_C_192 : FW RX4 192 2 12 .boolean := ⟨_, _, _, _, ck_2, by decide, tb_in (i := 181) (by decide +kernel) (by decide +kernel), rfl, by decide +kernel⟩
theorem rm_C_undo_S_copyFrom : RMok I_S_copyFrom I_C_undo 0 0 := ⟨⟨by decide, by decide⟩, by decide, by decide⟩
theorem rm_C_requireSlot_C_isBetween : RMok I_C_isBetween I_C_requireSlot 0 0 := ⟨⟨by decide, by decide⟩, by decide, by decide⟩
theorem md_C_requireSlot : MDv I_C_requireSlot 1 := ⟨tb_in (i := 968) (by decide +kernel) (by decide +kernel), tb_in (i := 28) (by decide +kernel) (by decide +kernel), rfl, ⟨tb_in (i := 81) (by decide +kernel) (by decide +kernel), tb_in (i := 969) (by decide +kernel) (by decide +kernel), ⟨by decide, by decide, by decide +kernel⟩⟩⟩
theorem ml_C_210 : Cond.methodLink RX4 210 yX4_requireSlot ∈ TB := tb_in (i := 966) (by decide +kernel) (by decide +kernel)
theorem rm_C_save_C_requireSlot : RMok I_C_requireSlot I_C_save 0 0 := ⟨⟨by decide, by decide⟩, by decide, by decide⟩
theorem rc_C_requireSlot : RC 4 I_C_requireSlot := ⟨by decide, _, _, rfl⟩
theorem fl_C_60 : FL RX4 60 4 13 := ⟨_, _, _, _, ck_4, by decide, tb_in (i := 481) (by decide +kernel) (by decide +kernel)⟩
theorem tt_0_13 : tg 0 13 = 33 := by decide +kernel
theorem kk_32 : kd 32 = 14 := by decide +kernel
theorem ll_32 : ln 32 = 2 := by decide +kernel
theorem rm_C_save_S_copyFrom_1_6 : RMok I_S_copyFrom I_C_save 1 6 := ⟨⟨by decide, by decide⟩, by decide, by decide⟩
theorem fl_C_63 : FL RX4 63 4 14 := ⟨_, _, _, _, ck_4, by decide, tb_in (i := 482) (by decide +kernel) (by decide +kernel)⟩
theorem tt_0_14 : tg 0 14 = 34 := by decide +kernel
theorem kk_33 : kd 33 = 12 := by decide +kernel
theorem ll_33 : ln 33 = 2 := by decide +kernel
theorem rm_C_restore_C_requireSlot : RMok I_C_requireSlot I_C_restore 0 0 := ⟨⟨by decide, by decide⟩, by decide, by decide⟩
theorem rm_C_restore_C_remember_1_6 : RMok I_C_remember I_C_restore 1 6 := ⟨⟨by decide, by decide⟩, by decide, by decide⟩
theorem rm_C_restore_S_copyFrom_1_6 : RMok I_S_copyFrom I_C_restore 1 6 := ⟨⟨by decide, by decide⟩, by decide, by decide⟩
theorem rm_C_bearing_C_requireLeg : RMok I_C_requireLeg I_C_bearing 0 0 := ⟨⟨by decide, by decide⟩, by decide, by decide⟩
theorem fl_C_215 : FL RX4 215 2 1 := ⟨_, _, _, _, ck_2, by decide, tb_in (i := 155) (by decide +kernel) (by decide +kernel)⟩
theorem tt_15_1 : tg 15 1 = 18 := by decide +kernel
theorem kk_17 : kd 17 = 10 := by decide +kernel
theorem ll_17 : ln 17 = 20 := by decide +kernel
theorem rm_C_pins_C_requireLeg : RMok I_C_requireLeg I_C_pins 0 0 := ⟨⟨by decide, by decide⟩, by decide, by decide⟩
theorem fl_C_218 : FL RX4 218 2 4 := ⟨_, _, _, _, ck_2, by decide, tb_in (i := 161) (by decide +kernel) (by decide +kernel)⟩
theorem tt_15_4 : tg 15 4 = 21 := by decide +kernel
theorem kk_20 : kd 20 = 10 := by decide +kernel
theorem ll_20 : ln 20 = 20 := by decide +kernel
theorem rm_C_droppedPins_C_requireLeg : RMok I_C_requireLeg I_C_droppedPins 0 0 := ⟨⟨by decide, by decide⟩, by decide, by decide⟩
theorem rm_C_readLength_C_requireLeg : RMok I_C_requireLeg I_C_readLength 0 0 := ⟨⟨by decide, by decide⟩, by decide, by decide⟩
theorem ml_C_221 : Cond.methodLink RX4 221 yX2_readUnits ∈ TB := tb_in (i := 1007) (by decide +kernel) (by decide +kernel)
theorem rm_C_readLength_S_readUnits_1_6 : RMok I_S_readUnits I_C_readLength 1 6 := ⟨⟨by decide, by decide⟩, by decide, by decide⟩
theorem rm_C_slopeLength_C_requireLeg : RMok I_C_requireLeg I_C_slopeLength 0 0 := ⟨⟨by decide, by decide⟩, by decide, by decide⟩
theorem ml_C_224 : Cond.methodLink RX4 224 yX2_slopeUnits ∈ TB := tb_in (i := 742) (by decide +kernel) (by decide +kernel)
theorem rm_C_slopeLength_S_slopeUnits_1_6 : RMok I_S_slopeUnits I_C_slopeLength 1 6 := ⟨⟨by decide, by decide⟩, by decide, by decide⟩
theorem rm_C_horizontalLength_C_requireLeg : RMok I_C_requireLeg I_C_horizontalLength 0 0 := ⟨⟨by decide, by decide⟩, by decide, by decide⟩
theorem ml_C_227 : Cond.methodLink RX4 227 yX2_horizontalUnits ∈ TB := tb_in (i := 697) (by decide +kernel) (by decide +kernel)
theorem rm_C_horizontalLength_S_horizontalUnits_1_6 : RMok I_S_horizontalUnits I_C_horizontalLength 1 6 := ⟨⟨by decide, by decide⟩, by decide, by decide⟩
theorem rm_C_eastStep_C_requireLeg : RMok I_C_requireLeg I_C_eastStep 0 0 := ⟨⟨by decide, by decide⟩, by decide, by decide⟩
theorem rm_C_eastStep_S_horizontalUnits_1_6 : RMok I_S_horizontalUnits I_C_eastStep 1 6 := ⟨⟨by decide, by decide⟩, by decide, by decide⟩
theorem ml_C_230 : Cond.methodLink RX4 230 yX4_sine ∈ TB := tb_in (i := 731) (by decide +kernel) (by decide +kernel)
theorem rm_C_eastStep_C_sine_1_6 : RMok I_C_sine I_C_eastStep 1 6 := ⟨⟨by decide, by decide⟩, by decide, by decide⟩
theorem ml_C_233 : Cond.methodLink RX4 233 yX4_stepOf ∈ TB := tb_in (i := 732) (by decide +kernel) (by decide +kernel)
theorem rm_C_eastStep_C_stepOf_1_6 : RMok I_C_stepOf I_C_eastStep 1 6 := ⟨⟨by decide, by decide⟩, by decide, by decide⟩
theorem rm_C_northStep_C_requireLeg : RMok I_C_requireLeg I_C_northStep 0 0 := ⟨⟨by decide, by decide⟩, by decide, by decide⟩
theorem rm_C_northStep_S_horizontalUnits_1_6 : RMok I_S_horizontalUnits I_C_northStep 1 6 := ⟨⟨by decide, by decide⟩, by decide, by decide⟩
theorem rm_C_northStep_C_cosine_1_6 : RMok I_C_cosine I_C_northStep 1 6 := ⟨⟨by decide, by decide⟩, by decide, by decide⟩
theorem rm_C_northStep_C_stepOf_1_6 : RMok I_C_stepOf I_C_northStep 1 6 := ⟨⟨by decide, by decide⟩, by decide, by decide⟩
theorem rm_C_tallies_C_requireLeg : RMok I_C_requireLeg I_C_tallies 0 0 := ⟨⟨by decide, by decide⟩, by decide, by decide⟩
theorem rm_C_isBog_C_requireLeg : RMok I_C_requireLeg I_C_isBog 0 0 := ⟨⟨by decide, by decide⟩, by decide, by decide⟩
theorem fl_C_239 : FL RX4 239 2 2 := ⟨_, _, _, _, ck_2, by decide, tb_in (i := 157) (by decide +kernel) (by decide +kernel)⟩
theorem tt_15_2 : tg 15 2 = 19 := by decide +kernel
theorem kk_18 : kd 18 = 12 := by decide +kernel
theorem ll_18 : ln 18 = 20 := by decide +kernel
theorem rm_C_nameByte_C_requireLeg : RMok I_C_requireLeg I_C_nameByte 0 0 := ⟨⟨by decide, by decide⟩, by decide, by decide⟩
theorem fl_C_242 : FL RX4 242 2 0 := ⟨_, _, _, _, ck_2, by decide, tb_in (i := 152) (by decide +kernel) (by decide +kernel)⟩
theorem tt_15_0 : tg 15 0 = 17 := by decide +kernel
theorem kk_16 : kd 16 = 10 := by decide +kernel
theorem ll_16 : ln 16 = 20 := by decide +kernel
theorem md_C_nameLength : MDs I_C_nameLength 1 := ⟨tb_in (i := 1058) (by decide +kernel) (by decide +kernel), rfl, ⟨tb_in (i := 81) (by decide +kernel) (by decide +kernel), tb_in (i := 1059) (by decide +kernel) (by decide +kernel), ⟨by decide, by decide, by decide +kernel⟩⟩⟩
theorem ml_C_245 : Cond.methodLink RX4 245 yX4_nameLength ∈ TB := tb_in (i := 1057) (by decide +kernel) (by decide +kernel)
theorem rm_C_nameByte_C_nameLength_1_6 : RMok I_C_nameLength I_C_nameByte 1 6 := ⟨⟨by decide, by decide⟩, by decide, by decide⟩
theorem rm_C_nameByte_C_isBetween_1_6 : RMok I_C_isBetween I_C_nameByte 1 6 := ⟨⟨by decide, by decide⟩, by decide, by decide⟩
theorem bp_31 : (Int8.ofInt 31).toInt32 = 31 := by decide
theorem ml_C_248 : Cond.methodLink RX4 248 yX4_packedName ∈ TB := tb_in (i := 579) (by decide +kernel) (by decide +kernel)
theorem rm_C_findLeg_C_packedName : RMok I_C_packedName I_C_findLeg 0 0 := ⟨⟨by decide, by decide⟩, by decide, by decide⟩
theorem rm_C_findLeg_S_legNamed : RMok I_S_legNamed I_C_findLeg 0 0 := ⟨⟨by decide, by decide⟩, by decide, by decide⟩
theorem rm_C_requireStation_C_isBetween : RMok I_C_isBetween I_C_requireStation 0 0 := ⟨⟨by decide, by decide⟩, by decide, by decide⟩
theorem fl_C_52 : FL RX4 52 4 9 := ⟨_, _, _, _, ck_4, by decide, tb_in (i := 477) (by decide +kernel) (by decide +kernel)⟩
theorem tt_0_9 : tg 0 9 = 26 := by decide +kernel
theorem md_T_follow : MDv I_T_follow 1 := ⟨tb_in (i := 590) (by decide +kernel) (by decide +kernel), tb_in (i := 591) (by decide +kernel) (by decide +kernel), rfl, ⟨tb_in (i := 85) (by decide +kernel) (by decide +kernel), tb_in (i := 592) (by decide +kernel) (by decide +kernel), ⟨by decide, by decide, by decide +kernel⟩⟩⟩
theorem ml_C_301 : Cond.methodLink RX4 301 yX3_follow ∈ TB := tb_in (i := 589) (by decide +kernel) (by decide +kernel)
theorem rm_C_followed_T_follow : RMok I_T_follow I_C_followed 0 0 := ⟨⟨by decide, by decide⟩, by decide, by decide⟩
theorem rc_T_follow : RC 3 I_T_follow := ⟨by decide, _, _, rfl⟩
theorem md_C_requireStation : MDv I_C_requireStation 1 := ⟨tb_in (i := 1069) (by decide +kernel) (by decide +kernel), tb_in (i := 29) (by decide +kernel) (by decide +kernel), rfl, ⟨tb_in (i := 81) (by decide +kernel) (by decide +kernel), tb_in (i := 1070) (by decide +kernel) (by decide +kernel), ⟨by decide, by decide, by decide +kernel⟩⟩⟩
theorem ml_C_252 : Cond.methodLink RX4 252 yX4_requireStation ∈ TB := tb_in (i := 1067) (by decide +kernel) (by decide +kernel)
theorem rm_C_rawEast_C_requireStation : RMok I_C_requireStation I_C_rawEast 0 0 := ⟨⟨by decide, by decide⟩, by decide, by decide⟩
theorem rc_C_requireStation : RC 4 I_C_requireStation := ⟨by decide, _, _, rfl⟩
theorem md_C_followed : MDv I_C_followed 0 := ⟨tb_in (i := 587) (by decide +kernel) (by decide +kernel), tb_in (i := 19) (by decide +kernel) (by decide +kernel), rfl, ⟨tb_in (i := 81) (by decide +kernel) (by decide +kernel), tb_in (i := 588) (by decide +kernel) (by decide +kernel), ⟨by decide, by decide, by decide +kernel⟩⟩⟩
theorem ml_C_255 : Cond.methodLink RX4 255 yX4_followed ∈ TB := tb_in (i := 585) (by decide +kernel) (by decide +kernel)
theorem rm_C_rawEast_C_followed_1_6 : RMok I_C_followed I_C_rawEast 1 6 := ⟨⟨by decide, by decide⟩, by decide, by decide⟩
theorem rc_C_followed : RC 4 I_C_followed := ⟨by decide, _, _, rfl⟩
theorem fl_C_259 : FL RX4 259 3 1 := ⟨_, _, _, _, ck_3, by decide, tb_in (i := 243) (by decide +kernel) (by decide +kernel)⟩
theorem rm_C_rawNorth_C_requireStation : RMok I_C_requireStation I_C_rawNorth 0 0 := ⟨⟨by decide, by decide⟩, by decide, by decide⟩
theorem rm_C_rawNorth_C_followed_1_6 : RMok I_C_followed I_C_rawNorth 1 6 := ⟨⟨by decide, by decide⟩, by decide, by decide⟩
theorem fl_C_262 : FL RX4 262 3 2 := ⟨_, _, _, _, ck_3, by decide, tb_in (i := 245) (by decide +kernel) (by decide +kernel)⟩
theorem rm_C_east_C_requireStation : RMok I_C_requireStation I_C_east 0 0 := ⟨⟨by decide, by decide⟩, by decide, by decide⟩
theorem rm_C_east_C_followed_1_6 : RMok I_C_followed I_C_east 1 6 := ⟨⟨by decide, by decide⟩, by decide, by decide⟩
theorem fl_C_265 : FL RX4 265 3 3 := ⟨_, _, _, _, ck_3, by decide, tb_in (i := 247) (by decide +kernel) (by decide +kernel)⟩
theorem rm_C_north_C_requireStation : RMok I_C_requireStation I_C_north 0 0 := ⟨⟨by decide, by decide⟩, by decide, by decide⟩
theorem rm_C_north_C_followed_1_6 : RMok I_C_followed I_C_north 1 6 := ⟨⟨by decide, by decide⟩, by decide, by decide⟩
theorem fl_C_268 : FL RX4 268 3 4 := ⟨_, _, _, _, ck_3, by decide, tb_in (i := 249) (by decide +kernel) (by decide +kernel)⟩
theorem rm_C_run_C_requireStation : RMok I_C_requireStation I_C_run 0 0 := ⟨⟨by decide, by decide⟩, by decide, by decide⟩
theorem rm_C_run_C_followed_1_6 : RMok I_C_followed I_C_run 1 6 := ⟨⟨by decide, by decide⟩, by decide, by decide⟩
theorem fl_C_271 : FL RX4 271 3 0 := ⟨_, _, _, _, ck_3, by decide, tb_in (i := 241) (by decide +kernel) (by decide +kernel)⟩
theorem rm_C_distanceFromStart_C_requireStation : RMok I_C_requireStation I_C_distanceFromStart 0 0 := ⟨⟨by decide, by decide⟩, by decide, by decide⟩
theorem rm_C_distanceFromStart_C_followed_1_6 : RMok I_C_followed I_C_distanceFromStart 1 6 := ⟨⟨by decide, by decide⟩, by decide, by decide⟩
theorem md_T_distanceOf : MDv I_T_distanceOf 1 := ⟨tb_in (i := 690) (by decide +kernel) (by decide +kernel), tb_in (i := 691) (by decide +kernel) (by decide +kernel), rfl, ⟨tb_in (i := 85) (by decide +kernel) (by decide +kernel), tb_in (i := 692) (by decide +kernel) (by decide +kernel), ⟨by decide, by decide, by decide +kernel⟩⟩⟩
theorem ml_C_274 : Cond.methodLink RX4 274 yX3_distanceOf ∈ TB := tb_in (i := 689) (by decide +kernel) (by decide +kernel)
theorem rm_C_distanceFromStart_T_distanceOf_1_6 : RMok I_T_distanceOf I_C_distanceFromStart 1 6 := ⟨⟨by decide, by decide⟩, by decide, by decide⟩
theorem rc_T_distanceOf : RC 3 I_T_distanceOf := ⟨by decide, _, _, rfl⟩
theorem rm_C_perimeter_C_followed : RMok I_C_followed I_C_perimeter 0 0 := ⟨⟨by decide, by decide⟩, by decide, by decide⟩
theorem ml_C_277 : Cond.methodLink RX4 277 yX3_totalRun ∈ TB := tb_in (i := 644) (by decide +kernel) (by decide +kernel)
theorem rm_C_perimeter_T_totalRun : RMok I_T_totalRun I_C_perimeter 0 0 := ⟨⟨by decide, by decide⟩, by decide, by decide⟩
theorem rm_C_closingEast_C_followed : RMok I_C_followed I_C_closingEast 0 0 := ⟨⟨by decide, by decide⟩, by decide, by decide⟩
theorem ml_C_280 : Cond.methodLink RX4 280 yX3_endEast ∈ TB := tb_in (i := 649) (by decide +kernel) (by decide +kernel)
theorem rm_C_closingEast_T_endEast : RMok I_T_endEast I_C_closingEast 0 0 := ⟨⟨by decide, by decide⟩, by decide, by decide⟩
theorem rm_C_closingNorth_C_followed : RMok I_C_followed I_C_closingNorth 0 0 := ⟨⟨by decide, by decide⟩, by decide, by decide⟩
theorem ml_C_283 : Cond.methodLink RX4 283 yX3_endNorth ∈ TB := tb_in (i := 654) (by decide +kernel) (by decide +kernel)
theorem rm_C_closingNorth_T_endNorth : RMok I_T_endNorth I_C_closingNorth 0 0 := ⟨⟨by decide, by decide⟩, by decide, by decide⟩
theorem rm_C_misclosure_C_followed : RMok I_C_followed I_C_misclosure 0 0 := ⟨⟨by decide, by decide⟩, by decide, by decide⟩
theorem md_T_closingDistance : MDv I_T_closingDistance 0 := ⟨tb_in (i := 660) (by decide +kernel) (by decide +kernel), tb_in (i := 661) (by decide +kernel) (by decide +kernel), rfl, ⟨tb_in (i := 85) (by decide +kernel) (by decide +kernel), tb_in (i := 662) (by decide +kernel) (by decide +kernel), ⟨by decide, by decide, by decide +kernel⟩⟩⟩
theorem ml_C_286 : Cond.methodLink RX4 286 yX3_closingDistance ∈ TB := tb_in (i := 659) (by decide +kernel) (by decide +kernel)
theorem rm_C_misclosure_T_closingDistance : RMok I_T_closingDistance I_C_misclosure 0 0 := ⟨⟨by decide, by decide⟩, by decide, by decide⟩
theorem rc_T_closingDistance : RC 3 I_T_closingDistance := ⟨by decide, _, _, rfl⟩
theorem rm_C_precision_C_followed : RMok I_C_followed I_C_precision 0 0 := ⟨⟨by decide, by decide⟩, by decide, by decide⟩
theorem rm_C_precision_T_closingDistance : RMok I_T_closingDistance I_C_precision 0 0 := ⟨⟨by decide, by decide⟩, by decide, by decide⟩
theorem rm_C_precision_T_totalRun : RMok I_T_totalRun I_C_precision 0 0 := ⟨⟨by decide, by decide⟩, by decide, by decide⟩
theorem ml_C_358 : Cond.methodLink RX4 358 yJ9_max_7cf53 ∈ TB := tb_in (i := 678) (by decide +kernel) (by decide +kernel)
theorem ms_max : Cond.static Lib.Math.max.name ∈ TB := tb_in (i := 679) (by decide +kernel) (by decide +kernel)
theorem mc_max : Cond.code Lib.Math.max.name Lib.Math.max.code 2 (some .int) ∈ TB := tb_in (i := 680) (by decide +kernel) (by decide +kernel)
theorem rm_C_width_C_followed : RMok I_C_followed I_C_width 0 0 := ⟨⟨by decide, by decide⟩, by decide, by decide⟩
theorem fl_C_289 : FL RX4 289 3 5 := ⟨_, _, _, _, ck_3, by decide, tb_in (i := 251) (by decide +kernel) (by decide +kernel)⟩
theorem md_C_spread : MDs I_C_spread 2 := ⟨tb_in (i := 676) (by decide +kernel) (by decide +kernel), rfl, ⟨tb_in (i := 81) (by decide +kernel) (by decide +kernel), tb_in (i := 677) (by decide +kernel) (by decide +kernel), ⟨by decide, by decide, by decide +kernel⟩⟩⟩
theorem ml_C_290 : Cond.methodLink RX4 290 yX4_spread ∈ TB := tb_in (i := 675) (by decide +kernel) (by decide +kernel)
theorem rm_C_width_C_spread : RMok I_C_spread I_C_width 0 0 := ⟨⟨by decide, by decide⟩, by decide, by decide⟩
theorem rm_C_height_C_followed : RMok I_C_followed I_C_height 0 0 := ⟨⟨by decide, by decide⟩, by decide, by decide⟩
theorem rm_C_height_C_spread : RMok I_C_spread I_C_height 0 0 := ⟨⟨by decide, by decide⟩, by decide, by decide⟩
theorem rm_C_farthestStation_C_followed : RMok I_C_followed I_C_farthestStation 0 0 := ⟨⟨by decide, by decide⟩, by decide, by decide⟩
theorem rm_C_farthestStation_T_distanceOf : RMok I_T_distanceOf I_C_farthestStation 0 0 := ⟨⟨by decide, by decide⟩, by decide, by decide⟩
theorem rm_C_longestLeg_S_horizontalUnits : RMok I_S_horizontalUnits I_C_longestLeg 0 0 := ⟨⟨by decide, by decide⟩, by decide, by decide⟩
theorem rm_C_bogLength_S_horizontalUnits : RMok I_S_horizontalUnits I_C_bogLength 0 0 := ⟨⟨by decide, by decide⟩, by decide, by decide⟩
theorem rm_C_area_C_followed : RMok I_C_followed I_C_area 0 0 := ⟨⟨by decide, by decide⟩, by decide, by decide⟩
theorem md_T_enclosedArea : MDv I_T_enclosedArea 0 := ⟨tb_in (i := 707) (by decide +kernel) (by decide +kernel), tb_in (i := 708) (by decide +kernel) (by decide +kernel), rfl, ⟨tb_in (i := 85) (by decide +kernel) (by decide +kernel), tb_in (i := 709) (by decide +kernel) (by decide +kernel), ⟨by decide, by decide, by decide +kernel⟩⟩⟩
theorem ml_C_294 : Cond.methodLink RX4 294 yX3_enclosedArea ∈ TB := tb_in (i := 706) (by decide +kernel) (by decide +kernel)
theorem rm_C_area_T_enclosedArea : RMok I_T_enclosedArea I_C_area 0 0 := ⟨⟨by decide, by decide⟩, by decide, by decide⟩
theorem rc_T_enclosedArea : RC 3 I_T_enclosedArea := ⟨by decide, _, _, rfl⟩
theorem rm_C_misclosureWithPin_S_canDrop : RMok I_S_canDrop I_C_misclosureWithPin 0 0 := ⟨⟨by decide, by decide⟩, by decide, by decide⟩
theorem rm_C_misclosureWithPin_S_copyFrom : RMok I_S_copyFrom I_C_misclosureWithPin 0 0 := ⟨⟨by decide, by decide⟩, by decide, by decide⟩
theorem rm_C_misclosureWithPin_T_follow : RMok I_T_follow I_C_misclosureWithPin 0 0 := ⟨⟨by decide, by decide⟩, by decide, by decide⟩
theorem rm_C_misclosureWithPin_T_closingDistance : RMok I_T_closingDistance I_C_misclosureWithPin 0 0 := ⟨⟨by decide, by decide⟩, by decide, by decide⟩
theorem rm_C_misclosureIfDropped_C_requireLeg : RMok I_C_requireLeg I_C_misclosureIfDropped 0 0 := ⟨⟨by decide, by decide⟩, by decide, by decide⟩
theorem md_C_misclosureWithPin : MDv I_C_misclosureWithPin 1 := ⟨tb_in (i := 720) (by decide +kernel) (by decide +kernel), tb_in (i := 21) (by decide +kernel) (by decide +kernel), rfl, ⟨tb_in (i := 81) (by decide +kernel) (by decide +kernel), tb_in (i := 721) (by decide +kernel) (by decide +kernel), ⟨by decide, by decide, by decide +kernel⟩⟩⟩
theorem ml_C_298 : Cond.methodLink RX4 298 yX4_misclosureWithPin ∈ TB := tb_in (i := 718) (by decide +kernel) (by decide +kernel)
theorem rm_C_misclosureIfDropped_C_misclosureWithPin_1_6 : RMok I_C_misclosureWithPin I_C_misclosureIfDropped 1 6 := ⟨⟨by decide, by decide⟩, by decide, by decide⟩
theorem rc_C_misclosureWithPin : RC 4 I_C_misclosureWithPin := ⟨by decide, _, _, rfl⟩
theorem rm_C_suspectLeg_C_followed : RMok I_C_followed I_C_suspectLeg 0 0 := ⟨⟨by decide, by decide⟩, by decide, by decide⟩
theorem rm_C_suspectLeg_T_closingDistance : RMok I_T_closingDistance I_C_suspectLeg 0 0 := ⟨⟨by decide, by decide⟩, by decide, by decide⟩
theorem rm_C_suspectLeg_C_misclosureWithPin : RMok I_C_misclosureWithPin I_C_suspectLeg 0 0 := ⟨⟨by decide, by decide⟩, by decide, by decide⟩
theorem ml_C_314 : Cond.methodLink RX4 314 yX4_distance ∈ TB := tb_in (i := 737) (by decide +kernel) (by decide +kernel)
theorem rm_C_misclosureWithPace_C_distance : RMok I_C_distance I_C_misclosureWithPace 0 0 := ⟨⟨by decide, by decide⟩, by decide, by decide⟩
theorem fl_C_311 : FL RX4 311 2 3 := ⟨_, _, _, _, ck_2, by decide, tb_in (i := 159) (by decide +kernel) (by decide +kernel)⟩
theorem tt_15_3 : tg 15 3 = 20 := by decide +kernel
theorem kk_19 : kd 19 = 10 := by decide +kernel
theorem ll_19 : ln 19 = 20 := by decide +kernel
theorem rm_C_misclosureWithPace_C_sine : RMok I_C_sine I_C_misclosureWithPace 0 0 := ⟨⟨by decide, by decide⟩, by decide, by decide⟩
theorem rm_C_misclosureWithPace_C_stepOf : RMok I_C_stepOf I_C_misclosureWithPace 0 0 := ⟨⟨by decide, by decide⟩, by decide, by decide⟩
theorem rm_C_misclosureWithPace_C_cosine : RMok I_C_cosine I_C_misclosureWithPace 0 0 := ⟨⟨by decide, by decide⟩, by decide, by decide⟩
theorem md_S_hasBog : MDv I_S_hasBog 0 := ⟨tb_in (i := 728) (by decide +kernel) (by decide +kernel), tb_in (i := 729) (by decide +kernel) (by decide +kernel), rfl, ⟨tb_in (i := 84) (by decide +kernel) (by decide +kernel), tb_in (i := 730) (by decide +kernel) (by decide +kernel), ⟨by decide, by decide, by decide +kernel⟩⟩⟩
theorem ml_C_304 : Cond.methodLink RX4 304 yX2_hasBog ∈ TB := tb_in (i := 727) (by decide +kernel) (by decide +kernel)
theorem rm_C_bestPace_S_hasBog : RMok I_S_hasBog I_C_bestPace 0 0 := ⟨⟨by decide, by decide⟩, by decide, by decide⟩
theorem rc_S_hasBog : RC 2 I_S_hasBog := ⟨by decide, _, _, rfl⟩
theorem md_C_misclosureWithPace : MDv I_C_misclosureWithPace 3 := ⟨tb_in (i := 735) (by decide +kernel) (by decide +kernel), tb_in (i := 22) (by decide +kernel) (by decide +kernel), rfl, ⟨tb_in (i := 81) (by decide +kernel) (by decide +kernel), tb_in (i := 736) (by decide +kernel) (by decide +kernel), ⟨by decide, by decide, by decide +kernel⟩⟩⟩
theorem ml_C_307 : Cond.methodLink RX4 307 yX4_misclosureWithPace ∈ TB := tb_in (i := 733) (by decide +kernel) (by decide +kernel)
theorem rm_C_bestPace_C_misclosureWithPace : RMok I_C_misclosureWithPace I_C_bestPace 0 0 := ⟨⟨by decide, by decide⟩, by decide, by decide⟩
theorem rc_C_misclosureWithPace : RC 4 I_C_misclosureWithPace := ⟨by decide, _, _, rfl⟩
theorem bp_101 : (Int8.ofInt 101).toInt32 = 101 := by decide
theorem rm_C_bestPace_S_horizontalUnits : RMok I_S_horizontalUnits I_C_bestPace 0 0 := ⟨⟨by decide, by decide⟩, by decide, by decide⟩
theorem rm_C_bestPace_C_sine : RMok I_C_sine I_C_bestPace 0 0 := ⟨⟨by decide, by decide⟩, by decide, by decide⟩
theorem rm_C_bestPace_C_stepOf : RMok I_C_stepOf I_C_bestPace 0 0 := ⟨⟨by decide, by decide⟩, by decide, by decide⟩
theorem rm_C_bestPace_C_cosine : RMok I_C_cosine I_C_bestPace 0 0 := ⟨⟨by decide, by decide⟩, by decide, by decide⟩
theorem rm_C_inconsistencies_C_followed : RMok I_C_followed I_C_inconsistencies 0 0 := ⟨⟨by decide, by decide⟩, by decide, by decide⟩
theorem rm_C_inconsistencies_T_totalRun : RMok I_T_totalRun I_C_inconsistencies 0 0 := ⟨⟨by decide, by decide⟩, by decide, by decide⟩
theorem rm_C_inconsistencies_S_horizontalUnits : RMok I_S_horizontalUnits I_C_inconsistencies 0 0 := ⟨⟨by decide, by decide⟩, by decide, by decide⟩
theorem rm_C_inconsistencies_S_slopeUnits : RMok I_S_slopeUnits I_C_inconsistencies 0 0 := ⟨⟨by decide, by decide⟩, by decide, by decide⟩
theorem md_C_perimeter : MDv I_C_perimeter 0 := ⟨tb_in (i := 582) (by decide +kernel) (by decide +kernel), tb_in (i := 583) (by decide +kernel) (by decide +kernel), rfl, ⟨tb_in (i := 81) (by decide +kernel) (by decide +kernel), tb_in (i := 584) (by decide +kernel) (by decide +kernel), ⟨by decide, by decide, by decide +kernel⟩⟩⟩
theorem ml_C_317 : Cond.methodLink RX4 317 yX4_perimeter ∈ TB := tb_in (i := 747) (by decide +kernel) (by decide +kernel)
theorem rm_C_meanLeg_C_perimeter : RMok I_C_perimeter I_C_meanLeg 0 0 := ⟨⟨by decide, by decide⟩, by decide, by decide⟩
theorem rc_C_perimeter : RC 4 I_C_perimeter := ⟨by decide, _, _, rfl⟩
theorem rm_C_bogShare_C_perimeter : RMok I_C_perimeter I_C_bogShare 0 0 := ⟨⟨by decide, by decide⟩, by decide, by decide⟩
theorem md_C_bogLength : MDv I_C_bogLength 0 := ⟨tb_in (i := 699) (by decide +kernel) (by decide +kernel), tb_in (i := 700) (by decide +kernel) (by decide +kernel), rfl, ⟨tb_in (i := 81) (by decide +kernel) (by decide +kernel), tb_in (i := 701) (by decide +kernel) (by decide +kernel), ⟨by decide, by decide, by decide +kernel⟩⟩⟩
theorem ml_C_320 : Cond.methodLink RX4 320 yX4_bogLength ∈ TB := tb_in (i := 752) (by decide +kernel) (by decide +kernel)
theorem rm_C_bogShare_C_bogLength : RMok I_C_bogLength I_C_bogShare 0 0 := ⟨⟨by decide, by decide⟩, by decide, by decide⟩
theorem rc_C_bogLength : RC 4 I_C_bogLength := ⟨by decide, _, _, rfl⟩
theorem fl_C_323 : FL RX4 323 4 6 := ⟨_, _, _, _, ck_4, by decide, tb_in (i := 474) (by decide +kernel) (by decide +kernel)⟩
theorem tt_0_6 : tg 0 6 = 0 := by decide +kernel
theorem sp_512 : (Int16.ofInt 512).toInt32 = 512 := by decide
theorem fl_C_33 : FL RX4 33 4 5 := ⟨_, _, _, _, ck_4, by decide, tb_in (i := 473) (by decide +kernel) (by decide +kernel)⟩
theorem tt_0_5 : tg 0 5 = 15 := by decide +kernel
theorem kk_14 : kd 14 = 11 := by decide +kernel
theorem ll_14 : ln 14 = 512 := by decide +kernel
theorem fw_C_323 : FW RX4 323 4 6 .int := ⟨_, _, _, _, ck_4, by decide, tb_in (i := 474) (by decide +kernel) (by decide +kernel), rfl, by decide +kernel⟩
theorem bp_45 : (Int8.ofInt 45).toInt32 = 45 := by decide
theorem md_C_writeByte : MDv I_C_writeByte 1 := ⟨tb_in (i := 759) (by decide +kernel) (by decide +kernel), tb_in (i := 23) (by decide +kernel) (by decide +kernel), rfl, ⟨tb_in (i := 81) (by decide +kernel) (by decide +kernel), tb_in (i := 760) (by decide +kernel) (by decide +kernel), ⟨by decide, by decide, by decide +kernel⟩⟩⟩
theorem ml_C_326 : Cond.methodLink RX4 326 yX4_writeByte ∈ TB := tb_in (i := 757) (by decide +kernel) (by decide +kernel)
theorem rm_C_writeNumber_C_writeByte : RMok I_C_writeByte I_C_writeNumber 0 0 := ⟨⟨by decide, by decide⟩, by decide, by decide⟩
theorem rc_C_writeByte : RC 4 I_C_writeByte := ⟨by decide, _, _, rfl⟩
theorem ml_C_332 : Cond.methodLink RX4 332 yJ9_abs_0f7a4 ∈ TB := tb_in (i := 765) (by decide +kernel) (by decide +kernel)
theorem ms_abs : Cond.static Lib.Math.abs.name ∈ TB := tb_in (i := 766) (by decide +kernel) (by decide +kernel)
theorem mc_abs : Cond.code Lib.Math.abs.name Lib.Math.abs.code 1 (some .int) ∈ TB := tb_in (i := 767) (by decide +kernel) (by decide +kernel)
theorem cn_C_335 : Cond.constant RX4 335 1000000000 ∈ TB := tb_in (i := 768) (by decide +kernel) (by decide +kernel)
theorem rm_C_writeStations_C_followed : RMok I_C_followed I_C_writeStations 0 0 := ⟨⟨by decide, by decide⟩, by decide, by decide⟩
theorem rm_C_writeStations_C_writeByte : RMok I_C_writeByte I_C_writeStations 0 0 := ⟨⟨by decide, by decide⟩, by decide, by decide⟩
theorem md_C_writeNumber : MDv I_C_writeNumber 1 := ⟨tb_in (i := 763) (by decide +kernel) (by decide +kernel), tb_in (i := 24) (by decide +kernel) (by decide +kernel), rfl, ⟨tb_in (i := 81) (by decide +kernel) (by decide +kernel), tb_in (i := 764) (by decide +kernel) (by decide +kernel), ⟨by decide, by decide, by decide +kernel⟩⟩⟩
theorem ml_C_329 : Cond.methodLink RX4 329 yX4_writeNumber ∈ TB := tb_in (i := 761) (by decide +kernel) (by decide +kernel)
theorem rm_C_writeStations_C_writeNumber : RMok I_C_writeNumber I_C_writeStations 0 0 := ⟨⟨by decide, by decide⟩, by decide, by decide⟩
theorem rc_C_writeNumber : RC 4 I_C_writeNumber := ⟨by decide, _, _, rfl⟩
theorem bp_44 : (Int8.ofInt 44).toInt32 = 44 := by decide
theorem rm_C_outputByte_C_isBetween : RMok I_C_isBetween I_C_outputByte 0 0 := ⟨⟨by decide, by decide⟩, by decide, by decide⟩
theorem ck_5 : CK 5 RX5 TX5 26 tyX5 := ⟨rfl, by decide, by decide, uws_in [1205, 1207, 1209, 1211, 1213, 1215, 1217, 1219, 1221, 1223, 1225, 1227, 1229, 1231, 1233, 1235, 1237, 1239, 1241, 1243, 1245, 1247, 1249, 1251, 1253, 1255] (by decide +kernel), tyX5_ok, nmX5⟩
theorem fl_M_79 : FL RX5 79 5 7 := ⟨_, _, _, _, ck_5, by decide, tb_in (i := 1266) (by decide +kernel) (by decide +kernel)⟩
theorem kk_134 : kd 134 = 5 := by decide +kernel
theorem tt_134_7 : tg 134 7 = 0 := by decide +kernel
theorem fw_M_79 : FW RX5 79 5 7 .int := ⟨_, _, _, _, ck_5, by decide, tb_in (i := 1266) (by decide +kernel) (by decide +kernel), rfl, by decide +kernel⟩
theorem sp_284 : (Int16.ofInt 284).toInt32 = 284 := by decide
theorem ml_M_82 : Cond.methodLink RX5 82 (⟨"java/lang/System", "arraycopy", "(Ljava/lang/Object;ILjava/lang/Object;II)V"⟩ : MethodName) ∈ TB := tb_in (i := 1138) (by decide +kernel) (by decide +kernel)
theorem nat_copy : Cond.native arraycopyName ∈ TB := tb_in (i := 1140) (by decide +kernel) (by decide +kernel)
theorem sta_copy : Cond.static arraycopyName ∈ TB := tb_in (i := 1139) (by decide +kernel) (by decide +kernel)
theorem ini_sys : Cond.initialized "java/lang/System" ∈ TB := tb_in (i := 92) (by decide +kernel) (by decide +kernel)
theorem fl_M_76 : FL RX5 76 5 6 := ⟨_, _, _, _, ck_5, by decide, tb_in (i := 1265) (by decide +kernel) (by decide +kernel)⟩
theorem tt_134_6 : tg 134 6 = 0 := by decide +kernel
theorem fl_M_16 : FL RX5 16 5 2 := ⟨_, _, _, _, ck_5, by decide, tb_in (i := 1261) (by decide +kernel) (by decide +kernel)⟩
theorem tt_134_2 : tg 134 2 = 138 := by decide +kernel
theorem sp_1988 : (Int16.ofInt 1988).toInt32 = 1988 := by decide
theorem kk_137 : kd 137 = 10 := by decide +kernel
theorem ll_137 : ln 137 = 2272 := by decide +kernel
theorem fw_M_76 : FW RX5 76 5 6 .int := ⟨_, _, _, _, ck_5, by decide, tb_in (i := 1265) (by decide +kernel) (by decide +kernel), rfl, by decide +kernel⟩
theorem md_M_copy : MDs I_M_copy 4 := ⟨tb_in (i := 1136) (by decide +kernel) (by decide +kernel), rfl, ⟨tb_in (i := 91) (by decide +kernel) (by decide +kernel), tb_in (i := 1137) (by decide +kernel) (by decide +kernel), ⟨by decide, by decide, by decide +kernel⟩⟩⟩
theorem ml_M_88 : Cond.methodLink RX5 88 yX5_copy ∈ TB := tb_in (i := 1135) (by decide +kernel) (by decide +kernel)
theorem rm_M_remember_M_copy : RMok I_M_copy I_M_remember 0 0 := ⟨⟨by decide, by decide⟩, by decide, by decide⟩
theorem fl_M_9 : FL RX5 9 5 0 := ⟨_, _, _, _, ck_5, by decide, tb_in (i := 1259) (by decide +kernel) (by decide +kernel)⟩
theorem tt_134_0 : tg 134 0 = 136 := by decide +kernel
theorem bp_14 : (Int8.ofInt 14).toInt32 = 14 := by decide
theorem kk_135 : kd 135 = 10 := by decide +kernel
theorem ll_135 : ln 135 = 284 := by decide +kernel
theorem md_M_isIn : MDs I_M_isIn 3 := ⟨tb_in (i := 1150) (by decide +kernel) (by decide +kernel), rfl, ⟨tb_in (i := 91) (by decide +kernel) (by decide +kernel), tb_in (i := 1151) (by decide +kernel) (by decide +kernel), ⟨by decide, by decide, by decide +kernel⟩⟩⟩
theorem ml_M_92 : Cond.methodLink RX5 92 yX5_isIn ∈ TB := tb_in (i := 1149) (by decide +kernel) (by decide +kernel)
theorem rm_M_noLeg_M_isIn : RMok I_M_isIn I_M_noLeg 0 0 := ⟨⟨by decide, by decide⟩, by decide, by decide⟩
theorem md_M_of : MDv I_M_of 2 := ⟨tb_in (i := 1235) (by decide +kernel) (by decide +kernel), tb_in (i := 52) (by decide +kernel) (by decide +kernel), rfl, ⟨tb_in (i := 91) (by decide +kernel) (by decide +kernel), tb_in (i := 1236) (by decide +kernel) (by decide +kernel), ⟨by decide, by decide, by decide +kernel⟩⟩⟩
theorem ml_M_96 : Cond.methodLink RX5 96 yX5_of ∈ TB := tb_in (i := 1233) (by decide +kernel) (by decide +kernel)
theorem rm_M_bog_M_of : RMok I_M_of I_M_bog 0 0 := ⟨⟨by decide, by decide⟩, by decide, by decide⟩
theorem rc_M_of : RC 5 I_M_of := ⟨by decide, _, _, rfl⟩
theorem cj_M_100 : Cond.constantLong RX5 100 2147483648 ∈ TB := tb_in (i := 1505) (by decide +kernel) (by decide +kernel)
theorem md_M_bog : MDv I_M_bog 1 := ⟨tb_in (i := 1231) (by decide +kernel) (by decide +kernel), tb_in (i := 51) (by decide +kernel) (by decide +kernel), rfl, ⟨tb_in (i := 91) (by decide +kernel) (by decide +kernel), tb_in (i := 1232) (by decide +kernel) (by decide +kernel), ⟨by decide, by decide, by decide +kernel⟩⟩⟩
theorem ml_M_102 : Cond.methodLink RX5 102 yX5_bog ∈ TB := tb_in (i := 1229) (by decide +kernel) (by decide +kernel)
theorem rm_M_read_M_bog : RMok I_M_bog I_M_read 0 0 := ⟨⟨by decide, by decide⟩, by decide, by decide⟩
theorem rc_M_bog : RC 5 I_M_bog := ⟨by decide, _, _, rfl⟩
theorem rm_M_read_M_of : RMok I_M_of I_M_read 0 0 := ⟨⟨by decide, by decide⟩, by decide, by decide⟩
theorem md_M_read : MDv I_M_read 1 := ⟨tb_in (i := 1480) (by decide +kernel) (by decide +kernel), tb_in (i := 64) (by decide +kernel) (by decide +kernel), rfl, ⟨tb_in (i := 91) (by decide +kernel) (by decide +kernel), tb_in (i := 1481) (by decide +kernel) (by decide +kernel), ⟨by decide, by decide, by decide +kernel⟩⟩⟩
theorem ml_M_106 : Cond.methodLink RX5 106 yX5_read ∈ TB := tb_in (i := 1478) (by decide +kernel) (by decide +kernel)
theorem rm_M_slope_M_read : RMok I_M_read I_M_slope 0 0 := ⟨⟨by decide, by decide⟩, by decide, by decide⟩
theorem rc_M_read : RC 5 I_M_read := ⟨by decide, _, _, rfl⟩
theorem rm_M_slope_M_bog : RMok I_M_bog I_M_slope 0 0 := ⟨⟨by decide, by decide⟩, by decide, by decide⟩
theorem cj_M_110 : Cond.constantLong RX5 110 10000 ∈ TB := tb_in (i := 1490) (by decide +kernel) (by decide +kernel)
theorem rm_M_slope_M_of : RMok I_M_of I_M_slope 0 0 := ⟨⟨by decide, by decide⟩, by decide, by decide⟩
theorem cj_M_112 : Cond.constantLong RX5 112 12 ∈ TB := tb_in (i := 1491) (by decide +kernel) (by decide +kernel)
theorem cj_M_114 : Cond.constantLong RX5 114 1000000 ∈ TB := tb_in (i := 1492) (by decide +kernel) (by decide +kernel)
theorem md_M_slope : MDv I_M_slope 1 := ⟨tb_in (i := 1488) (by decide +kernel) (by decide +kernel), tb_in (i := 65) (by decide +kernel) (by decide +kernel), rfl, ⟨tb_in (i := 91) (by decide +kernel) (by decide +kernel), tb_in (i := 1489) (by decide +kernel) (by decide +kernel), ⟨by decide, by decide, by decide +kernel⟩⟩⟩
theorem ml_M_116 : Cond.methodLink RX5 116 yX5_slope ∈ TB := tb_in (i := 1486) (by decide +kernel) (by decide +kernel)
theorem rm_M_flat_M_slope : RMok I_M_slope I_M_flat 0 0 := ⟨⟨by decide, by decide⟩, by decide, by decide⟩
theorem rc_M_slope : RC 5 I_M_slope := ⟨by decide, _, _, rfl⟩
theorem rm_M_flat_M_bog : RMok I_M_bog I_M_flat 0 0 := ⟨⟨by decide, by decide⟩, by decide, by decide⟩
theorem cj_M_119 : Cond.constantLong RX5 119 100 ∈ TB := tb_in (i := 1501) (by decide +kernel) (by decide +kernel)
theorem rm_M_flat_M_of : RMok I_M_of I_M_flat 0 0 := ⟨⟨by decide, by decide⟩, by decide, by decide⟩
theorem md_M_root : MDs I_M_root 1 := ⟨tb_in (i := 1503) (by decide +kernel) (by decide +kernel), rfl, ⟨tb_in (i := 91) (by decide +kernel) (by decide +kernel), tb_in (i := 1504) (by decide +kernel) (by decide +kernel), ⟨by decide, by decide, by decide +kernel⟩⟩⟩
theorem ml_M_121 : Cond.methodLink RX5 121 yX5_root ∈ TB := tb_in (i := 1502) (by decide +kernel) (by decide +kernel)
theorem rm_M_flat_M_root : RMok I_M_root I_M_flat 0 0 := ⟨⟨by decide, by decide⟩, by decide, by decide⟩
theorem bp_12 : (Int8.ofInt 12).toInt32 = 12 := by decide
theorem fl_M_44 : FL RX5 44 5 13 := ⟨_, _, _, _, ck_5, by decide, tb_in (i := 1272) (by decide +kernel) (by decide +kernel)⟩
theorem tt_134_13 : tg 134 13 = 147 := by decide +kernel
theorem kk_146 : kd 146 = 10 := by decide +kernel
theorem ll_146 : ln 146 = 7 := by decide +kernel
theorem rm_M_step_M_of : RMok I_M_of I_M_step 0 0 := ⟨⟨by decide, by decide⟩, by decide, by decide⟩
theorem md_M_flat : MDv I_M_flat 1 := ⟨tb_in (i := 1499) (by decide +kernel) (by decide +kernel), tb_in (i := 66) (by decide +kernel) (by decide +kernel), rfl, ⟨tb_in (i := 91) (by decide +kernel) (by decide +kernel), tb_in (i := 1500) (by decide +kernel) (by decide +kernel), ⟨by decide, by decide, by decide +kernel⟩⟩⟩
theorem ml_M_125 : Cond.methodLink RX5 125 yX5_flat ∈ TB := tb_in (i := 1497) (by decide +kernel) (by decide +kernel)
theorem rm_M_step_M_flat : RMok I_M_flat I_M_step 0 0 := ⟨⟨by decide, by decide⟩, by decide, by decide⟩
theorem rc_M_flat : RC 5 I_M_flat := ⟨by decide, _, _, rfl⟩
theorem bp_18 : (Int8.ofInt 18).toInt32 = 18 := by decide
theorem md_M_cosine : MDv I_M_cosine 1 := ⟨tb_in (i := 1516) (by decide +kernel) (by decide +kernel), tb_in (i := 68) (by decide +kernel) (by decide +kernel), rfl, ⟨tb_in (i := 91) (by decide +kernel) (by decide +kernel), tb_in (i := 1517) (by decide +kernel) (by decide +kernel), ⟨by decide, by decide, by decide +kernel⟩⟩⟩
theorem ml_M_128 : Cond.methodLink RX5 128 yX5_cosine ∈ TB := tb_in (i := 1514) (by decide +kernel) (by decide +kernel)
theorem rm_M_step_M_cosine : RMok I_M_cosine I_M_step 0 0 := ⟨⟨by decide, by decide⟩, by decide, by decide⟩
theorem rc_M_cosine : RC 5 I_M_cosine := ⟨by decide, _, _, rfl⟩
theorem fl_M_35 : FL RX5 35 5 10 := ⟨_, _, _, _, ck_5, by decide, tb_in (i := 1269) (by decide +kernel) (by decide +kernel)⟩
theorem tt_134_10 : tg 134 10 = 144 := by decide +kernel
theorem kk_143 : kd 143 = 10 := by decide +kernel
theorem ll_143 : ln 143 = 21 := by decide +kernel
theorem fl_M_38 : FL RX5 38 5 11 := ⟨_, _, _, _, ck_5, by decide, tb_in (i := 1270) (by decide +kernel) (by decide +kernel)⟩
theorem tt_134_11 : tg 134 11 = 145 := by decide +kernel
theorem kk_144 : kd 144 = 10 := by decide +kernel
theorem ll_144 : ln 144 = 21 := by decide +kernel
theorem fl_M_41 : FL RX5 41 5 12 := ⟨_, _, _, _, ck_5, by decide, tb_in (i := 1271) (by decide +kernel) (by decide +kernel)⟩
theorem tt_134_12 : tg 134 12 = 146 := by decide +kernel
theorem kk_145 : kd 145 = 10 := by decide +kernel
theorem ll_145 : ln 145 = 21 := by decide +kernel
theorem md_M_step : MDv I_M_step 2 := ⟨tb_in (i := 1512) (by decide +kernel) (by decide +kernel), tb_in (i := 67) (by decide +kernel) (by decide +kernel), rfl, ⟨tb_in (i := 91) (by decide +kernel) (by decide +kernel), tb_in (i := 1513) (by decide +kernel) (by decide +kernel), ⟨by decide, by decide, by decide +kernel⟩⟩⟩
theorem ml_M_131 : Cond.methodLink RX5 131 yX5_step ∈ TB := tb_in (i := 1510) (by decide +kernel) (by decide +kernel)
theorem rm_M_findRaw_M_step : RMok I_M_step I_M_findRaw 0 0 := ⟨⟨by decide, by decide⟩, by decide, by decide⟩
theorem rc_M_step : RC 5 I_M_step := ⟨by decide, _, _, rfl⟩
theorem rm_M_findRaw_M_flat : RMok I_M_flat I_M_findRaw 0 0 := ⟨⟨by decide, by decide⟩, by decide, by decide⟩
theorem md_M_findRaw : MDv I_M_findRaw 0 := ⟨tb_in (i := 1548) (by decide +kernel) (by decide +kernel), tb_in (i := 70) (by decide +kernel) (by decide +kernel), rfl, ⟨tb_in (i := 91) (by decide +kernel) (by decide +kernel), tb_in (i := 1549) (by decide +kernel) (by decide +kernel), ⟨by decide, by decide, by decide +kernel⟩⟩⟩
theorem ml_M_135 : Cond.methodLink RX5 135 yX5_findRaw ∈ TB := tb_in (i := 1546) (by decide +kernel) (by decide +kernel)
theorem rm_M_findStations_M_findRaw : RMok I_M_findRaw I_M_findStations 0 0 := ⟨⟨by decide, by decide⟩, by decide, by decide⟩
theorem rc_M_findRaw : RC 5 I_M_findRaw := ⟨by decide, _, _, rfl⟩
theorem md_M_around : MDv I_M_around 0 := ⟨tb_in (i := 1564) (by decide +kernel) (by decide +kernel), tb_in (i := 72) (by decide +kernel) (by decide +kernel), rfl, ⟨tb_in (i := 91) (by decide +kernel) (by decide +kernel), tb_in (i := 1565) (by decide +kernel) (by decide +kernel), ⟨by decide, by decide, by decide +kernel⟩⟩⟩
theorem ml_M_138 : Cond.methodLink RX5 138 yX5_around ∈ TB := tb_in (i := 1562) (by decide +kernel) (by decide +kernel)
theorem rm_M_findStations_M_around : RMok I_M_around I_M_findStations 0 0 := ⟨⟨by decide, by decide⟩, by decide, by decide⟩
theorem rc_M_around : RC 5 I_M_around := ⟨by decide, _, _, rfl⟩
theorem md_M_part : MDs I_M_part 3 := ⟨tb_in (i := 1567) (by decide +kernel) (by decide +kernel), rfl, ⟨tb_in (i := 91) (by decide +kernel) (by decide +kernel), tb_in (i := 1568) (by decide +kernel) (by decide +kernel), ⟨by decide, by decide, by decide +kernel⟩⟩⟩
theorem ml_M_141 : Cond.methodLink RX5 141 yX5_part ∈ TB := tb_in (i := 1566) (by decide +kernel) (by decide +kernel)
theorem rm_M_findStations_M_part : RMok I_M_part I_M_findStations 0 0 := ⟨⟨by decide, by decide⟩, by decide, by decide⟩
theorem rm_M_far_M_root : RMok I_M_root I_M_far 0 0 := ⟨⟨by decide, by decide⟩, by decide, by decide⟩
theorem rm_M_miss_M_findRaw : RMok I_M_findRaw I_M_miss 0 0 := ⟨⟨by decide, by decide⟩, by decide, by decide⟩
theorem md_M_far : MDs I_M_far 2 := ⟨tb_in (i := 1582) (by decide +kernel) (by decide +kernel), rfl, ⟨tb_in (i := 91) (by decide +kernel) (by decide +kernel), tb_in (i := 1583) (by decide +kernel) (by decide +kernel), ⟨by decide, by decide, by decide +kernel⟩⟩⟩
theorem ml_M_145 : Cond.methodLink RX5 145 yX5_far ∈ TB := tb_in (i := 1581) (by decide +kernel) (by decide +kernel)
theorem rm_M_miss_M_far : RMok I_M_far I_M_miss 0 0 := ⟨⟨by decide, by decide⟩, by decide, by decide⟩
theorem rm_M_mayDrop_M_bog : RMok I_M_bog I_M_mayDrop 0 0 := ⟨⟨by decide, by decide⟩, by decide, by decide⟩
theorem rm_M_mayDrop_M_of : RMok I_M_of I_M_mayDrop 0 0 := ⟨⟨by decide, by decide⟩, by decide, by decide⟩
theorem rm_M_drops_M_of : RMok I_M_of I_M_drops 0 0 := ⟨⟨by decide, by decide⟩, by decide, by decide⟩
theorem md_M_put : MDv I_M_put 3 := ⟨tb_in (i := 1202) (by decide +kernel) (by decide +kernel), tb_in (i := 45) (by decide +kernel) (by decide +kernel), rfl, ⟨tb_in (i := 91) (by decide +kernel) (by decide +kernel), tb_in (i := 1203) (by decide +kernel) (by decide +kernel), ⟨by decide, by decide, by decide +kernel⟩⟩⟩
theorem ml_M_149 : Cond.methodLink RX5 149 yX5_put ∈ TB := tb_in (i := 1200) (by decide +kernel) (by decide +kernel)
theorem rm_M_drops_M_put : RMok I_M_put I_M_drops 0 0 := ⟨⟨by decide, by decide⟩, by decide, by decide⟩
theorem rc_M_put : RC 5 I_M_put := ⟨by decide, _, _, rfl⟩
theorem rm_M_removes_M_put : RMok I_M_put I_M_removes 0 0 := ⟨⟨by decide, by decide⟩, by decide, by decide⟩
theorem fl_M_153 : FL RX5 153 5 19 := ⟨_, _, _, _, ck_5, by decide, tb_in (i := 1278) (by decide +kernel) (by decide +kernel)⟩
theorem tt_134_19 : tg 134 19 = 0 := by decide +kernel
theorem fl_M_51 : FL RX5 51 5 18 := ⟨_, _, _, _, ck_5, by decide, tb_in (i := 1277) (by decide +kernel) (by decide +kernel)⟩
theorem tt_134_18 : tg 134 18 = 148 := by decide +kernel
theorem kk_147 : kd 147 = 10 := by decide +kernel
theorem ll_147 : ln 147 = 6 := by decide +kernel
theorem rm_M_layName_M_put : RMok I_M_put I_M_layName 0 0 := ⟨⟨by decide, by decide⟩, by decide, by decide⟩
theorem fl_M_29 : FL RX5 29 5 8 := ⟨_, _, _, _, ck_5, by decide, tb_in (i := 1267) (by decide +kernel) (by decide +kernel)⟩
theorem tt_134_8 : tg 134 8 = 142 := by decide +kernel
theorem fl_M_66 : FL RX5 66 5 14 := ⟨_, _, _, _, ck_5, by decide, tb_in (i := 1273) (by decide +kernel) (by decide +kernel)⟩
theorem tt_134_14 : tg 134 14 = 0 := by decide +kernel
theorem sp_255 : (Int16.ofInt 255).toInt32 = 255 := by decide
theorem kk_141 : kd 141 = 10 := by decide +kernel
theorem ll_141 : ln 141 = 900 := by decide +kernel
theorem fw_M_66 : FW RX5 66 5 14 .int := ⟨_, _, _, _, ck_5, by decide, tb_in (i := 1273) (by decide +kernel) (by decide +kernel), rfl, by decide +kernel⟩
theorem md_M_four : MDv I_M_four 1 := ⟨tb_in (i := 1348) (by decide +kernel) (by decide +kernel), tb_in (i := 57) (by decide +kernel) (by decide +kernel), rfl, ⟨tb_in (i := 91) (by decide +kernel) (by decide +kernel), tb_in (i := 1349) (by decide +kernel) (by decide +kernel), ⟨by decide, by decide, by decide +kernel⟩⟩⟩
theorem ml_M_156 : Cond.methodLink RX5 156 yX5_four ∈ TB := tb_in (i := 1346) (by decide +kernel) (by decide +kernel)
theorem rm_M_append_M_four : RMok I_M_four I_M_append 0 0 := ⟨⟨by decide, by decide⟩, by decide, by decide⟩
theorem rc_M_four : RC 5 I_M_four := ⟨by decide, _, _, rfl⟩
theorem rm_M_truncateInput_M_isIn : RMok I_M_isIn I_M_truncateInput 0 0 := ⟨⟨by decide, by decide⟩, by decide, by decide⟩
theorem md_M_fails : MDv I_M_fails 3 := ⟨tb_in (i := 1356) (by decide +kernel) (by decide +kernel), tb_in (i := 58) (by decide +kernel) (by decide +kernel), rfl, ⟨tb_in (i := 91) (by decide +kernel) (by decide +kernel), tb_in (i := 1357) (by decide +kernel) (by decide +kernel), ⟨by decide, by decide, by decide +kernel⟩⟩⟩
theorem ml_M_160 : Cond.methodLink RX5 160 yX5_fails ∈ TB := tb_in (i := 1354) (by decide +kernel) (by decide +kernel)
theorem rm_M_truncateInput_M_fails : RMok I_M_fails I_M_truncateInput 0 0 := ⟨⟨by decide, by decide⟩, by decide, by decide⟩
theorem rc_M_fails : RC 5 I_M_fails := ⟨by decide, _, _, rfl⟩
theorem rm_M_isLetter_M_isIn : RMok I_M_isIn I_M_isLetter 0 0 := ⟨⟨by decide, by decide⟩, by decide, by decide⟩
theorem rm_M_isDigit_M_isIn : RMok I_M_isIn I_M_isDigit 0 0 := ⟨⟨by decide, by decide⟩, by decide, by decide⟩
theorem fl_M_164 : FL RX5 164 5 22 := ⟨_, _, _, _, ck_5, by decide, tb_in (i := 1281) (by decide +kernel) (by decide +kernel)⟩
theorem tt_134_22 : tg 134 22 = 0 := by decide +kernel
theorem fw_M_164 : FW RX5 164 5 22 .int := ⟨_, _, _, _, ck_5, by decide, tb_in (i := 1281) (by decide +kernel) (by decide +kernel), rfl, by decide +kernel⟩
theorem fw_M_167 : FW RX5 167 5 21 .int := ⟨_, _, _, _, ck_5, by decide, tb_in (i := 1280) (by decide +kernel) (by decide +kernel), rfl, by decide +kernel⟩
theorem tt_134_21 : tg 134 21 = 0 := by decide +kernel
theorem md_M_isLetter : MDv I_M_isLetter 1 := ⟨tb_in (i := 1147) (by decide +kernel) (by decide +kernel), tb_in (i := 33) (by decide +kernel) (by decide +kernel), rfl, ⟨tb_in (i := 91) (by decide +kernel) (by decide +kernel), tb_in (i := 1148) (by decide +kernel) (by decide +kernel), ⟨by decide, by decide, by decide +kernel⟩⟩⟩
theorem ml_M_173 : Cond.methodLink RX5 173 yX5_isLetter ∈ TB := tb_in (i := 1145) (by decide +kernel) (by decide +kernel)
theorem rm_M_next_M_isLetter : RMok I_M_isLetter I_M_next 0 0 := ⟨⟨by decide, by decide⟩, by decide, by decide⟩
theorem rc_M_isLetter : RC 5 I_M_isLetter := ⟨by decide, _, _, rfl⟩
theorem md_M_isDigit : MDv I_M_isDigit 1 := ⟨tb_in (i := 1154) (by decide +kernel) (by decide +kernel), tb_in (i := 34) (by decide +kernel) (by decide +kernel), rfl, ⟨tb_in (i := 91) (by decide +kernel) (by decide +kernel), tb_in (i := 1155) (by decide +kernel) (by decide +kernel), ⟨by decide, by decide, by decide +kernel⟩⟩⟩
theorem ml_M_176 : Cond.methodLink RX5 176 yX5_isDigit ∈ TB := tb_in (i := 1152) (by decide +kernel) (by decide +kernel)
theorem rm_M_next_M_isDigit : RMok I_M_isDigit I_M_next 0 0 := ⟨⟨by decide, by decide⟩, by decide, by decide⟩
theorem rc_M_isDigit : RC 5 I_M_isDigit := ⟨by decide, _, _, rfl⟩
theorem fw_M_170 : FW RX5 170 5 20 .int := ⟨_, _, _, _, ck_5, by decide, tb_in (i := 1279) (by decide +kernel) (by decide +kernel), rfl, by decide +kernel⟩
theorem tt_134_20 : tg 134 20 = 0 := by decide +kernel
theorem fw_M_179 : FW RX5 179 5 23 .int := ⟨_, _, _, _, ck_5, by decide, tb_in (i := 1282) (by decide +kernel) (by decide +kernel), rfl, by decide +kernel⟩
theorem tt_134_23 : tg 134 23 = 0 := by decide +kernel
theorem cn_M_182 : Cond.constant RX5 182 1000000 ∈ TB := tb_in (i := 1156) (by decide +kernel) (by decide +kernel)
theorem fl_M_179 : FL RX5 179 5 23 := ⟨_, _, _, _, ck_5, by decide, tb_in (i := 1282) (by decide +kernel) (by decide +kernel)⟩
theorem ml_M_183 : Cond.methodLink RX5 183 yJ9_min_7cf53 ∈ TB := tb_in (i := 1157) (by decide +kernel) (by decide +kernel)
theorem fl_M_188 : FL RX5 188 5 24 := ⟨_, _, _, _, ck_5, by decide, tb_in (i := 1283) (by decide +kernel) (by decide +kernel)⟩
theorem tt_134_24 : tg 134 24 = 0 := by decide +kernel
theorem fl_M_170 : FL RX5 170 5 20 := ⟨_, _, _, _, ck_5, by decide, tb_in (i := 1279) (by decide +kernel) (by decide +kernel)⟩
theorem fl_M_167 : FL RX5 167 5 21 := ⟨_, _, _, _, ck_5, by decide, tb_in (i := 1280) (by decide +kernel) (by decide +kernel)⟩
theorem ml_M_60 : Cond.methodLink RX5 60 yJ0_length_8abf5 ∈ TB := tb_in (i := 1125) (by decide +kernel) (by decide +kernel)
theorem rm_M_is_U_length : RMok I_U_length I_M_is 0 0 := ⟨⟨by decide, by decide⟩, by decide, by decide⟩
theorem ml_M_69 : Cond.methodLink RX5 69 yJ0_charAt_5068e ∈ TB := tb_in (i := 1126) (by decide +kernel) (by decide +kernel)
theorem rm_M_is_U_charAt : RMok I_U_charAt I_M_is 0 0 := ⟨⟨by decide, by decide⟩, by decide, by decide⟩
theorem fw_M_188 : FW RX5 188 5 24 .boolean := ⟨_, _, _, _, ck_5, by decide, tb_in (i := 1283) (by decide +kernel) (by decide +kernel), rfl, by decide +kernel⟩
theorem fw_M_192 : FW RX5 192 5 16 .int := ⟨_, _, _, _, ck_5, by decide, tb_in (i := 1275) (by decide +kernel) (by decide +kernel), rfl, by decide +kernel⟩
theorem tt_134_16 : tg 134 16 = 0 := by decide +kernel
theorem fw_M_47 : FW RX5 47 5 17 .int := ⟨_, _, _, _, ck_5, by decide, tb_in (i := 1276) (by decide +kernel) (by decide +kernel), rfl, by decide +kernel⟩
theorem tt_134_17 : tg 134 17 = 0 := by decide +kernel
theorem md_M_next : MDv I_M_next 0 := ⟨tb_in (i := 1143) (by decide +kernel) (by decide +kernel), tb_in (i := 32) (by decide +kernel) (by decide +kernel), rfl, ⟨tb_in (i := 91) (by decide +kernel) (by decide +kernel), tb_in (i := 1144) (by decide +kernel) (by decide +kernel), ⟨by decide, by decide, by decide +kernel⟩⟩⟩
theorem ml_M_195 : Cond.methodLink RX5 195 yX5_next ∈ TB := tb_in (i := 1141) (by decide +kernel) (by decide +kernel)
theorem rm_M_go_M_next : RMok I_M_next I_M_go 0 0 := ⟨⟨by decide, by decide⟩, by decide, by decide⟩
theorem rc_M_next : RC 5 I_M_next := ⟨by decide, _, _, rfl⟩
theorem md_M_wrong : MDv I_M_wrong 2 := ⟨tb_in (i := 1165) (by decide +kernel) (by decide +kernel), tb_in (i := 36) (by decide +kernel) (by decide +kernel), rfl, ⟨tb_in (i := 91) (by decide +kernel) (by decide +kernel), tb_in (i := 1166) (by decide +kernel) (by decide +kernel), ⟨by decide, by decide, by decide +kernel⟩⟩⟩
theorem ml_M_198 : Cond.methodLink RX5 198 yX5_wrong ∈ TB := tb_in (i := 1163) (by decide +kernel) (by decide +kernel)
theorem rm_M_number_M_wrong : RMok I_M_wrong I_M_number 0 0 := ⟨⟨by decide, by decide⟩, by decide, by decide⟩
theorem rc_M_wrong : RC 5 I_M_wrong := ⟨by decide, _, _, rfl⟩
theorem rm_M_number_M_isIn : RMok I_M_isIn I_M_number 0 0 := ⟨⟨by decide, by decide⟩, by decide, by decide⟩
theorem md_M_go : MDv I_M_go 0 := ⟨tb_in (i := 1169) (by decide +kernel) (by decide +kernel), tb_in (i := 37) (by decide +kernel) (by decide +kernel), rfl, ⟨tb_in (i := 91) (by decide +kernel) (by decide +kernel), tb_in (i := 1170) (by decide +kernel) (by decide +kernel), ⟨by decide, by decide, by decide +kernel⟩⟩⟩
theorem ml_M_202 : Cond.methodLink RX5 202 yX5_go ∈ TB := tb_in (i := 1167) (by decide +kernel) (by decide +kernel)
theorem rm_M_number_M_go : RMok I_M_go I_M_number 0 0 := ⟨⟨by decide, by decide⟩, by decide, by decide⟩
theorem rc_M_go : RC 5 I_M_go := ⟨by decide, _, _, rfl⟩
theorem rm_M_bearingHere_M_wrong : RMok I_M_wrong I_M_bearingHere 0 0 := ⟨⟨by decide, by decide⟩, by decide, by decide⟩
theorem md_M_number : MDv I_M_number 2 := ⟨tb_in (i := 1173) (by decide +kernel) (by decide +kernel), tb_in (i := 38) (by decide +kernel) (by decide +kernel), rfl, ⟨tb_in (i := 91) (by decide +kernel) (by decide +kernel), tb_in (i := 1174) (by decide +kernel) (by decide +kernel), ⟨by decide, by decide, by decide +kernel⟩⟩⟩
theorem ml_M_205 : Cond.methodLink RX5 205 yX5_number ∈ TB := tb_in (i := 1171) (by decide +kernel) (by decide +kernel)
theorem rm_M_bearingHere_M_number : RMok I_M_number I_M_bearingHere 0 0 := ⟨⟨by decide, by decide⟩, by decide, by decide⟩
theorem rc_M_number : RC 5 I_M_number := ⟨by decide, _, _, rfl⟩
theorem rm_M_nameHere_M_wrong : RMok I_M_wrong I_M_nameHere 0 0 := ⟨⟨by decide, by decide⟩, by decide, by decide⟩
theorem fw_M_153 : FW RX5 153 5 19 .int := ⟨_, _, _, _, ck_5, by decide, tb_in (i := 1278) (by decide +kernel) (by decide +kernel), rfl, by decide +kernel⟩
theorem md_M_nameHere : MDv I_M_nameHere 0 := ⟨tb_in (i := 1190) (by decide +kernel) (by decide +kernel), tb_in (i := 42) (by decide +kernel) (by decide +kernel), rfl, ⟨tb_in (i := 91) (by decide +kernel) (by decide +kernel), tb_in (i := 1191) (by decide +kernel) (by decide +kernel), ⟨by decide, by decide, by decide +kernel⟩⟩⟩
theorem ml_M_208 : Cond.methodLink RX5 208 yX5_nameHere ∈ TB := tb_in (i := 1188) (by decide +kernel) (by decide +kernel)
theorem rm_M_legHere_M_nameHere : RMok I_M_nameHere I_M_legHere 0 0 := ⟨⟨by decide, by decide⟩, by decide, by decide⟩
theorem rc_M_nameHere : RC 5 I_M_nameHere := ⟨by decide, _, _, rfl⟩
theorem md_M_named : MDv I_M_named 0 := ⟨tb_in (i := 1194) (by decide +kernel) (by decide +kernel), tb_in (i := 43) (by decide +kernel) (by decide +kernel), rfl, ⟨tb_in (i := 91) (by decide +kernel) (by decide +kernel), tb_in (i := 1195) (by decide +kernel) (by decide +kernel), ⟨by decide, by decide, by decide +kernel⟩⟩⟩
theorem ml_M_211 : Cond.methodLink RX5 211 yX5_named ∈ TB := tb_in (i := 1192) (by decide +kernel) (by decide +kernel)
theorem rm_M_legHere_M_named : RMok I_M_named I_M_legHere 0 0 := ⟨⟨by decide, by decide⟩, by decide, by decide⟩
theorem rc_M_named : RC 5 I_M_named := ⟨by decide, _, _, rfl⟩
theorem rm_M_legHere_M_wrong : RMok I_M_wrong I_M_legHere 0 0 := ⟨⟨by decide, by decide⟩, by decide, by decide⟩
theorem rm_M_legHere_M_go : RMok I_M_go I_M_legHere 0 0 := ⟨⟨by decide, by decide⟩, by decide, by decide⟩
theorem rm_M_ends_M_wrong : RMok I_M_wrong I_M_ends 0 0 := ⟨⟨by decide, by decide⟩, by decide, by decide⟩
theorem md_M_is : MDv I_M_is 1 := ⟨tb_in (i := 1161) (by decide +kernel) (by decide +kernel), tb_in (i := 35) (by decide +kernel) (by decide +kernel), rfl, ⟨tb_in (i := 91) (by decide +kernel) (by decide +kernel), tb_in (i := 1162) (by decide +kernel) (by decide +kernel), ⟨by decide, by decide, by decide +kernel⟩⟩⟩
theorem ml_M_214 : Cond.methodLink RX5 214 yX5_is ∈ TB := tb_in (i := 1159) (by decide +kernel) (by decide +kernel)
theorem rm_M_option_M_is : RMok I_M_is I_M_option 0 0 := ⟨⟨by decide, by decide⟩, by decide, by decide⟩
theorem rc_M_is : RC 5 I_M_is := ⟨by decide, _, _, rfl⟩
theorem rm_M_option_M_go : RMok I_M_go I_M_option 0 0 := ⟨⟨by decide, by decide⟩, by decide, by decide⟩
theorem rm_M_option_M_number : RMok I_M_number I_M_option 0 0 := ⟨⟨by decide, by decide⟩, by decide, by decide⟩
theorem rm_M_legTold_M_wrong : RMok I_M_wrong I_M_legTold 0 0 := ⟨⟨by decide, by decide⟩, by decide, by decide⟩
theorem rm_M_legTold_M_go : RMok I_M_go I_M_legTold 0 0 := ⟨⟨by decide, by decide⟩, by decide, by decide⟩
theorem rm_M_legTold_M_nameHere : RMok I_M_nameHere I_M_legTold 0 0 := ⟨⟨by decide, by decide⟩, by decide, by decide⟩
theorem rm_M_legTold_M_named : RMok I_M_named I_M_legTold 0 0 := ⟨⟨by decide, by decide⟩, by decide, by decide⟩
theorem md_M_layName : MDv I_M_layName 0 := ⟨tb_in (i := 1198) (by decide +kernel) (by decide +kernel), tb_in (i := 44) (by decide +kernel) (by decide +kernel), rfl, ⟨tb_in (i := 91) (by decide +kernel) (by decide +kernel), tb_in (i := 1199) (by decide +kernel) (by decide +kernel), ⟨by decide, by decide, by decide +kernel⟩⟩⟩
theorem ml_M_218 : Cond.methodLink RX5 218 yX5_layName ∈ TB := tb_in (i := 1196) (by decide +kernel) (by decide +kernel)
theorem rm_M_legTold_M_layName : RMok I_M_layName I_M_legTold 0 0 := ⟨⟨by decide, by decide⟩, by decide, by decide⟩
theorem rc_M_layName : RC 5 I_M_layName := ⟨by decide, _, _, rfl⟩
theorem md_M_bearingHere : MDv I_M_bearingHere 0 := ⟨tb_in (i := 1206) (by decide +kernel) (by decide +kernel), tb_in (i := 46) (by decide +kernel) (by decide +kernel), rfl, ⟨tb_in (i := 91) (by decide +kernel) (by decide +kernel), tb_in (i := 1207) (by decide +kernel) (by decide +kernel), ⟨by decide, by decide, by decide +kernel⟩⟩⟩
theorem ml_M_221 : Cond.methodLink RX5 221 yX5_bearingHere ∈ TB := tb_in (i := 1204) (by decide +kernel) (by decide +kernel)
theorem rm_M_legTold_M_bearingHere : RMok I_M_bearingHere I_M_legTold 0 0 := ⟨⟨by decide, by decide⟩, by decide, by decide⟩
theorem rc_M_bearingHere : RC 5 I_M_bearingHere := ⟨by decide, _, _, rfl⟩
theorem rm_M_legTold_M_put : RMok I_M_put I_M_legTold 0 0 := ⟨⟨by decide, by decide⟩, by decide, by decide⟩
theorem rm_M_legTold_M_number : RMok I_M_number I_M_legTold 0 0 := ⟨⟨by decide, by decide⟩, by decide, by decide⟩
theorem md_M_option : MDv I_M_option 3 := ⟨tb_in (i := 1211) (by decide +kernel) (by decide +kernel), tb_in (i := 47) (by decide +kernel) (by decide +kernel), rfl, ⟨tb_in (i := 91) (by decide +kernel) (by decide +kernel), tb_in (i := 1212) (by decide +kernel) (by decide +kernel), ⟨by decide, by decide, by decide +kernel⟩⟩⟩
theorem ml_M_226 : Cond.methodLink RX5 226 yX5_option ∈ TB := tb_in (i := 1209) (by decide +kernel) (by decide +kernel)
theorem rm_M_legTold_M_option : RMok I_M_option I_M_legTold 0 0 := ⟨⟨by decide, by decide⟩, by decide, by decide⟩
theorem rc_M_option : RC 5 I_M_option := ⟨by decide, _, _, rfl⟩
theorem md_M_ends : MDv I_M_ends 1 := ⟨tb_in (i := 1217) (by decide +kernel) (by decide +kernel), tb_in (i := 48) (by decide +kernel) (by decide +kernel), rfl, ⟨tb_in (i := 91) (by decide +kernel) (by decide +kernel), tb_in (i := 1218) (by decide +kernel) (by decide +kernel), ⟨by decide, by decide, by decide +kernel⟩⟩⟩
theorem ml_M_234 : Cond.methodLink RX5 234 yX5_ends ∈ TB := tb_in (i := 1215) (by decide +kernel) (by decide +kernel)
theorem rm_M_legTold_M_ends : RMok I_M_ends I_M_legTold 0 0 := ⟨⟨by decide, by decide⟩, by decide, by decide⟩
theorem rc_M_ends : RC 5 I_M_ends := ⟨by decide, _, _, rfl⟩
theorem rm_M_command_M_is : RMok I_M_is I_M_command 0 0 := ⟨⟨by decide, by decide⟩, by decide, by decide⟩
theorem rm_M_command_M_go : RMok I_M_go I_M_command 0 0 := ⟨⟨by decide, by decide⟩, by decide, by decide⟩
theorem rm_M_command_M_number : RMok I_M_number I_M_command 0 0 := ⟨⟨by decide, by decide⟩, by decide, by decide⟩
theorem rm_M_command_M_ends : RMok I_M_ends I_M_command 0 0 := ⟨⟨by decide, by decide⟩, by decide, by decide⟩
theorem md_M_sets : MDv I_M_sets 2 := ⟨tb_in (i := 1245) (by decide +kernel) (by decide +kernel), tb_in (i := 54) (by decide +kernel) (by decide +kernel), rfl, ⟨tb_in (i := 91) (by decide +kernel) (by decide +kernel), tb_in (i := 1246) (by decide +kernel) (by decide +kernel), ⟨by decide, by decide, by decide +kernel⟩⟩⟩
theorem ml_M_263 : Cond.methodLink RX5 263 yX5_sets ∈ TB := tb_in (i := 1243) (by decide +kernel) (by decide +kernel)
theorem rm_M_command_M_sets : RMok I_M_sets I_M_command 0 0 := ⟨⟨by decide, by decide⟩, by decide, by decide⟩
theorem rc_M_sets : RC 5 I_M_sets := ⟨by decide, _, _, rfl⟩
theorem fw_M_256 : FW RX5 256 5 25 .int := ⟨_, _, _, _, ck_5, by decide, tb_in (i := 1284) (by decide +kernel) (by decide +kernel), rfl, by decide +kernel⟩
theorem tt_134_25 : tg 134 25 = 0 := by decide +kernel
theorem md_M_legHere : MDv I_M_legHere 0 := ⟨tb_in (i := 1223) (by decide +kernel) (by decide +kernel), tb_in (i := 49) (by decide +kernel) (by decide +kernel), rfl, ⟨tb_in (i := 91) (by decide +kernel) (by decide +kernel), tb_in (i := 1224) (by decide +kernel) (by decide +kernel), ⟨by decide, by decide, by decide +kernel⟩⟩⟩
theorem ml_M_247 : Cond.methodLink RX5 247 yX5_legHere ∈ TB := tb_in (i := 1221) (by decide +kernel) (by decide +kernel)
theorem rm_M_command_M_legHere : RMok I_M_legHere I_M_command 0 0 := ⟨⟨by decide, by decide⟩, by decide, by decide⟩
theorem rc_M_legHere : RC 5 I_M_legHere := ⟨by decide, _, _, rfl⟩
theorem rm_M_command_M_of : RMok I_M_of I_M_command 0 0 := ⟨⟨by decide, by decide⟩, by decide, by decide⟩
theorem md_M_mayDrop : MDv I_M_mayDrop 1 := ⟨tb_in (i := 1227) (by decide +kernel) (by decide +kernel), tb_in (i := 50) (by decide +kernel) (by decide +kernel), rfl, ⟨tb_in (i := 91) (by decide +kernel) (by decide +kernel), tb_in (i := 1228) (by decide +kernel) (by decide +kernel), ⟨by decide, by decide, by decide +kernel⟩⟩⟩
theorem ml_M_250 : Cond.methodLink RX5 250 yX5_mayDrop ∈ TB := tb_in (i := 1225) (by decide +kernel) (by decide +kernel)
theorem rm_M_command_M_mayDrop : RMok I_M_mayDrop I_M_command 0 0 := ⟨⟨by decide, by decide⟩, by decide, by decide⟩
theorem rc_M_mayDrop : RC 5 I_M_mayDrop := ⟨by decide, _, _, rfl⟩
theorem md_M_legTold : MDv I_M_legTold 1 := ⟨tb_in (i := 1186) (by decide +kernel) (by decide +kernel), tb_in (i := 41) (by decide +kernel) (by decide +kernel), rfl, ⟨tb_in (i := 91) (by decide +kernel) (by decide +kernel), tb_in (i := 1187) (by decide +kernel) (by decide +kernel), ⟨by decide, by decide, by decide +kernel⟩⟩⟩
theorem ml_M_240 : Cond.methodLink RX5 240 yX5_legTold ∈ TB := tb_in (i := 1184) (by decide +kernel) (by decide +kernel)
theorem rm_M_command_M_legTold : RMok I_M_legTold I_M_command 0 0 := ⟨⟨by decide, by decide⟩, by decide, by decide⟩
theorem rc_M_legTold : RC 5 I_M_legTold := ⟨by decide, _, _, rfl⟩
theorem md_M_removes : MDv I_M_removes 0 := ⟨tb_in (i := 1251) (by decide +kernel) (by decide +kernel), tb_in (i := 55) (by decide +kernel) (by decide +kernel), rfl, ⟨tb_in (i := 91) (by decide +kernel) (by decide +kernel), tb_in (i := 1252) (by decide +kernel) (by decide +kernel), ⟨by decide, by decide, by decide +kernel⟩⟩⟩
theorem ml_M_270 : Cond.methodLink RX5 270 yX5_removes ∈ TB := tb_in (i := 1249) (by decide +kernel) (by decide +kernel)
theorem rm_M_command_M_removes : RMok I_M_removes I_M_command 0 0 := ⟨⟨by decide, by decide⟩, by decide, by decide⟩
theorem rc_M_removes : RC 5 I_M_removes := ⟨by decide, _, _, rfl⟩
theorem md_M_drops : MDv I_M_drops 2 := ⟨tb_in (i := 1239) (by decide +kernel) (by decide +kernel), tb_in (i := 53) (by decide +kernel) (by decide +kernel), rfl, ⟨tb_in (i := 91) (by decide +kernel) (by decide +kernel), tb_in (i := 1240) (by decide +kernel) (by decide +kernel), ⟨by decide, by decide, by decide +kernel⟩⟩⟩
theorem ml_M_253 : Cond.methodLink RX5 253 yX5_drops ∈ TB := tb_in (i := 1237) (by decide +kernel) (by decide +kernel)
theorem rm_M_command_M_drops : RMok I_M_drops I_M_command 0 0 := ⟨⟨by decide, by decide⟩, by decide, by decide⟩
theorem rc_M_drops : RC 5 I_M_drops := ⟨by decide, _, _, rfl⟩
theorem rm_M_command_M_wrong : RMok I_M_wrong I_M_command 0 0 := ⟨⟨by decide, by decide⟩, by decide, by decide⟩
theorem fl_M_22 : FL RX5 22 5 4 := ⟨_, _, _, _, ck_5, by decide, tb_in (i := 1263) (by decide +kernel) (by decide +kernel)⟩
theorem tt_134_4 : tg 134 4 = 140 := by decide +kernel
theorem kk_139 : kd 139 = 10 := by decide +kernel
theorem rm_M_starts_M_copy : RMok I_M_copy I_M_starts 0 0 := ⟨⟨by decide, by decide⟩, by decide, by decide⟩
theorem rm_M_starts_M_next : RMok I_M_next I_M_starts 0 0 := ⟨⟨by decide, by decide⟩, by decide, by decide⟩
theorem md_M_command : MDv I_M_command 0 := ⟨tb_in (i := 1181) (by decide +kernel) (by decide +kernel), tb_in (i := 40) (by decide +kernel) (by decide +kernel), rfl, ⟨tb_in (i := 91) (by decide +kernel) (by decide +kernel), tb_in (i := 1182) (by decide +kernel) (by decide +kernel), ⟨by decide, by decide, by decide +kernel⟩⟩⟩
theorem ml_M_277 : Cond.methodLink RX5 277 yX5_command ∈ TB := tb_in (i := 1179) (by decide +kernel) (by decide +kernel)
theorem rm_M_commands_M_command : RMok I_M_command I_M_commands 0 0 := ⟨⟨by decide, by decide⟩, by decide, by decide⟩
theorem rc_M_command : RC 5 I_M_command := ⟨by decide, _, _, rfl⟩
theorem ll_139 : ln 139 = 284 := by decide +kernel
theorem md_M_remember : MDv I_M_remember 1 := ⟨tb_in (i := 1257) (by decide +kernel) (by decide +kernel), tb_in (i := 56) (by decide +kernel) (by decide +kernel), rfl, ⟨tb_in (i := 91) (by decide +kernel) (by decide +kernel), tb_in (i := 1258) (by decide +kernel) (by decide +kernel), ⟨by decide, by decide, by decide +kernel⟩⟩⟩
theorem ml_M_280 : Cond.methodLink RX5 280 yX5_remember ∈ TB := tb_in (i := 1255) (by decide +kernel) (by decide +kernel)
theorem rm_M_commands_M_remember : RMok I_M_remember I_M_commands 0 0 := ⟨⟨by decide, by decide⟩, by decide, by decide⟩
theorem rc_M_remember : RC 5 I_M_remember := ⟨by decide, _, _, rfl⟩
theorem rm_M_commands_M_copy : RMok I_M_copy I_M_commands 0 0 := ⟨⟨by decide, by decide⟩, by decide, by decide⟩
theorem md_M_starts : MDv I_M_starts 0 := ⟨tb_in (i := 1133) (by decide +kernel) (by decide +kernel), tb_in (i := 31) (by decide +kernel) (by decide +kernel), rfl, ⟨tb_in (i := 91) (by decide +kernel) (by decide +kernel), tb_in (i := 1134) (by decide +kernel) (by decide +kernel), ⟨by decide, by decide, by decide +kernel⟩⟩⟩
theorem ml_M_284 : Cond.methodLink RX5 284 yX5_starts ∈ TB := tb_in (i := 1131) (by decide +kernel) (by decide +kernel)
theorem rm_M_load_M_starts : RMok I_M_starts I_M_load 0 0 := ⟨⟨by decide, by decide⟩, by decide, by decide⟩
theorem rc_M_starts : RC 5 I_M_starts := ⟨by decide, _, _, rfl⟩
theorem rm_M_load_M_is : RMok I_M_is I_M_load 0 0 := ⟨⟨by decide, by decide⟩, by decide, by decide⟩
theorem rm_M_load_M_wrong : RMok I_M_wrong I_M_load 0 0 := ⟨⟨by decide, by decide⟩, by decide, by decide⟩
theorem rm_M_load_M_go : RMok I_M_go I_M_load 0 0 := ⟨⟨by decide, by decide⟩, by decide, by decide⟩
theorem rm_M_load_M_number : RMok I_M_number I_M_load 0 0 := ⟨⟨by decide, by decide⟩, by decide, by decide⟩
theorem md_M_commands : MDv I_M_commands 0 := ⟨tb_in (i := 1177) (by decide +kernel) (by decide +kernel), tb_in (i := 39) (by decide +kernel) (by decide +kernel), rfl, ⟨tb_in (i := 91) (by decide +kernel) (by decide +kernel), tb_in (i := 1178) (by decide +kernel) (by decide +kernel), ⟨by decide, by decide, by decide +kernel⟩⟩⟩
theorem ml_M_289 : Cond.methodLink RX5 289 yX5_commands ∈ TB := tb_in (i := 1175) (by decide +kernel) (by decide +kernel)
theorem rm_M_load_M_commands : RMok I_M_commands I_M_load 0 0 := ⟨⟨by decide, by decide⟩, by decide, by decide⟩
theorem rc_M_commands : RC 5 I_M_commands := ⟨by decide, _, _, rfl⟩
theorem rm_M_play_M_starts : RMok I_M_starts I_M_play 0 0 := ⟨⟨by decide, by decide⟩, by decide, by decide⟩
theorem rm_M_play_M_commands : RMok I_M_commands I_M_play 0 0 := ⟨⟨by decide, by decide⟩, by decide, by decide⟩
theorem fl_M_192 : FL RX5 192 5 16 := ⟨_, _, _, _, ck_5, by decide, tb_in (i := 1275) (by decide +kernel) (by decide +kernel)⟩
theorem md_M_told : MDv I_M_told 1 := ⟨tb_in (i := 1369) (by decide +kernel) (by decide +kernel), tb_in (i := 59) (by decide +kernel) (by decide +kernel), rfl, ⟨tb_in (i := 91) (by decide +kernel) (by decide +kernel), tb_in (i := 1370) (by decide +kernel) (by decide +kernel), ⟨by decide, by decide, by decide +kernel⟩⟩⟩
theorem ml_M_292 : Cond.methodLink RX5 292 yX5_told ∈ TB := tb_in (i := 1367) (by decide +kernel) (by decide +kernel)
theorem rm_M_errorCode_M_told : RMok I_M_told I_M_errorCode 0 0 := ⟨⟨by decide, by decide⟩, by decide, by decide⟩
theorem rc_M_told : RC 5 I_M_told := ⟨by decide, _, _, rfl⟩
theorem fl_M_47 : FL RX5 47 5 17 := ⟨_, _, _, _, ck_5, by decide, tb_in (i := 1276) (by decide +kernel) (by decide +kernel)⟩
theorem rm_M_errorOffset_M_told : RMok I_M_told I_M_errorOffset 0 0 := ⟨⟨by decide, by decide⟩, by decide, by decide⟩
theorem rm_M_isBearing_M_isIn : RMok I_M_isIn I_M_isBearing 0 0 := ⟨⟨by decide, by decide⟩, by decide, by decide⟩
theorem bp_113 : (Int8.ofInt 113).toInt32 = 113 := by decide
theorem rm_M_mayAdd_M_named : RMok I_M_named I_M_mayAdd 0 0 := ⟨⟨by decide, by decide⟩, by decide, by decide⟩
theorem rm_M_adds_M_remember : RMok I_M_remember I_M_adds 0 0 := ⟨⟨by decide, by decide⟩, by decide, by decide⟩
theorem rm_M_adds_M_layName : RMok I_M_layName I_M_adds 0 0 := ⟨⟨by decide, by decide⟩, by decide, by decide⟩
theorem rm_M_adds_M_put : RMok I_M_put I_M_adds 0 0 := ⟨⟨by decide, by decide⟩, by decide, by decide⟩
theorem md_M_isBearing : MDs I_M_isBearing 1 := ⟨tb_in (i := 1380) (by decide +kernel) (by decide +kernel), rfl, ⟨tb_in (i := 91) (by decide +kernel) (by decide +kernel), tb_in (i := 1381) (by decide +kernel) (by decide +kernel), ⟨by decide, by decide, by decide +kernel⟩⟩⟩
theorem ml_M_295 : Cond.methodLink RX5 295 yX5_isBearing ∈ TB := tb_in (i := 1379) (by decide +kernel) (by decide +kernel)
theorem rm_M_addLeg_M_isBearing : RMok I_M_isBearing I_M_addLeg 0 0 := ⟨⟨by decide, by decide⟩, by decide, by decide⟩
theorem rm_M_addLeg_M_isIn : RMok I_M_isIn I_M_addLeg 0 0 := ⟨⟨by decide, by decide⟩, by decide, by decide⟩
theorem md_M_mayAdd : MDv I_M_mayAdd 0 := ⟨tb_in (i := 1384) (by decide +kernel) (by decide +kernel), tb_in (i := 60) (by decide +kernel) (by decide +kernel), rfl, ⟨tb_in (i := 91) (by decide +kernel) (by decide +kernel), tb_in (i := 1385) (by decide +kernel) (by decide +kernel), ⟨by decide, by decide, by decide +kernel⟩⟩⟩
theorem ml_M_298 : Cond.methodLink RX5 298 yX5_mayAdd ∈ TB := tb_in (i := 1382) (by decide +kernel) (by decide +kernel)
theorem rm_M_addLeg_M_mayAdd : RMok I_M_mayAdd I_M_addLeg 0 0 := ⟨⟨by decide, by decide⟩, by decide, by decide⟩
theorem rc_M_mayAdd : RC 5 I_M_mayAdd := ⟨by decide, _, _, rfl⟩
theorem rm_M_addLeg_M_fails : RMok I_M_fails I_M_addLeg 0 0 := ⟨⟨by decide, by decide⟩, by decide, by decide⟩
theorem md_M_adds : MDv I_M_adds 6 := ⟨tb_in (i := 1388) (by decide +kernel) (by decide +kernel), tb_in (i := 61) (by decide +kernel) (by decide +kernel), rfl, ⟨tb_in (i := 91) (by decide +kernel) (by decide +kernel), tb_in (i := 1389) (by decide +kernel) (by decide +kernel), ⟨by decide, by decide, by decide +kernel⟩⟩⟩
theorem ml_M_302 : Cond.methodLink RX5 302 yX5_adds ∈ TB := tb_in (i := 1386) (by decide +kernel) (by decide +kernel)
theorem rm_M_addLeg_M_adds : RMok I_M_adds I_M_addLeg 0 0 := ⟨⟨by decide, by decide⟩, by decide, by decide⟩
theorem rc_M_adds : RC 5 I_M_adds := ⟨by decide, _, _, rfl⟩
theorem rm_M_addBog_M_isBearing : RMok I_M_isBearing I_M_addBog 0 0 := ⟨⟨by decide, by decide⟩, by decide, by decide⟩
theorem rm_M_addBog_M_isIn : RMok I_M_isIn I_M_addBog 0 0 := ⟨⟨by decide, by decide⟩, by decide, by decide⟩
theorem rm_M_addBog_M_mayAdd : RMok I_M_mayAdd I_M_addBog 0 0 := ⟨⟨by decide, by decide⟩, by decide, by decide⟩
theorem rm_M_addBog_M_fails : RMok I_M_fails I_M_addBog 0 0 := ⟨⟨by decide, by decide⟩, by decide, by decide⟩
theorem rm_M_addBog_M_adds : RMok I_M_adds I_M_addBog 0 0 := ⟨⟨by decide, by decide⟩, by decide, by decide⟩
theorem md_M_noLeg : MDv I_M_noLeg 1 := ⟨tb_in (i := 1400) (by decide +kernel) (by decide +kernel), tb_in (i := 62) (by decide +kernel) (by decide +kernel), rfl, ⟨tb_in (i := 91) (by decide +kernel) (by decide +kernel), tb_in (i := 1401) (by decide +kernel) (by decide +kernel), ⟨by decide, by decide, by decide +kernel⟩⟩⟩
theorem ml_M_306 : Cond.methodLink RX5 306 yX5_noLeg ∈ TB := tb_in (i := 1398) (by decide +kernel) (by decide +kernel)
theorem rm_M_dropPin_M_noLeg : RMok I_M_noLeg I_M_dropPin 0 0 := ⟨⟨by decide, by decide⟩, by decide, by decide⟩
theorem rc_M_noLeg : RC 5 I_M_noLeg := ⟨by decide, _, _, rfl⟩
theorem rm_M_dropPin_M_mayDrop : RMok I_M_mayDrop I_M_dropPin 0 0 := ⟨⟨by decide, by decide⟩, by decide, by decide⟩
theorem rm_M_dropPin_M_fails : RMok I_M_fails I_M_dropPin 0 0 := ⟨⟨by decide, by decide⟩, by decide, by decide⟩
theorem rm_M_dropPin_M_remember : RMok I_M_remember I_M_dropPin 0 0 := ⟨⟨by decide, by decide⟩, by decide, by decide⟩
theorem rm_M_dropPin_M_drops : RMok I_M_drops I_M_dropPin 0 0 := ⟨⟨by decide, by decide⟩, by decide, by decide⟩
theorem rm_M_findPin_M_noLeg : RMok I_M_noLeg I_M_findPin 0 0 := ⟨⟨by decide, by decide⟩, by decide, by decide⟩
theorem rm_M_findPin_M_of : RMok I_M_of I_M_findPin 0 0 := ⟨⟨by decide, by decide⟩, by decide, by decide⟩
theorem rm_M_findPin_M_fails : RMok I_M_fails I_M_findPin 0 0 := ⟨⟨by decide, by decide⟩, by decide, by decide⟩
theorem rm_M_findPin_M_remember : RMok I_M_remember I_M_findPin 0 0 := ⟨⟨by decide, by decide⟩, by decide, by decide⟩
theorem rm_M_findPin_M_drops : RMok I_M_drops I_M_findPin 0 0 := ⟨⟨by decide, by decide⟩, by decide, by decide⟩
theorem rm_M_removeLast_M_fails : RMok I_M_fails I_M_removeLast 0 0 := ⟨⟨by decide, by decide⟩, by decide, by decide⟩
theorem rm_M_removeLast_M_remember : RMok I_M_remember I_M_removeLast 0 0 := ⟨⟨by decide, by decide⟩, by decide, by decide⟩
theorem rm_M_removeLast_M_removes : RMok I_M_removes I_M_removeLast 0 0 := ⟨⟨by decide, by decide⟩, by decide, by decide⟩
theorem rm_M_setWear_M_isIn : RMok I_M_isIn I_M_setWear 0 0 := ⟨⟨by decide, by decide⟩, by decide, by decide⟩
theorem rm_M_setWear_M_fails : RMok I_M_fails I_M_setWear 0 0 := ⟨⟨by decide, by decide⟩, by decide, by decide⟩
theorem rm_M_setWear_M_remember : RMok I_M_remember I_M_setWear 0 0 := ⟨⟨by decide, by decide⟩, by decide, by decide⟩
theorem rm_M_setWear_M_sets : RMok I_M_sets I_M_setWear 0 0 := ⟨⟨by decide, by decide⟩, by decide, by decide⟩
theorem rm_M_setPace_M_isIn : RMok I_M_isIn I_M_setPace 0 0 := ⟨⟨by decide, by decide⟩, by decide, by decide⟩
theorem rm_M_setPace_M_fails : RMok I_M_fails I_M_setPace 0 0 := ⟨⟨by decide, by decide⟩, by decide, by decide⟩
theorem rm_M_setPace_M_remember : RMok I_M_remember I_M_setPace 0 0 := ⟨⟨by decide, by decide⟩, by decide, by decide⟩
theorem rm_M_setPace_M_sets : RMok I_M_sets I_M_setPace 0 0 := ⟨⟨by decide, by decide⟩, by decide, by decide⟩
theorem rm_M_setAdjusted_M_remember : RMok I_M_remember I_M_setAdjusted 0 0 := ⟨⟨by decide, by decide⟩, by decide, by decide⟩
theorem rm_M_setAdjusted_M_sets : RMok I_M_sets I_M_setAdjusted 0 0 := ⟨⟨by decide, by decide⟩, by decide, by decide⟩
theorem rm_M_undo_M_fails : RMok I_M_fails I_M_undo 0 0 := ⟨⟨by decide, by decide⟩, by decide, by decide⟩
theorem rm_M_undo_M_copy : RMok I_M_copy I_M_undo 0 0 := ⟨⟨by decide, by decide⟩, by decide, by decide⟩
theorem rm_M_save_M_isIn : RMok I_M_isIn I_M_save 0 0 := ⟨⟨by decide, by decide⟩, by decide, by decide⟩
theorem rm_M_save_M_fails : RMok I_M_fails I_M_save 0 0 := ⟨⟨by decide, by decide⟩, by decide, by decide⟩
theorem fl_M_19 : FL RX5 19 5 3 := ⟨_, _, _, _, ck_5, by decide, tb_in (i := 1262) (by decide +kernel) (by decide +kernel)⟩
theorem tt_134_3 : tg 134 3 = 139 := by decide +kernel
theorem kk_138 : kd 138 = 10 := by decide +kernel
theorem rm_M_save_M_copy : RMok I_M_copy I_M_save 0 0 := ⟨⟨by decide, by decide⟩, by decide, by decide⟩
theorem fl_M_25 : FL RX5 25 5 5 := ⟨_, _, _, _, ck_5, by decide, tb_in (i := 1264) (by decide +kernel) (by decide +kernel)⟩
theorem tt_134_5 : tg 134 5 = 141 := by decide +kernel
theorem kk_140 : kd 140 = 12 := by decide +kernel
theorem ll_140 : ln 140 = 2 := by decide +kernel
theorem rm_M_restore_M_isIn : RMok I_M_isIn I_M_restore 0 0 := ⟨⟨by decide, by decide⟩, by decide, by decide⟩
theorem rm_M_restore_M_fails : RMok I_M_fails I_M_restore 0 0 := ⟨⟨by decide, by decide⟩, by decide, by decide⟩
theorem rm_M_restore_M_remember : RMok I_M_remember I_M_restore 0 0 := ⟨⟨by decide, by decide⟩, by decide, by decide⟩
theorem rm_M_restore_M_copy : RMok I_M_copy I_M_restore 0 0 := ⟨⟨by decide, by decide⟩, by decide, by decide⟩
theorem rm_M_legCount_M_told : RMok I_M_told I_M_legCount 0 0 := ⟨⟨by decide, by decide⟩, by decide, by decide⟩
theorem rm_M_stationCount_M_told : RMok I_M_told I_M_stationCount 0 0 := ⟨⟨by decide, by decide⟩, by decide, by decide⟩
theorem rm_M_wear_M_told : RMok I_M_told I_M_wear 0 0 := ⟨⟨by decide, by decide⟩, by decide, by decide⟩
theorem rm_M_pace_M_told : RMok I_M_told I_M_pace 0 0 := ⟨⟨by decide, by decide⟩, by decide, by decide⟩
theorem rm_M_undoableChanges_M_told : RMok I_M_told I_M_undoableChanges 0 0 := ⟨⟨by decide, by decide⟩, by decide, by decide⟩
theorem rm_M_isAdjusted_M_told : RMok I_M_told I_M_isAdjusted 0 0 := ⟨⟨by decide, by decide⟩, by decide, by decide⟩
theorem rm_M_isBad_M_noLeg : RMok I_M_noLeg I_M_isBad 0 0 := ⟨⟨by decide, by decide⟩, by decide, by decide⟩
theorem rm_M_isBad_M_fails : RMok I_M_fails I_M_isBad 0 0 := ⟨⟨by decide, by decide⟩, by decide, by decide⟩
theorem md_M_isBad : MDv I_M_isBad 1 := ⟨tb_in (i := 1464) (by decide +kernel) (by decide +kernel), tb_in (i := 63) (by decide +kernel) (by decide +kernel), rfl, ⟨tb_in (i := 91) (by decide +kernel) (by decide +kernel), tb_in (i := 1465) (by decide +kernel) (by decide +kernel), ⟨by decide, by decide, by decide +kernel⟩⟩⟩
theorem ml_M_309 : Cond.methodLink RX5 309 yX5_isBad ∈ TB := tb_in (i := 1462) (by decide +kernel) (by decide +kernel)
theorem rm_M_bearing_M_isBad : RMok I_M_isBad I_M_bearing 0 0 := ⟨⟨by decide, by decide⟩, by decide, by decide⟩
theorem rc_M_isBad : RC 5 I_M_isBad := ⟨by decide, _, _, rfl⟩
theorem rm_M_bearing_M_of : RMok I_M_of I_M_bearing 0 0 := ⟨⟨by decide, by decide⟩, by decide, by decide⟩
theorem rm_M_pins_M_isBad : RMok I_M_isBad I_M_pins 0 0 := ⟨⟨by decide, by decide⟩, by decide, by decide⟩
theorem rm_M_pins_M_of : RMok I_M_of I_M_pins 0 0 := ⟨⟨by decide, by decide⟩, by decide, by decide⟩
theorem rm_M_droppedPins_M_isBad : RMok I_M_isBad I_M_droppedPins 0 0 := ⟨⟨by decide, by decide⟩, by decide, by decide⟩
theorem rm_M_droppedPins_M_of : RMok I_M_of I_M_droppedPins 0 0 := ⟨⟨by decide, by decide⟩, by decide, by decide⟩
theorem rm_M_readLength_M_isBad : RMok I_M_isBad I_M_readLength 0 0 := ⟨⟨by decide, by decide⟩, by decide, by decide⟩
theorem rm_M_readLength_M_read : RMok I_M_read I_M_readLength 0 0 := ⟨⟨by decide, by decide⟩, by decide, by decide⟩
theorem rm_M_slopeLength_M_isBad : RMok I_M_isBad I_M_slopeLength 0 0 := ⟨⟨by decide, by decide⟩, by decide, by decide⟩
theorem rm_M_slopeLength_M_slope : RMok I_M_slope I_M_slopeLength 0 0 := ⟨⟨by decide, by decide⟩, by decide, by decide⟩
theorem rm_M_horizontalLength_M_isBad : RMok I_M_isBad I_M_horizontalLength 0 0 := ⟨⟨by decide, by decide⟩, by decide, by decide⟩
theorem rm_M_horizontalLength_M_flat : RMok I_M_flat I_M_horizontalLength 0 0 := ⟨⟨by decide, by decide⟩, by decide, by decide⟩
theorem rm_M_eastStep_M_isBad : RMok I_M_isBad I_M_eastStep 0 0 := ⟨⟨by decide, by decide⟩, by decide, by decide⟩
theorem rm_M_eastStep_M_step : RMok I_M_step I_M_eastStep 0 0 := ⟨⟨by decide, by decide⟩, by decide, by decide⟩
theorem rm_M_northStep_M_isBad : RMok I_M_isBad I_M_northStep 0 0 := ⟨⟨by decide, by decide⟩, by decide, by decide⟩
theorem rm_M_northStep_M_step : RMok I_M_step I_M_northStep 0 0 := ⟨⟨by decide, by decide⟩, by decide, by decide⟩
theorem rm_M_tallies_M_isBad : RMok I_M_isBad I_M_tallies 0 0 := ⟨⟨by decide, by decide⟩, by decide, by decide⟩
theorem rm_M_tallies_M_of : RMok I_M_of I_M_tallies 0 0 := ⟨⟨by decide, by decide⟩, by decide, by decide⟩
theorem rm_M_isBog_M_isBad : RMok I_M_isBad I_M_isBog 0 0 := ⟨⟨by decide, by decide⟩, by decide, by decide⟩
theorem rm_M_isBog_M_bog : RMok I_M_bog I_M_isBog 0 0 := ⟨⟨by decide, by decide⟩, by decide, by decide⟩
theorem rm_M_nameByte_M_isBad : RMok I_M_isBad I_M_nameByte 0 0 := ⟨⟨by decide, by decide⟩, by decide, by decide⟩
theorem rm_M_nameByte_M_of : RMok I_M_of I_M_nameByte 0 0 := ⟨⟨by decide, by decide⟩, by decide, by decide⟩
theorem rm_M_nameByte_M_isIn : RMok I_M_isIn I_M_nameByte 0 0 := ⟨⟨by decide, by decide⟩, by decide, by decide⟩
theorem rm_M_findLeg_M_isIn : RMok I_M_isIn I_M_findLeg 0 0 := ⟨⟨by decide, by decide⟩, by decide, by decide⟩
theorem rm_M_findLeg_M_named : RMok I_M_named I_M_findLeg 0 0 := ⟨⟨by decide, by decide⟩, by decide, by decide⟩
theorem rm_M_noStation_M_isIn : RMok I_M_isIn I_M_noStation 0 0 := ⟨⟨by decide, by decide⟩, by decide, by decide⟩
theorem rm_M_noStation_M_fails : RMok I_M_fails I_M_noStation 0 0 := ⟨⟨by decide, by decide⟩, by decide, by decide⟩
theorem md_M_noStation : MDv I_M_noStation 1 := ⟨tb_in (i := 1544) (by decide +kernel) (by decide +kernel), tb_in (i := 69) (by decide +kernel) (by decide +kernel), rfl, ⟨tb_in (i := 91) (by decide +kernel) (by decide +kernel), tb_in (i := 1545) (by decide +kernel) (by decide +kernel), ⟨by decide, by decide, by decide +kernel⟩⟩⟩
theorem ml_M_312 : Cond.methodLink RX5 312 yX5_noStation ∈ TB := tb_in (i := 1542) (by decide +kernel) (by decide +kernel)
theorem rm_M_rawEast_M_noStation : RMok I_M_noStation I_M_rawEast 0 0 := ⟨⟨by decide, by decide⟩, by decide, by decide⟩
theorem rc_M_noStation : RC 5 I_M_noStation := ⟨by decide, _, _, rfl⟩
theorem rm_M_rawEast_M_findRaw : RMok I_M_findRaw I_M_rawEast 0 0 := ⟨⟨by decide, by decide⟩, by decide, by decide⟩
theorem rm_M_rawNorth_M_noStation : RMok I_M_noStation I_M_rawNorth 0 0 := ⟨⟨by decide, by decide⟩, by decide, by decide⟩
theorem rm_M_rawNorth_M_findRaw : RMok I_M_findRaw I_M_rawNorth 0 0 := ⟨⟨by decide, by decide⟩, by decide, by decide⟩
theorem rm_M_east_M_noStation : RMok I_M_noStation I_M_east 0 0 := ⟨⟨by decide, by decide⟩, by decide, by decide⟩
theorem md_M_findStations : MDv I_M_findStations 0 := ⟨tb_in (i := 1560) (by decide +kernel) (by decide +kernel), tb_in (i := 71) (by decide +kernel) (by decide +kernel), rfl, ⟨tb_in (i := 91) (by decide +kernel) (by decide +kernel), tb_in (i := 1561) (by decide +kernel) (by decide +kernel), ⟨by decide, by decide, by decide +kernel⟩⟩⟩
theorem ml_M_315 : Cond.methodLink RX5 315 yX5_findStations ∈ TB := tb_in (i := 1558) (by decide +kernel) (by decide +kernel)
theorem rm_M_east_M_findStations : RMok I_M_findStations I_M_east 0 0 := ⟨⟨by decide, by decide⟩, by decide, by decide⟩
theorem rc_M_findStations : RC 5 I_M_findStations := ⟨by decide, _, _, rfl⟩
theorem rm_M_north_M_noStation : RMok I_M_noStation I_M_north 0 0 := ⟨⟨by decide, by decide⟩, by decide, by decide⟩
theorem rm_M_north_M_findStations : RMok I_M_findStations I_M_north 0 0 := ⟨⟨by decide, by decide⟩, by decide, by decide⟩
theorem rm_M_run_M_noStation : RMok I_M_noStation I_M_run 0 0 := ⟨⟨by decide, by decide⟩, by decide, by decide⟩
theorem rm_M_run_M_findRaw : RMok I_M_findRaw I_M_run 0 0 := ⟨⟨by decide, by decide⟩, by decide, by decide⟩
theorem rm_M_distanceFromStart_M_noStation : RMok I_M_noStation I_M_distanceFromStart 0 0 := ⟨⟨by decide, by decide⟩, by decide, by decide⟩
theorem rm_M_distanceFromStart_M_findStations : RMok I_M_findStations I_M_distanceFromStart 0 0 := ⟨⟨by decide, by decide⟩, by decide, by decide⟩
theorem rm_M_distanceFromStart_M_far : RMok I_M_far I_M_distanceFromStart 0 0 := ⟨⟨by decide, by decide⟩, by decide, by decide⟩
theorem rm_M_perimeterNow_M_findRaw : RMok I_M_findRaw I_M_perimeterNow 0 0 := ⟨⟨by decide, by decide⟩, by decide, by decide⟩
theorem rm_M_perimeterNow_M_around : RMok I_M_around I_M_perimeterNow 0 0 := ⟨⟨by decide, by decide⟩, by decide, by decide⟩
theorem md_M_perimeterNow : MDv I_M_perimeterNow 0 := ⟨tb_in (i := 1590) (by decide +kernel) (by decide +kernel), tb_in (i := 73) (by decide +kernel) (by decide +kernel), rfl, ⟨tb_in (i := 91) (by decide +kernel) (by decide +kernel), tb_in (i := 1591) (by decide +kernel) (by decide +kernel), ⟨by decide, by decide, by decide +kernel⟩⟩⟩
theorem ml_M_318 : Cond.methodLink RX5 318 yX5_perimeterNow ∈ TB := tb_in (i := 1588) (by decide +kernel) (by decide +kernel)
theorem rm_M_perimeter_M_perimeterNow : RMok I_M_perimeterNow I_M_perimeter 0 0 := ⟨⟨by decide, by decide⟩, by decide, by decide⟩
theorem rc_M_perimeterNow : RC 5 I_M_perimeterNow := ⟨by decide, _, _, rfl⟩
theorem rm_M_perimeter_M_told : RMok I_M_told I_M_perimeter 0 0 := ⟨⟨by decide, by decide⟩, by decide, by decide⟩
theorem rm_M_closingEast_M_findRaw : RMok I_M_findRaw I_M_closingEast 0 0 := ⟨⟨by decide, by decide⟩, by decide, by decide⟩
theorem rm_M_closingNorth_M_findRaw : RMok I_M_findRaw I_M_closingNorth 0 0 := ⟨⟨by decide, by decide⟩, by decide, by decide⟩
theorem md_M_miss : MDv I_M_miss 0 := ⟨tb_in (i := 1606) (by decide +kernel) (by decide +kernel), tb_in (i := 74) (by decide +kernel) (by decide +kernel), rfl, ⟨tb_in (i := 91) (by decide +kernel) (by decide +kernel), tb_in (i := 1607) (by decide +kernel) (by decide +kernel), ⟨by decide, by decide, by decide +kernel⟩⟩⟩
theorem ml_M_321 : Cond.methodLink RX5 321 yX5_miss ∈ TB := tb_in (i := 1604) (by decide +kernel) (by decide +kernel)
theorem rm_M_misclosure_M_miss : RMok I_M_miss I_M_misclosure 0 0 := ⟨⟨by decide, by decide⟩, by decide, by decide⟩
theorem rc_M_miss : RC 5 I_M_miss := ⟨by decide, _, _, rfl⟩
theorem rm_M_misclosure_M_told : RMok I_M_told I_M_misclosure 0 0 := ⟨⟨by decide, by decide⟩, by decide, by decide⟩
theorem rm_M_precision_M_miss : RMok I_M_miss I_M_precision 0 0 := ⟨⟨by decide, by decide⟩, by decide, by decide⟩
theorem rm_M_precision_M_around : RMok I_M_around I_M_precision 0 0 := ⟨⟨by decide, by decide⟩, by decide, by decide⟩
theorem ml_M_324 : Cond.methodLink RX5 324 yJ9_max_7cf53 ∈ TB := tb_in (i := 1620) (by decide +kernel) (by decide +kernel)
theorem rm_M_width_M_findStations : RMok I_M_findStations I_M_width 0 0 := ⟨⟨by decide, by decide⟩, by decide, by decide⟩
theorem md_M_spread : MDv I_M_spread 1 := ⟨tb_in (i := 1618) (by decide +kernel) (by decide +kernel), tb_in (i := 75) (by decide +kernel) (by decide +kernel), rfl, ⟨tb_in (i := 91) (by decide +kernel) (by decide +kernel), tb_in (i := 1619) (by decide +kernel) (by decide +kernel), ⟨by decide, by decide, by decide +kernel⟩⟩⟩
theorem ml_M_327 : Cond.methodLink RX5 327 yX5_spread ∈ TB := tb_in (i := 1616) (by decide +kernel) (by decide +kernel)
theorem rm_M_width_M_spread : RMok I_M_spread I_M_width 0 0 := ⟨⟨by decide, by decide⟩, by decide, by decide⟩
theorem rc_M_spread : RC 5 I_M_spread := ⟨by decide, _, _, rfl⟩
theorem rm_M_height_M_findStations : RMok I_M_findStations I_M_height 0 0 := ⟨⟨by decide, by decide⟩, by decide, by decide⟩
theorem rm_M_height_M_spread : RMok I_M_spread I_M_height 0 0 := ⟨⟨by decide, by decide⟩, by decide, by decide⟩
theorem rm_M_farthestStation_M_findStations : RMok I_M_findStations I_M_farthestStation 0 0 := ⟨⟨by decide, by decide⟩, by decide, by decide⟩
theorem rm_M_farthestStation_M_far : RMok I_M_far I_M_farthestStation 0 0 := ⟨⟨by decide, by decide⟩, by decide, by decide⟩
theorem rm_M_longestLeg_M_flat : RMok I_M_flat I_M_longestLeg 0 0 := ⟨⟨by decide, by decide⟩, by decide, by decide⟩
theorem rm_M_onBogs_M_bog : RMok I_M_bog I_M_onBogs 0 0 := ⟨⟨by decide, by decide⟩, by decide, by decide⟩
theorem rm_M_onBogs_M_flat : RMok I_M_flat I_M_onBogs 0 0 := ⟨⟨by decide, by decide⟩, by decide, by decide⟩
theorem md_M_onBogs : MDv I_M_onBogs 0 := ⟨tb_in (i := 1639) (by decide +kernel) (by decide +kernel), tb_in (i := 76) (by decide +kernel) (by decide +kernel), rfl, ⟨tb_in (i := 91) (by decide +kernel) (by decide +kernel), tb_in (i := 1640) (by decide +kernel) (by decide +kernel), ⟨by decide, by decide, by decide +kernel⟩⟩⟩
theorem ml_M_331 : Cond.methodLink RX5 331 yX5_onBogs ∈ TB := tb_in (i := 1637) (by decide +kernel) (by decide +kernel)
theorem rm_M_bogLength_M_onBogs : RMok I_M_onBogs I_M_bogLength 0 0 := ⟨⟨by decide, by decide⟩, by decide, by decide⟩
theorem rc_M_onBogs : RC 5 I_M_onBogs := ⟨by decide, _, _, rfl⟩
theorem rm_M_bogLength_M_told : RMok I_M_told I_M_bogLength 0 0 := ⟨⟨by decide, by decide⟩, by decide, by decide⟩
theorem rm_M_area_M_findStations : RMok I_M_findStations I_M_area 0 0 := ⟨⟨by decide, by decide⟩, by decide, by decide⟩
theorem ml_M_334 : Cond.methodLink RX5 334 yJ9_abs_067f4 ∈ TB := tb_in (i := 1645) (by decide +kernel) (by decide +kernel)
theorem cj_M_337 : Cond.constantLong RX5 337 2 ∈ TB := tb_in (i := 1646) (by decide +kernel) (by decide +kernel)
theorem rm_M_missIfDropped_M_mayDrop : RMok I_M_mayDrop I_M_missIfDropped 0 0 := ⟨⟨by decide, by decide⟩, by decide, by decide⟩
theorem rm_M_missIfDropped_M_drops : RMok I_M_drops I_M_missIfDropped 0 0 := ⟨⟨by decide, by decide⟩, by decide, by decide⟩
theorem rm_M_missIfDropped_M_miss : RMok I_M_miss I_M_missIfDropped 0 0 := ⟨⟨by decide, by decide⟩, by decide, by decide⟩
theorem rm_M_misclosureIfDropped_M_isBad : RMok I_M_isBad I_M_misclosureIfDropped 0 0 := ⟨⟨by decide, by decide⟩, by decide, by decide⟩
theorem md_M_missIfDropped : MDv I_M_missIfDropped 1 := ⟨tb_in (i := 1653) (by decide +kernel) (by decide +kernel), tb_in (i := 77) (by decide +kernel) (by decide +kernel), rfl, ⟨tb_in (i := 91) (by decide +kernel) (by decide +kernel), tb_in (i := 1654) (by decide +kernel) (by decide +kernel), ⟨by decide, by decide, by decide +kernel⟩⟩⟩
theorem ml_M_339 : Cond.methodLink RX5 339 yX5_missIfDropped ∈ TB := tb_in (i := 1651) (by decide +kernel) (by decide +kernel)
theorem rm_M_misclosureIfDropped_M_missIfDropped : RMok I_M_missIfDropped I_M_misclosureIfDropped 0 0 := ⟨⟨by decide, by decide⟩, by decide, by decide⟩
theorem rc_M_missIfDropped : RC 5 I_M_missIfDropped := ⟨by decide, _, _, rfl⟩
theorem rm_M_suspectLeg_M_miss : RMok I_M_miss I_M_suspectLeg 0 0 := ⟨⟨by decide, by decide⟩, by decide, by decide⟩
theorem rm_M_suspectLeg_M_missIfDropped : RMok I_M_missIfDropped I_M_suspectLeg 0 0 := ⟨⟨by decide, by decide⟩, by decide, by decide⟩
theorem rm_M_bestPace_M_bog : RMok I_M_bog I_M_bestPace 0 0 := ⟨⟨by decide, by decide⟩, by decide, by decide⟩
theorem rm_M_bestPace_M_miss : RMok I_M_miss I_M_bestPace 0 0 := ⟨⟨by decide, by decide⟩, by decide, by decide⟩
theorem rm_M_inconsistencies_M_findStations : RMok I_M_findStations I_M_inconsistencies 0 0 := ⟨⟨by decide, by decide⟩, by decide, by decide⟩
theorem rm_M_inconsistencies_M_around : RMok I_M_around I_M_inconsistencies 0 0 := ⟨⟨by decide, by decide⟩, by decide, by decide⟩
theorem rm_M_inconsistencies_M_flat : RMok I_M_flat I_M_inconsistencies 0 0 := ⟨⟨by decide, by decide⟩, by decide, by decide⟩
theorem rm_M_inconsistencies_M_slope : RMok I_M_slope I_M_inconsistencies 0 0 := ⟨⟨by decide, by decide⟩, by decide, by decide⟩
theorem rm_M_meanLeg_M_perimeterNow : RMok I_M_perimeterNow I_M_meanLeg 0 0 := ⟨⟨by decide, by decide⟩, by decide, by decide⟩
theorem rm_M_bogShare_M_perimeterNow : RMok I_M_perimeterNow I_M_bogShare 0 0 := ⟨⟨by decide, by decide⟩, by decide, by decide⟩
theorem rm_M_bogShare_M_onBogs : RMok I_M_onBogs I_M_bogShare 0 0 := ⟨⟨by decide, by decide⟩, by decide, by decide⟩
theorem fl_M_32 : FL RX5 32 5 9 := ⟨_, _, _, _, ck_5, by decide, tb_in (i := 1268) (by decide +kernel) (by decide +kernel)⟩
theorem tt_134_9 : tg 134 9 = 143 := by decide +kernel
theorem fl_M_342 : FL RX5 342 5 15 := ⟨_, _, _, _, ck_5, by decide, tb_in (i := 1274) (by decide +kernel) (by decide +kernel)⟩
theorem tt_134_15 : tg 134 15 = 0 := by decide +kernel
theorem kk_142 : kd 142 = 10 := by decide +kernel
theorem ll_142 : ln 142 = 600 := by decide +kernel
theorem fw_M_342 : FW RX5 342 5 15 .int := ⟨_, _, _, _, ck_5, by decide, tb_in (i := 1274) (by decide +kernel) (by decide +kernel), rfl, by decide +kernel⟩
theorem md_M_out : MDv I_M_out 1 := ⟨tb_in (i := 1681) (by decide +kernel) (by decide +kernel), tb_in (i := 78) (by decide +kernel) (by decide +kernel), rfl, ⟨tb_in (i := 91) (by decide +kernel) (by decide +kernel), tb_in (i := 1682) (by decide +kernel) (by decide +kernel), ⟨by decide, by decide, by decide +kernel⟩⟩⟩
theorem ml_M_345 : Cond.methodLink RX5 345 yX5_out ∈ TB := tb_in (i := 1679) (by decide +kernel) (by decide +kernel)
theorem rm_M_outNumber_M_out : RMok I_M_out I_M_outNumber 0 0 := ⟨⟨by decide, by decide⟩, by decide, by decide⟩
theorem rc_M_out : RC 5 I_M_out := ⟨by decide, _, _, rfl⟩
theorem ml_M_348 : Cond.methodLink RX5 348 yJ9_abs_0f7a4 ∈ TB := tb_in (i := 1687) (by decide +kernel) (by decide +kernel)
theorem rm_M_writeStations_M_findStations : RMok I_M_findStations I_M_writeStations 0 0 := ⟨⟨by decide, by decide⟩, by decide, by decide⟩
theorem rm_M_writeStations_M_out : RMok I_M_out I_M_writeStations 0 0 := ⟨⟨by decide, by decide⟩, by decide, by decide⟩
theorem md_M_outNumber : MDv I_M_outNumber 1 := ⟨tb_in (i := 1685) (by decide +kernel) (by decide +kernel), tb_in (i := 79) (by decide +kernel) (by decide +kernel), rfl, ⟨tb_in (i := 91) (by decide +kernel) (by decide +kernel), tb_in (i := 1686) (by decide +kernel) (by decide +kernel), ⟨by decide, by decide, by decide +kernel⟩⟩⟩
theorem ml_M_350 : Cond.methodLink RX5 350 yX5_outNumber ∈ TB := tb_in (i := 1683) (by decide +kernel) (by decide +kernel)
theorem rm_M_writeStations_M_outNumber : RMok I_M_outNumber I_M_writeStations 0 0 := ⟨⟨by decide, by decide⟩, by decide, by decide⟩
theorem rc_M_outNumber : RC 5 I_M_outNumber := ⟨by decide, _, _, rfl⟩
theorem rm_M_outputByte_M_isIn : RMok I_M_isIn I_M_outputByte 0 0 := ⟨⟨by decide, by decide⟩, by decide, by decide⟩
