/-! what the tables say, word by word -/
theorem bp_97 : (Int8.ofInt 97).toInt32 = 97 := by decide
theorem bp_122 : (Int8.ofInt 122).toInt32 = 122 := by decide
theorem ic_1 : Int32.ofInt 1 = 1 := by decide
theorem ic_0 : Int32.ofInt 0 = 0 := by decide
theorem bp_48 : (Int8.ofInt 48).toInt32 = 48 := by decide
theorem bp_57 : (Int8.ofInt 57).toInt32 = 57 := by decide
theorem ck_1 : CK 1 RX1 TX1 6 tyX1 := ⟨rfl, by decide, by decide, uws_in [55, 57, 59, 61, 63, 65] (by decide +kernel), tyX1_ok, nmX1⟩
theorem fl_L_25 : FL RX1 25 1 4 := ⟨_, _, _, _, ck_1, by decide, tb_in (i := 81) (by decide +kernel) (by decide +kernel)⟩
theorem kk_2 : kd 2 = 1 := by decide +kernel
theorem tt_2_4 : tg 2 4 = 0 := by decide +kernel
theorem fw_L_31 : FW RX1 31 1 3 .int := ⟨_, _, _, _, ck_1, by decide, tb_in (i := 79) (by decide +kernel) (by decide +kernel), rfl, by decide +kernel⟩
theorem tt_2_3 : tg 2 3 = 0 := by decide +kernel
theorem fl_L_31 : FL RX1 31 1 3 := ⟨_, _, _, _, ck_1, by decide, tb_in (i := 79) (by decide +kernel) (by decide +kernel)⟩
theorem fl_L_21 : FL RX1 21 1 1 := ⟨_, _, _, _, ck_1, by decide, tb_in (i := 76) (by decide +kernel) (by decide +kernel)⟩
theorem tt_2_1 : tg 2 1 = 0 := by decide +kernel
theorem fl_L_9 : FL RX1 9 1 0 := ⟨_, _, _, _, ck_1, by decide, tb_in (i := 73) (by decide +kernel) (by decide +kernel)⟩
theorem tt_2_0 : tg 2 0 = 4 := by decide +kernel
theorem kk_3 : kd 3 = 11 := by decide +kernel
theorem ll_3 : ln 3 = 900 := by decide +kernel
theorem bp_32 : (Int8.ofInt 32).toInt32 = 32 := by decide
theorem fw_L_25 : FW RX1 25 1 4 .int := ⟨_, _, _, _, ck_1, by decide, tb_in (i := 81) (by decide +kernel) (by decide +kernel), rfl, by decide +kernel⟩
theorem md_C_isLetter : MDs I_C_isLetter 1 := ⟨tb_in (i := 284) (by decide +kernel) (by decide +kernel), rfl, ⟨tb_in (i := 31) (by decide +kernel) (by decide +kernel), tb_in (i := 285) (by decide +kernel) (by decide +kernel), ⟨by decide, by decide, by decide +kernel⟩⟩⟩
theorem mn_L_37 : Cond.methodLinkNest RX1 37 yX4_isLetter "ChainSurvey" ∈ lx_tbl := List.mem_of_getElem? (i := 283) (by decide +kernel)
theorem rm_L_advance_C_isLetter : RMok I_C_isLetter I_L_advance 0 0 := ⟨⟨by decide, by decide⟩, by decide, by decide⟩
theorem md_C_isDigit : MDs I_C_isDigit 1 := ⟨tb_in (i := 287) (by decide +kernel) (by decide +kernel), rfl, ⟨tb_in (i := 31) (by decide +kernel) (by decide +kernel), tb_in (i := 288) (by decide +kernel) (by decide +kernel), ⟨by decide, by decide, by decide +kernel⟩⟩⟩
theorem mn_L_41 : Cond.methodLinkNest RX1 41 yX4_isDigit "ChainSurvey" ∈ lx_tbl := List.mem_of_getElem? (i := 286) (by decide +kernel)
theorem rm_L_advance_C_isDigit : RMok I_C_isDigit I_L_advance 0 0 := ⟨⟨by decide, by decide⟩, by decide, by decide⟩
theorem bp_59 : (Int8.ofInt 59).toInt32 = 59 := by decide
theorem ic_4 : Int32.ofInt 4 = 4 := by decide
theorem ic_3 : Int32.ofInt 3 = 3 := by decide
theorem ic_2 : Int32.ofInt 2 = 2 := by decide
theorem fw_L_34 : FW RX1 34 1 2 .int := ⟨_, _, _, _, ck_1, by decide, tb_in (i := 77) (by decide +kernel) (by decide +kernel), rfl, by decide +kernel⟩
theorem tt_2_2 : tg 2 2 = 0 := by decide +kernel
theorem fw_L_44 : FW RX1 44 1 5 .int := ⟨_, _, _, _, ck_1, by decide, tb_in (i := 83) (by decide +kernel) (by decide +kernel), rfl, by decide +kernel⟩
theorem tt_2_5 : tg 2 5 = 0 := by decide +kernel
theorem fl_L_44 : FL RX1 44 1 5 := ⟨_, _, _, _, ck_1, by decide, tb_in (i := 83) (by decide +kernel) (by decide +kernel)⟩
theorem bp_10 : (Int8.ofInt 10).toInt32 = 10 := by decide
theorem cn_L_47 : Cond.constant RX1 47 1000000 ∈ TB := tb_in (i := 289) (by decide +kernel) (by decide +kernel)
theorem ml_L_15 : Cond.methodLink RX1 15 yJ9_min_7cf53 ∈ TB := tb_in (i := 276) (by decide +kernel) (by decide +kernel)
theorem ms_min : Cond.static Lib.Math.min.name ∈ TB := tb_in (i := 277) (by decide +kernel) (by decide +kernel)
theorem mc_min : Cond.code Lib.Math.min.name Lib.Math.min.code 2 (some .int) ∈ TB := tb_in (i := 278) (by decide +kernel) (by decide +kernel)
theorem ini_math : Cond.initialized "java/lang/Math" ∈ TB := tb_in (i := 40) (by decide +kernel) (by decide +kernel)
theorem fw_L_21 : FW RX1 21 1 1 .int := ⟨_, _, _, _, ck_1, by decide, tb_in (i := 76) (by decide +kernel) (by decide +kernel), rfl, by decide +kernel⟩
theorem md_L_advance : MDv I_L_advance 0 := ⟨tb_in (i := 280) (by decide +kernel) (by decide +kernel), tb_in (i := 281) (by decide +kernel) (by decide +kernel), rfl, ⟨tb_in (i := 33) (by decide +kernel) (by decide +kernel), tb_in (i := 282) (by decide +kernel) (by decide +kernel), ⟨by decide, by decide, by decide +kernel⟩⟩⟩
theorem ml_L_28 : Cond.methodLink RX1 28 yX1_advance ∈ TB := tb_in (i := 279) (by decide +kernel) (by decide +kernel)
theorem rm_L_begin_L_advance : RMok I_L_advance I_L_begin 0 0 := ⟨⟨by decide, by decide⟩, by decide, by decide⟩
theorem rc_L_advance : RC 1 I_L_advance := ⟨by decide, _, _, rfl⟩
theorem ck_0 : CK 0 RX0 TX0 5 tyX0 := ⟨rfl, by decide, by decide, uws_in [144, 146, 148, 150, 152] (by decide +kernel), tyX0_ok, nmX0⟩
theorem fw_I_29 : FW RX0 29 0 3 .int := ⟨_, _, _, _, ck_0, by decide, tb_in (i := 170) (by decide +kernel) (by decide +kernel), rfl, by decide +kernel⟩
theorem kk_1 : kd 1 = 0 := by decide +kernel
theorem tt_1_3 : tg 1 3 = 0 := by decide +kernel
theorem ic_m1 : Int32.ofInt (-1) = -1 := by decide
theorem fw_I_25 : FW RX0 25 0 4 .int := ⟨_, _, _, _, ck_0, by decide, tb_in (i := 172) (by decide +kernel) (by decide +kernel), rfl, by decide +kernel⟩
theorem tt_1_4 : tg 1 4 = 0 := by decide +kernel
theorem fl_I_12 : FL RX0 12 0 0 := ⟨_, _, _, _, ck_0, by decide, tb_in (i := 165) (by decide +kernel) (by decide +kernel)⟩
theorem tt_1_0 : tg 1 0 = 3 := by decide +kernel
theorem md_L_begin : MDv I_L_begin 1 := ⟨tb_in (i := 273) (by decide +kernel) (by decide +kernel), tb_in (i := 274) (by decide +kernel) (by decide +kernel), rfl, ⟨tb_in (i := 33) (by decide +kernel) (by decide +kernel), tb_in (i := 275) (by decide +kernel) (by decide +kernel), ⟨by decide, by decide, by decide +kernel⟩⟩⟩
theorem ml_I_32 : Cond.methodLink RX0 32 yX1_begin ∈ TB := tb_in (i := 272) (by decide +kernel) (by decide +kernel)
theorem rm_I_begin_L_begin : RMok I_L_begin I_I_begin 0 0 := ⟨⟨by decide, by decide⟩, by decide, by decide⟩
theorem rc_L_begin : RC 1 I_L_begin := ⟨by decide, _, _, rfl⟩
theorem fl_I_36 : FL RX0 36 1 3 := ⟨_, _, _, _, ck_1, by decide, tb_in (i := 80) (by decide +kernel) (by decide +kernel)⟩
theorem ck_2 : CK 2 RX2 TX2 13 tyX2 := ⟨rfl, by decide, by decide, uws_in [106, 108, 110, 112, 114, 116, 118, 120, 122, 124, 126, 128, 130] (by decide +kernel), tyX2_ok, nmX2⟩
theorem fw_S_44 : FW RX2 44 2 9 .int := ⟨_, _, _, _, ck_2, by decide, tb_in (i := 122) (by decide +kernel) (by decide +kernel), rfl, by decide +kernel⟩
theorem fw_S_47 : FW RX2 47 2 12 .boolean := ⟨_, _, _, _, ck_2, by decide, tb_in (i := 132) (by decide +kernel) (by decide +kernel), rfl, by decide +kernel⟩
theorem fl_L_34 : FL RX1 34 1 2 := ⟨_, _, _, _, ck_1, by decide, tb_in (i := 77) (by decide +kernel) (by decide +kernel)⟩
theorem ml_L_48 : Cond.methodLink RX1 48 yJ0_length_8abf5 ∈ TB := tb_in (i := 303) (by decide +kernel) (by decide +kernel)
theorem rm_L_isAt_U_length : RMok I_U_length I_L_isAt 0 0 := ⟨⟨by decide, by decide⟩, by decide, by decide⟩
theorem ml_L_53 : Cond.methodLink RX1 53 yJ0_charAt_5068e ∈ TB := tb_in (i := 304) (by decide +kernel) (by decide +kernel)
theorem rm_L_isAt_U_charAt : RMok I_U_charAt I_L_isAt 0 0 := ⟨⟨by decide, by decide⟩, by decide, by decide⟩
theorem inc_1 (x : Int32) : x + Int32.ofInt 1 = x + 1 := rfl
theorem fl_I_67 : FL RX0 67 1 2 := ⟨_, _, _, _, ck_1, by decide, tb_in (i := 78) (by decide +kernel) (by decide +kernel)⟩
theorem fl_I_176 : FL RX0 176 1 5 := ⟨_, _, _, _, ck_1, by decide, tb_in (i := 84) (by decide +kernel) (by decide +kernel)⟩
theorem md_C_isBetween : MDs I_C_isBetween 3 := ⟨tb_in (i := 319) (by decide +kernel) (by decide +kernel), rfl, ⟨tb_in (i := 31) (by decide +kernel) (by decide +kernel), tb_in (i := 320) (by decide +kernel) (by decide +kernel), ⟨by decide, by decide, by decide +kernel⟩⟩⟩
theorem mn_I_182 : Cond.methodLinkNest RX0 182 yX4_isBetween "ChainSurvey" ∈ lx_tbl := List.mem_of_getElem? (i := 318) (by decide +kernel)
theorem rm_I_numberHere_C_isBetween : RMok I_C_isBetween I_I_numberHere 0 0 := ⟨⟨by decide, by decide⟩, by decide, by decide⟩
theorem ml_I_51 : Cond.methodLink RX0 51 yX1_advance ∈ TB := tb_in (i := 309) (by decide +kernel) (by decide +kernel)
theorem rm_I_numberHere_L_advance : RMok I_L_advance I_I_numberHere 0 0 := ⟨⟨by decide, by decide⟩, by decide, by decide⟩
theorem md_I_fail : MDv I_I_fail 1 := ⟨tb_in (i := 307) (by decide +kernel) (by decide +kernel), tb_in (i := 3) (by decide +kernel) (by decide +kernel), rfl, ⟨tb_in (i := 32) (by decide +kernel) (by decide +kernel), tb_in (i := 308) (by decide +kernel) (by decide +kernel), ⟨by decide, by decide, by decide +kernel⟩⟩⟩
theorem ml_I_47 : Cond.methodLink RX0 47 yX0_fail ∈ TB := tb_in (i := 305) (by decide +kernel) (by decide +kernel)
theorem rm_I_numberHere_I_fail : RMok I_I_fail I_I_numberHere 0 0 := ⟨⟨by decide, by decide⟩, by decide, by decide⟩
theorem rc_I_fail : RC 0 I_I_fail := ⟨by decide, _, _, rfl⟩
theorem sp_999 : (Int16.ofInt 999).toInt32 = 999 := by decide
theorem md_I_numberHere : MDv I_I_numberHere 2 := ⟨tb_in (i := 316) (by decide +kernel) (by decide +kernel), tb_in (i := 5) (by decide +kernel) (by decide +kernel), rfl, ⟨tb_in (i := 32) (by decide +kernel) (by decide +kernel), tb_in (i := 317) (by decide +kernel) (by decide +kernel), ⟨by decide, by decide, by decide +kernel⟩⟩⟩
theorem ml_I_114 : Cond.methodLink RX0 114 yX0_numberHere ∈ TB := tb_in (i := 314) (by decide +kernel) (by decide +kernel)
theorem rm_I_readsWear_I_numberHere : RMok I_I_numberHere I_I_readsWear 0 0 := ⟨⟨by decide, by decide⟩, by decide, by decide⟩
theorem rc_I_numberHere : RC 0 I_I_numberHere := ⟨by decide, _, _, rfl⟩
theorem fl_I_21 : FL RX0 21 0 1 := ⟨_, _, _, _, ck_0, by decide, tb_in (i := 167) (by decide +kernel) (by decide +kernel)⟩
theorem tt_1_1 : tg 1 1 = 5 := by decide +kernel
theorem fw_I_147 : FW RX0 147 2 10 .int := ⟨_, _, _, _, ck_2, by decide, tb_in (i := 127) (by decide +kernel) (by decide +kernel), rfl, by decide +kernel⟩
theorem kk_4 : kd 4 = 2 := by decide +kernel
theorem tt_4_10 : tg 4 10 = 0 := by decide +kernel
theorem bp_100 : (Int8.ofInt 100).toInt32 = 100 := by decide
theorem rm_I_readsPace_I_numberHere : RMok I_I_numberHere I_I_readsPace 0 0 := ⟨⟨by decide, by decide⟩, by decide, by decide⟩
theorem fw_I_149 : FW RX0 149 2 11 .int := ⟨_, _, _, _, ck_2, by decide, tb_in (i := 130) (by decide +kernel) (by decide +kernel), rfl, by decide +kernel⟩
theorem tt_4_11 : tg 4 11 = 0 := by decide +kernel
theorem rm_I_readsSemicolon_L_advance : RMok I_L_advance I_I_readsSemicolon 0 0 := ⟨⟨by decide, by decide⟩, by decide, by decide⟩
theorem rm_I_readsSemicolon_I_fail : RMok I_I_fail I_I_readsSemicolon 0 0 := ⟨⟨by decide, by decide⟩, by decide, by decide⟩
theorem sv_4 : isSv 4 := by unfold isSv; decide
theorem md_S_clear : MDv I_S_clear 0 := ⟨tb_in (i := 295) (by decide +kernel) (by decide +kernel), tb_in (i := 296) (by decide +kernel) (by decide +kernel), rfl, ⟨tb_in (i := 34) (by decide +kernel) (by decide +kernel), tb_in (i := 297) (by decide +kernel) (by decide +kernel), ⟨by decide, by decide, by decide +kernel⟩⟩⟩
theorem ml_I_39 : Cond.methodLink RX0 39 yX2_clear ∈ TB := tb_in (i := 294) (by decide +kernel) (by decide +kernel)
theorem rm_I_readsHead_S_clear : RMok I_S_clear I_I_readsHead 0 0 := ⟨⟨by decide, by decide⟩, by decide, by decide⟩
theorem rc_S_clear : RC 2 I_S_clear := ⟨by decide, _, _, rfl⟩
theorem md_L_isAt : MDv I_L_isAt 1 := ⟨tb_in (i := 300) (by decide +kernel) (by decide +kernel), tb_in (i := 301) (by decide +kernel) (by decide +kernel), rfl, ⟨tb_in (i := 33) (by decide +kernel) (by decide +kernel), tb_in (i := 302) (by decide +kernel) (by decide +kernel), ⟨by decide, by decide, by decide +kernel⟩⟩⟩
theorem ml_I_43 : Cond.methodLink RX0 43 yX1_isAt ∈ TB := tb_in (i := 299) (by decide +kernel) (by decide +kernel)
theorem rm_I_readsHead_L_isAt : RMok I_L_isAt I_I_readsHead 0 0 := ⟨⟨by decide, by decide⟩, by decide, by decide⟩
theorem rc_L_isAt : RC 1 I_L_isAt := ⟨by decide, _, _, rfl⟩
theorem rm_I_readsHead_L_advance : RMok I_L_advance I_I_readsHead 0 0 := ⟨⟨by decide, by decide⟩, by decide, by decide⟩
theorem md_I_readsWear : MDv I_I_readsWear 0 := ⟨tb_in (i := 312) (by decide +kernel) (by decide +kernel), tb_in (i := 4) (by decide +kernel) (by decide +kernel), rfl, ⟨tb_in (i := 32) (by decide +kernel) (by decide +kernel), tb_in (i := 313) (by decide +kernel) (by decide +kernel), ⟨by decide, by decide, by decide +kernel⟩⟩⟩
theorem ml_I_54 : Cond.methodLink RX0 54 yX0_readsWear ∈ TB := tb_in (i := 310) (by decide +kernel) (by decide +kernel)
theorem rm_I_readsHead_I_readsWear : RMok I_I_readsWear I_I_readsHead 0 0 := ⟨⟨by decide, by decide⟩, by decide, by decide⟩
theorem rc_I_readsWear : RC 0 I_I_readsWear := ⟨by decide, _, _, rfl⟩
theorem md_I_readsPace : MDv I_I_readsPace 0 := ⟨tb_in (i := 323) (by decide +kernel) (by decide +kernel), tb_in (i := 6) (by decide +kernel) (by decide +kernel), rfl, ⟨tb_in (i := 32) (by decide +kernel) (by decide +kernel), tb_in (i := 324) (by decide +kernel) (by decide +kernel), ⟨by decide, by decide, by decide +kernel⟩⟩⟩
theorem ml_I_58 : Cond.methodLink RX0 58 yX0_readsPace ∈ TB := tb_in (i := 321) (by decide +kernel) (by decide +kernel)
theorem rm_I_readsHead_I_readsPace : RMok I_I_readsPace I_I_readsHead 0 0 := ⟨⟨by decide, by decide⟩, by decide, by decide⟩
theorem rc_I_readsPace : RC 0 I_I_readsPace := ⟨by decide, _, _, rfl⟩
theorem md_I_readsSemicolon : MDv I_I_readsSemicolon 0 := ⟨tb_in (i := 327) (by decide +kernel) (by decide +kernel), tb_in (i := 7) (by decide +kernel) (by decide +kernel), rfl, ⟨tb_in (i := 32) (by decide +kernel) (by decide +kernel), tb_in (i := 328) (by decide +kernel) (by decide +kernel), ⟨by decide, by decide, by decide +kernel⟩⟩⟩
theorem ml_I_61 : Cond.methodLink RX0 61 yX0_readsSemicolon ∈ TB := tb_in (i := 325) (by decide +kernel) (by decide +kernel)
theorem rm_I_readsHead_I_readsSemicolon : RMok I_I_readsSemicolon I_I_readsHead 0 0 := ⟨⟨by decide, by decide⟩, by decide, by decide⟩
theorem rc_I_readsSemicolon : RC 0 I_I_readsSemicolon := ⟨by decide, _, _, rfl⟩
theorem rm_I_readsHead_I_fail : RMok I_I_fail I_I_readsHead 0 0 := ⟨⟨by decide, by decide⟩, by decide, by decide⟩
theorem bp_6 : (Int8.ofInt 6).toInt32 = 6 := by decide
theorem bp_96 : (Int8.ofInt 96).toInt32 = 96 := by decide
theorem bp_26 : (Int8.ofInt 26).toInt32 = 26 := by decide
theorem ic_5 : Int32.ofInt 5 = 5 := by decide
theorem fl_I_165 : FL RX0 165 1 0 := ⟨_, _, _, _, ck_1, by decide, tb_in (i := 75) (by decide +kernel) (by decide +kernel)⟩
theorem fl_I_169 : FL RX0 169 1 4 := ⟨_, _, _, _, ck_1, by decide, tb_in (i := 82) (by decide +kernel) (by decide +kernel)⟩
theorem md_C_packedName : MDs I_C_packedName 3 := ⟨tb_in (i := 351) (by decide +kernel) (by decide +kernel), rfl, ⟨tb_in (i := 31) (by decide +kernel) (by decide +kernel), tb_in (i := 352) (by decide +kernel) (by decide +kernel), ⟨by decide, by decide, by decide +kernel⟩⟩⟩
theorem mn_I_172 : Cond.methodLinkNest RX0 172 yX4_packedName "ChainSurvey" ∈ lx_tbl := List.mem_of_getElem? (i := 350) (by decide +kernel)
theorem rm_I_nameHere_C_packedName : RMok I_C_packedName I_I_nameHere 0 0 := ⟨⟨by decide, by decide⟩, by decide, by decide⟩
theorem rm_I_nameHere_I_fail : RMok I_I_fail I_I_nameHere 0 0 := ⟨⟨by decide, by decide⟩, by decide, by decide⟩
theorem fl_S_44 : FL RX2 44 2 9 := ⟨_, _, _, _, ck_2, by decide, tb_in (i := 122) (by decide +kernel) (by decide +kernel)⟩
theorem fl_S_9 : FL RX2 9 2 0 := ⟨_, _, _, _, ck_2, by decide, tb_in (i := 105) (by decide +kernel) (by decide +kernel)⟩
theorem fl_I_155 : FL RX0 155 2 9 := ⟨_, _, _, _, ck_2, by decide, tb_in (i := 125) (by decide +kernel) (by decide +kernel)⟩
theorem tt_4_9 : tg 4 9 = 0 := by decide +kernel
theorem bp_20 : (Int8.ofInt 20).toInt32 = 20 := by decide
theorem rm_I_newName_L_advance : RMok I_L_advance I_I_newName 0 0 := ⟨⟨by decide, by decide⟩, by decide, by decide⟩
theorem md_I_nameHere : MDv I_I_nameHere 0 := ⟨tb_in (i := 348) (by decide +kernel) (by decide +kernel), tb_in (i := 11) (by decide +kernel) (by decide +kernel), rfl, ⟨tb_in (i := 32) (by decide +kernel) (by decide +kernel), tb_in (i := 349) (by decide +kernel) (by decide +kernel), ⟨by decide, by decide, by decide +kernel⟩⟩⟩
theorem ml_I_158 : Cond.methodLink RX0 158 yX0_nameHere ∈ TB := tb_in (i := 346) (by decide +kernel) (by decide +kernel)
theorem rm_I_newName_I_nameHere : RMok I_I_nameHere I_I_newName 0 0 := ⟨⟨by decide, by decide⟩, by decide, by decide⟩
theorem rc_I_nameHere : RC 0 I_I_nameHere := ⟨by decide, _, _, rfl⟩
theorem md_S_legNamed : MDv I_S_legNamed 1 := ⟨tb_in (i := 354) (by decide +kernel) (by decide +kernel), tb_in (i := 355) (by decide +kernel) (by decide +kernel), rfl, ⟨tb_in (i := 34) (by decide +kernel) (by decide +kernel), tb_in (i := 356) (by decide +kernel) (by decide +kernel), ⟨by decide, by decide, by decide +kernel⟩⟩⟩
theorem ml_I_161 : Cond.methodLink RX0 161 yX2_legNamed ∈ TB := tb_in (i := 353) (by decide +kernel) (by decide +kernel)
theorem rm_I_newName_S_legNamed : RMok I_S_legNamed I_I_newName 0 0 := ⟨⟨by decide, by decide⟩, by decide, by decide⟩
theorem rc_S_legNamed : RC 2 I_S_legNamed := ⟨by decide, _, _, rfl⟩
theorem rm_I_newName_I_fail : RMok I_I_fail I_I_newName 0 0 := ⟨⟨by decide, by decide⟩, by decide, by decide⟩
theorem sp_345 : (Int16.ofInt 345).toInt32 = 345 := by decide
theorem ml_C_100 : Cond.methodLink RX4 100 yX4_isBetween ∈ TB := tb_in (i := 364) (by decide +kernel) (by decide +kernel)
theorem rm_C_isBearing_C_isBetween : RMok I_C_isBetween I_C_isBearing 0 0 := ⟨⟨by decide, by decide⟩, by decide, by decide⟩
theorem bp_15 : (Int8.ofInt 15).toInt32 = 15 := by decide
theorem md_C_isBearing : MDs I_C_isBearing 1 := ⟨tb_in (i := 362) (by decide +kernel) (by decide +kernel), rfl, ⟨tb_in (i := 31) (by decide +kernel) (by decide +kernel), tb_in (i := 363) (by decide +kernel) (by decide +kernel), ⟨by decide, by decide, by decide +kernel⟩⟩⟩
theorem mn_I_179 : Cond.methodLinkNest RX0 179 yX4_isBearing "ChainSurvey" ∈ lx_tbl := List.mem_of_getElem? (i := 361) (by decide +kernel)
theorem rm_I_mayTurnHere_C_isBearing : RMok I_C_isBearing I_I_mayTurnHere 0 0 := ⟨⟨by decide, by decide⟩, by decide, by decide⟩
theorem rm_I_mayTurnHere_I_fail : RMok I_I_fail I_I_mayTurnHere 0 0 := ⟨⟨by decide, by decide⟩, by decide, by decide⟩
theorem rm_I_passes_L_isAt : RMok I_L_isAt I_I_passes 0 0 := ⟨⟨by decide, by decide⟩, by decide, by decide⟩
theorem rm_I_passes_L_advance : RMok I_L_advance I_I_passes 0 0 := ⟨⟨by decide, by decide⟩, by decide, by decide⟩
theorem fl_S_15 : FL RX2 15 2 1 := ⟨_, _, _, _, ck_2, by decide, tb_in (i := 107) (by decide +kernel) (by decide +kernel)⟩
theorem fl_S_18 : FL RX2 18 2 2 := ⟨_, _, _, _, ck_2, by decide, tb_in (i := 110) (by decide +kernel) (by decide +kernel)⟩
theorem fl_S_22 : FL RX2 22 2 3 := ⟨_, _, _, _, ck_2, by decide, tb_in (i := 112) (by decide +kernel) (by decide +kernel)⟩
theorem fl_S_25 : FL RX2 25 2 4 := ⟨_, _, _, _, ck_2, by decide, tb_in (i := 114) (by decide +kernel) (by decide +kernel)⟩
theorem fl_S_28 : FL RX2 28 2 5 := ⟨_, _, _, _, ck_2, by decide, tb_in (i := 116) (by decide +kernel) (by decide +kernel)⟩
theorem fl_S_31 : FL RX2 31 2 6 := ⟨_, _, _, _, ck_2, by decide, tb_in (i := 117) (by decide +kernel) (by decide +kernel)⟩
theorem fl_S_34 : FL RX2 34 2 7 := ⟨_, _, _, _, ck_2, by decide, tb_in (i := 120) (by decide +kernel) (by decide +kernel)⟩
theorem fl_S_37 : FL RX2 37 2 8 := ⟨_, _, _, _, ck_2, by decide, tb_in (i := 121) (by decide +kernel) (by decide +kernel)⟩
theorem md_I_newName : MDv I_I_newName 0 := ⟨tb_in (i := 344) (by decide +kernel) (by decide +kernel), tb_in (i := 10) (by decide +kernel) (by decide +kernel), rfl, ⟨tb_in (i := 32) (by decide +kernel) (by decide +kernel), tb_in (i := 345) (by decide +kernel) (by decide +kernel), ⟨by decide, by decide, by decide +kernel⟩⟩⟩
theorem ml_I_107 : Cond.methodLink RX0 107 yX0_newName ∈ TB := tb_in (i := 342) (by decide +kernel) (by decide +kernel)
theorem rm_I_readsChained_I_newName : RMok I_I_newName I_I_readsChained 0 0 := ⟨⟨by decide, by decide⟩, by decide, by decide⟩
theorem rc_I_newName : RC 0 I_I_newName := ⟨by decide, _, _, rfl⟩
theorem md_I_mayTurnHere : MDv I_I_mayTurnHere 0 := ⟨tb_in (i := 359) (by decide +kernel) (by decide +kernel), tb_in (i := 12) (by decide +kernel) (by decide +kernel), rfl, ⟨tb_in (i := 32) (by decide +kernel) (by decide +kernel), tb_in (i := 360) (by decide +kernel) (by decide +kernel), ⟨by decide, by decide, by decide +kernel⟩⟩⟩
theorem ml_I_111 : Cond.methodLink RX0 111 yX0_mayTurnHere ∈ TB := tb_in (i := 357) (by decide +kernel) (by decide +kernel)
theorem rm_I_readsChained_I_mayTurnHere : RMok I_I_mayTurnHere I_I_readsChained 0 0 := ⟨⟨by decide, by decide⟩, by decide, by decide⟩
theorem rc_I_mayTurnHere : RC 0 I_I_mayTurnHere := ⟨by decide, _, _, rfl⟩
theorem rm_I_readsChained_I_numberHere : RMok I_I_numberHere I_I_readsChained 0 0 := ⟨⟨by decide, by decide⟩, by decide, by decide⟩
theorem bp_99 : (Int8.ofInt 99).toInt32 = 99 := by decide
theorem md_I_passes : MDv I_I_passes 1 := ⟨tb_in (i := 368) (by decide +kernel) (by decide +kernel), tb_in (i := 13) (by decide +kernel) (by decide +kernel), rfl, ⟨tb_in (i := 32) (by decide +kernel) (by decide +kernel), tb_in (i := 369) (by decide +kernel) (by decide +kernel), ⟨by decide, by decide, by decide +kernel⟩⟩⟩
theorem ml_I_120 : Cond.methodLink RX0 120 yX0_passes ∈ TB := tb_in (i := 366) (by decide +kernel) (by decide +kernel)
theorem rm_I_readsChained_I_passes : RMok I_I_passes I_I_readsChained 0 0 := ⟨⟨by decide, by decide⟩, by decide, by decide⟩
theorem rc_I_passes : RC 0 I_I_passes := ⟨by decide, _, _, rfl⟩
theorem bp_9 : (Int8.ofInt 9).toInt32 = 9 := by decide
theorem sp_9999 : (Int16.ofInt 9999).toInt32 = 9999 := by decide
theorem bp_50 : (Int8.ofInt 50).toInt32 = 50 := by decide
theorem rm_I_readsChained_I_readsSemicolon : RMok I_I_readsSemicolon I_I_readsChained 0 0 := ⟨⟨by decide, by decide⟩, by decide, by decide⟩
theorem md_S_addChained : MDv I_S_addChained 7 := ⟨tb_in (i := 373) (by decide +kernel) (by decide +kernel), tb_in (i := 374) (by decide +kernel) (by decide +kernel), rfl, ⟨tb_in (i := 34) (by decide +kernel) (by decide +kernel), tb_in (i := 375) (by decide +kernel) (by decide +kernel), ⟨by decide, by decide, by decide +kernel⟩⟩⟩
theorem ml_I_127 : Cond.methodLink RX0 127 yX2_addChained ∈ TB := tb_in (i := 372) (by decide +kernel) (by decide +kernel)
theorem rm_I_readsChained_S_addChained : RMok I_S_addChained I_I_readsChained 0 0 := ⟨⟨by decide, by decide⟩, by decide, by decide⟩
theorem rc_S_addChained : RC 2 I_S_addChained := ⟨by decide, _, _, rfl⟩
theorem ml_S_54 : Cond.methodLink RX2 54 yX2_addChained ∈ TB := tb_in (i := 385) (by decide +kernel) (by decide +kernel)
theorem rm_S_addPaced_S_addChained : RMok I_S_addChained I_S_addPaced 0 0 := ⟨⟨by decide, by decide⟩, by decide, by decide⟩
theorem rm_I_readsBog_I_newName : RMok I_I_newName I_I_readsBog 0 0 := ⟨⟨by decide, by decide⟩, by decide, by decide⟩
theorem rm_I_readsBog_I_mayTurnHere : RMok I_I_mayTurnHere I_I_readsBog 0 0 := ⟨⟨by decide, by decide⟩, by decide, by decide⟩
theorem rm_I_readsBog_I_numberHere : RMok I_I_numberHere I_I_readsBog 0 0 := ⟨⟨by decide, by decide⟩, by decide, by decide⟩
theorem rm_I_readsBog_I_readsSemicolon : RMok I_I_readsSemicolon I_I_readsBog 0 0 := ⟨⟨by decide, by decide⟩, by decide, by decide⟩
theorem md_S_addPaced : MDv I_S_addPaced 3 := ⟨tb_in (i := 382) (by decide +kernel) (by decide +kernel), tb_in (i := 383) (by decide +kernel) (by decide +kernel), rfl, ⟨tb_in (i := 34) (by decide +kernel) (by decide +kernel), tb_in (i := 384) (by decide +kernel) (by decide +kernel), ⟨by decide, by decide, by decide +kernel⟩⟩⟩
theorem ml_I_131 : Cond.methodLink RX0 131 yX2_addPaced ∈ TB := tb_in (i := 381) (by decide +kernel) (by decide +kernel)
theorem rm_I_readsBog_S_addPaced : RMok I_S_addPaced I_I_readsBog 0 0 := ⟨⟨by decide, by decide⟩, by decide, by decide⟩
theorem rc_S_addPaced : RC 2 I_S_addPaced := ⟨by decide, _, _, rfl⟩
theorem rm_I_legHere_I_nameHere : RMok I_I_nameHere I_I_legHere 0 0 := ⟨⟨by decide, by decide⟩, by decide, by decide⟩
theorem rm_I_legHere_S_legNamed : RMok I_S_legNamed I_I_legHere 0 0 := ⟨⟨by decide, by decide⟩, by decide, by decide⟩
theorem rm_I_legHere_L_advance : RMok I_L_advance I_I_legHere 0 0 := ⟨⟨by decide, by decide⟩, by decide, by decide⟩
theorem rm_I_legHere_I_fail : RMok I_I_fail I_I_legHere 0 0 := ⟨⟨by decide, by decide⟩, by decide, by decide⟩
theorem rm_I_readsPin_L_advance : RMok I_L_advance I_I_readsPin 0 0 := ⟨⟨by decide, by decide⟩, by decide, by decide⟩
theorem md_I_legHere : MDv I_I_legHere 0 := ⟨tb_in (i := 393) (by decide +kernel) (by decide +kernel), tb_in (i := 16) (by decide +kernel) (by decide +kernel), rfl, ⟨tb_in (i := 32) (by decide +kernel) (by decide +kernel), tb_in (i := 394) (by decide +kernel) (by decide +kernel), ⟨by decide, by decide, by decide +kernel⟩⟩⟩
theorem ml_I_135 : Cond.methodLink RX0 135 yX0_legHere ∈ TB := tb_in (i := 391) (by decide +kernel) (by decide +kernel)
theorem rm_I_readsPin_I_legHere : RMok I_I_legHere I_I_readsPin 0 0 := ⟨⟨by decide, by decide⟩, by decide, by decide⟩
theorem rc_I_legHere : RC 0 I_I_legHere := ⟨by decide, _, _, rfl⟩
theorem md_S_canFind : MDv I_S_canFind 1 := ⟨tb_in (i := 400) (by decide +kernel) (by decide +kernel), tb_in (i := 401) (by decide +kernel) (by decide +kernel), rfl, ⟨tb_in (i := 34) (by decide +kernel) (by decide +kernel), tb_in (i := 402) (by decide +kernel) (by decide +kernel), ⟨by decide, by decide, by decide +kernel⟩⟩⟩
theorem ml_I_141 : Cond.methodLink RX0 141 yX2_canFind ∈ TB := tb_in (i := 399) (by decide +kernel) (by decide +kernel)
theorem rm_I_readsPin_S_canFind : RMok I_S_canFind I_I_readsPin 0 0 := ⟨⟨by decide, by decide⟩, by decide, by decide⟩
theorem rc_S_canFind : RC 2 I_S_canFind := ⟨by decide, _, _, rfl⟩
theorem md_S_canDrop : MDv I_S_canDrop 1 := ⟨tb_in (i := 396) (by decide +kernel) (by decide +kernel), tb_in (i := 397) (by decide +kernel) (by decide +kernel), rfl, ⟨tb_in (i := 34) (by decide +kernel) (by decide +kernel), tb_in (i := 398) (by decide +kernel) (by decide +kernel), ⟨by decide, by decide, by decide +kernel⟩⟩⟩
theorem ml_I_138 : Cond.methodLink RX0 138 yX2_canDrop ∈ TB := tb_in (i := 395) (by decide +kernel) (by decide +kernel)
theorem rm_I_readsPin_S_canDrop : RMok I_S_canDrop I_I_readsPin 0 0 := ⟨⟨by decide, by decide⟩, by decide, by decide⟩
theorem rc_S_canDrop : RC 2 I_S_canDrop := ⟨by decide, _, _, rfl⟩
theorem rm_I_readsPin_I_readsSemicolon : RMok I_I_readsSemicolon I_I_readsPin 0 0 := ⟨⟨by decide, by decide⟩, by decide, by decide⟩
theorem fl_I_144 : FL RX0 144 2 6 := ⟨_, _, _, _, ck_2, by decide, tb_in (i := 118) (by decide +kernel) (by decide +kernel)⟩
theorem tt_4_6 : tg 4 6 = 12 := by decide +kernel
theorem kk_11 : kd 11 = 10 := by decide +kernel
theorem ll_11 : ln 11 = 20 := by decide +kernel
theorem rm_I_readsPin_I_fail : RMok I_I_fail I_I_readsPin 0 0 := ⟨⟨by decide, by decide⟩, by decide, by decide⟩
theorem rm_I_readsAdjusted_L_advance : RMok I_L_advance I_I_readsAdjusted 0 0 := ⟨⟨by decide, by decide⟩, by decide, by decide⟩
theorem fw_I_151 : FW RX0 151 2 12 .boolean := ⟨_, _, _, _, ck_2, by decide, tb_in (i := 134) (by decide +kernel) (by decide +kernel), rfl, by decide +kernel⟩
theorem tt_4_12 : tg 4 12 = 0 := by decide +kernel
theorem rm_I_readsAdjusted_I_readsSemicolon : RMok I_I_readsSemicolon I_I_readsAdjusted 0 0 := ⟨⟨by decide, by decide⟩, by decide, by decide⟩
theorem rm_I_readsBack_L_advance : RMok I_L_advance I_I_readsBack 0 0 := ⟨⟨by decide, by decide⟩, by decide, by decide⟩
theorem rm_I_readsBack_I_fail : RMok I_I_fail I_I_readsBack 0 0 := ⟨⟨by decide, by decide⟩, by decide, by decide⟩
theorem rm_I_readsBack_I_readsSemicolon : RMok I_I_readsSemicolon I_I_readsBack 0 0 := ⟨⟨by decide, by decide⟩, by decide, by decide⟩
theorem fw_I_155 : FW RX0 155 2 9 .int := ⟨_, _, _, _, ck_2, by decide, tb_in (i := 125) (by decide +kernel) (by decide +kernel), rfl, by decide +kernel⟩
theorem rm_I_readsCommand_L_isAt : RMok I_L_isAt I_I_readsCommand 0 0 := ⟨⟨by decide, by decide⟩, by decide, by decide⟩
theorem rm_I_readsCommand_I_fail : RMok I_I_fail I_I_readsCommand 0 0 := ⟨⟨by decide, by decide⟩, by decide, by decide⟩
theorem md_I_readsBack : MDv I_I_readsBack 0 := ⟨tb_in (i := 415) (by decide +kernel) (by decide +kernel), tb_in (i := 18) (by decide +kernel) (by decide +kernel), rfl, ⟨tb_in (i := 32) (by decide +kernel) (by decide +kernel), tb_in (i := 416) (by decide +kernel) (by decide +kernel), ⟨by decide, by decide, by decide +kernel⟩⟩⟩
theorem ml_I_104 : Cond.methodLink RX0 104 yX0_readsBack ∈ TB := tb_in (i := 413) (by decide +kernel) (by decide +kernel)
theorem rm_I_readsCommand_I_readsBack : RMok I_I_readsBack I_I_readsCommand 0 0 := ⟨⟨by decide, by decide⟩, by decide, by decide⟩
theorem rc_I_readsBack : RC 0 I_I_readsBack := ⟨by decide, _, _, rfl⟩
theorem md_I_readsAdjusted : MDv I_I_readsAdjusted 1 := ⟨tb_in (i := 409) (by decide +kernel) (by decide +kernel), tb_in (i := 17) (by decide +kernel) (by decide +kernel), rfl, ⟨tb_in (i := 32) (by decide +kernel) (by decide +kernel), tb_in (i := 410) (by decide +kernel) (by decide +kernel), ⟨by decide, by decide, by decide +kernel⟩⟩⟩
theorem ml_I_97 : Cond.methodLink RX0 97 yX0_readsAdjusted ∈ TB := tb_in (i := 407) (by decide +kernel) (by decide +kernel)
theorem rm_I_readsCommand_I_readsAdjusted : RMok I_I_readsAdjusted I_I_readsCommand 0 0 := ⟨⟨by decide, by decide⟩, by decide, by decide⟩
theorem rc_I_readsAdjusted : RC 0 I_I_readsAdjusted := ⟨by decide, _, _, rfl⟩
theorem rm_I_readsCommand_L_advance : RMok I_L_advance I_I_readsCommand 0 0 := ⟨⟨by decide, by decide⟩, by decide, by decide⟩
theorem rm_I_readsCommand_I_readsPace : RMok I_I_readsPace I_I_readsCommand 0 0 := ⟨⟨by decide, by decide⟩, by decide, by decide⟩
theorem rm_I_readsCommand_I_readsSemicolon : RMok I_I_readsSemicolon I_I_readsCommand 0 0 := ⟨⟨by decide, by decide⟩, by decide, by decide⟩
theorem rm_I_readsCommand_I_readsWear : RMok I_I_readsWear I_I_readsCommand 0 0 := ⟨⟨by decide, by decide⟩, by decide, by decide⟩
theorem md_I_readsPin : MDv I_I_readsPin 1 := ⟨tb_in (i := 389) (by decide +kernel) (by decide +kernel), tb_in (i := 15) (by decide +kernel) (by decide +kernel), rfl, ⟨tb_in (i := 32) (by decide +kernel) (by decide +kernel), tb_in (i := 390) (by decide +kernel) (by decide +kernel), ⟨by decide, by decide, by decide +kernel⟩⟩⟩
theorem ml_I_85 : Cond.methodLink RX0 85 yX0_readsPin ∈ TB := tb_in (i := 387) (by decide +kernel) (by decide +kernel)
theorem rm_I_readsCommand_I_readsPin : RMok I_I_readsPin I_I_readsCommand 0 0 := ⟨⟨by decide, by decide⟩, by decide, by decide⟩
theorem rc_I_readsPin : RC 0 I_I_readsPin := ⟨by decide, _, _, rfl⟩
theorem md_I_readsBog : MDv I_I_readsBog 0 := ⟨tb_in (i := 379) (by decide +kernel) (by decide +kernel), tb_in (i := 14) (by decide +kernel) (by decide +kernel), rfl, ⟨tb_in (i := 32) (by decide +kernel) (by decide +kernel), tb_in (i := 380) (by decide +kernel) (by decide +kernel), ⟨by decide, by decide, by decide +kernel⟩⟩⟩
theorem ml_I_80 : Cond.methodLink RX0 80 yX0_readsBog ∈ TB := tb_in (i := 377) (by decide +kernel) (by decide +kernel)
theorem rm_I_readsCommand_I_readsBog : RMok I_I_readsBog I_I_readsCommand 0 0 := ⟨⟨by decide, by decide⟩, by decide, by decide⟩
theorem rc_I_readsBog : RC 0 I_I_readsBog := ⟨by decide, _, _, rfl⟩
theorem md_I_readsChained : MDv I_I_readsChained 0 := ⟨tb_in (i := 340) (by decide +kernel) (by decide +kernel), tb_in (i := 9) (by decide +kernel) (by decide +kernel), rfl, ⟨tb_in (i := 32) (by decide +kernel) (by decide +kernel), tb_in (i := 341) (by decide +kernel) (by decide +kernel), ⟨by decide, by decide, by decide +kernel⟩⟩⟩
theorem ml_I_75 : Cond.methodLink RX0 75 yX0_readsChained ∈ TB := tb_in (i := 338) (by decide +kernel) (by decide +kernel)
theorem rm_I_readsCommand_I_readsChained : RMok I_I_readsChained I_I_readsCommand 0 0 := ⟨⟨by decide, by decide⟩, by decide, by decide⟩
theorem rc_I_readsChained : RC 0 I_I_readsChained := ⟨by decide, _, _, rfl⟩
theorem fw_I_64 : FW RX0 64 0 2 .int := ⟨_, _, _, _, ck_0, by decide, tb_in (i := 169) (by decide +kernel) (by decide +kernel), rfl, by decide +kernel⟩
theorem tt_1_2 : tg 1 2 = 0 := by decide +kernel
theorem fl_I_64 : FL RX0 64 0 2 := ⟨_, _, _, _, ck_0, by decide, tb_in (i := 169) (by decide +kernel) (by decide +kernel)⟩
theorem sp_900 : (Int16.ofInt 900).toInt32 = 900 := by decide
theorem md_I_readsCommand : MDv I_I_readsCommand 0 := ⟨tb_in (i := 335) (by decide +kernel) (by decide +kernel), tb_in (i := 8) (by decide +kernel) (by decide +kernel), rfl, ⟨tb_in (i := 32) (by decide +kernel) (by decide +kernel), tb_in (i := 336) (by decide +kernel) (by decide +kernel), ⟨by decide, by decide, by decide +kernel⟩⟩⟩
theorem ml_I_70 : Cond.methodLink RX0 70 yX0_readsCommand ∈ TB := tb_in (i := 333) (by decide +kernel) (by decide +kernel)
theorem rm_I_readsCommands_I_readsCommand : RMok I_I_readsCommand I_I_readsCommands 0 0 := ⟨⟨by decide, by decide⟩, by decide, by decide⟩
theorem rc_I_readsCommand : RC 0 I_I_readsCommand := ⟨by decide, _, _, rfl⟩
theorem fl_S_51 : FL RX2 51 2 10 := ⟨_, _, _, _, ck_2, by decide, tb_in (i := 126) (by decide +kernel) (by decide +kernel)⟩
theorem fw_S_51 : FW RX2 51 2 10 .int := ⟨_, _, _, _, ck_2, by decide, tb_in (i := 126) (by decide +kernel) (by decide +kernel), rfl, by decide +kernel⟩
theorem fl_S_40 : FL RX2 40 2 11 := ⟨_, _, _, _, ck_2, by decide, tb_in (i := 129) (by decide +kernel) (by decide +kernel)⟩
theorem fw_S_40 : FW RX2 40 2 11 .int := ⟨_, _, _, _, ck_2, by decide, tb_in (i := 129) (by decide +kernel) (by decide +kernel), rfl, by decide +kernel⟩
theorem fl_S_47 : FL RX2 47 2 12 := ⟨_, _, _, _, ck_2, by decide, tb_in (i := 132) (by decide +kernel) (by decide +kernel)⟩
theorem sp_10000 : (Int16.ofInt 10000).toInt32 = 10000 := by decide
theorem md_S_readUnits : MDv I_S_readUnits 1 := ⟨tb_in (i := 516) (by decide +kernel) (by decide +kernel), tb_in (i := 517) (by decide +kernel) (by decide +kernel), rfl, ⟨tb_in (i := 34) (by decide +kernel) (by decide +kernel), tb_in (i := 518) (by decide +kernel) (by decide +kernel), ⟨by decide, by decide, by decide +kernel⟩⟩⟩
theorem ml_S_58 : Cond.methodLink RX2 58 yX2_readUnits ∈ TB := tb_in (i := 515) (by decide +kernel) (by decide +kernel)
theorem rm_S_slopeUnits_S_readUnits : RMok I_S_readUnits I_S_slopeUnits 0 0 := ⟨⟨by decide, by decide⟩, by decide, by decide⟩
theorem rc_S_readUnits : RC 2 I_S_readUnits := ⟨by decide, _, _, rfl⟩
theorem cj_S_62 : Cond.constantLong RX2 62 10000 ∈ TB := tb_in (i := 519) (by decide +kernel) (by decide +kernel)
theorem cj_S_64 : Cond.constantLong RX2 64 12 ∈ TB := tb_in (i := 520) (by decide +kernel) (by decide +kernel)
theorem cj_S_66 : Cond.constantLong RX2 66 1000000 ∈ TB := tb_in (i := 521) (by decide +kernel) (by decide +kernel)
theorem cn_C_357 : Cond.constant RX4 357 1073741824 ∈ TB := tb_in (i := 525) (by decide +kernel) (by decide +kernel)
theorem md_S_slopeUnits : MDv I_S_slopeUnits 1 := ⟨tb_in (i := 512) (by decide +kernel) (by decide +kernel), tb_in (i := 513) (by decide +kernel) (by decide +kernel), rfl, ⟨tb_in (i := 34) (by decide +kernel) (by decide +kernel), tb_in (i := 514) (by decide +kernel) (by decide +kernel), ⟨by decide, by decide, by decide +kernel⟩⟩⟩
theorem ml_S_68 : Cond.methodLink RX2 68 yX2_slopeUnits ∈ TB := tb_in (i := 511) (by decide +kernel) (by decide +kernel)
theorem rm_S_horizontalUnits_S_slopeUnits : RMok I_S_slopeUnits I_S_horizontalUnits 0 0 := ⟨⟨by decide, by decide⟩, by decide, by decide⟩
theorem rc_S_slopeUnits : RC 2 I_S_slopeUnits := ⟨by decide, _, _, rfl⟩
theorem md_C_root : MDs I_C_root 1 := ⟨tb_in (i := 523) (by decide +kernel) (by decide +kernel), rfl, ⟨tb_in (i := 31) (by decide +kernel) (by decide +kernel), tb_in (i := 524) (by decide +kernel) (by decide +kernel), ⟨by decide, by decide, by decide +kernel⟩⟩⟩
theorem mn_S_71 : Cond.methodLinkNest RX2 71 yX4_root "ChainSurvey" ∈ lx_tbl := List.mem_of_getElem? (i := 522) (by decide +kernel)
theorem rm_S_horizontalUnits_C_root : RMok I_C_root I_S_horizontalUnits 0 0 := ⟨⟨by decide, by decide⟩, by decide, by decide⟩
theorem sp_360 : (Int16.ofInt 360).toInt32 = 360 := by decide
theorem md_Q_floorMod : MDs I_Q_floorMod 2 := ⟨tb_in (i := 533) (by decide +kernel) (by decide +kernel), rfl, ⟨tb_in (i := 40) (by decide +kernel) (by decide +kernel), tb_in (i := 534) (by decide +kernel) (by decide +kernel), ⟨by decide, by decide, by decide +kernel⟩⟩⟩
theorem ml_C_345 : Cond.methodLink RX4 345 yJ9_floorMod_7cf53 ∈ TB := tb_in (i := 532) (by decide +kernel) (by decide +kernel)
theorem rm_C_cosine_Q_floorMod : RMok I_Q_floorMod I_C_cosine 0 0 := ⟨⟨by decide, by decide⟩, by decide, by decide⟩
theorem sp_180 : (Int16.ofInt 180).toInt32 = 180 := by decide
theorem bp_90 : (Int8.ofInt 90).toInt32 = 90 := by decide
theorem gs_C_348 : Cond.fieldLink RX4 348 RX4 "COSINES" "[I" ∈ TB := tb_in (i := 535) (by decide +kernel) (by decide +kernel)
theorem md_C_cosine : MDs I_C_cosine 1 := ⟨tb_in (i := 530) (by decide +kernel) (by decide +kernel), rfl, ⟨tb_in (i := 31) (by decide +kernel) (by decide +kernel), tb_in (i := 531) (by decide +kernel) (by decide +kernel), ⟨by decide, by decide, by decide +kernel⟩⟩⟩
theorem ml_C_236 : Cond.methodLink RX4 236 yX4_cosine ∈ TB := tb_in (i := 529) (by decide +kernel) (by decide +kernel)
theorem rm_C_sine_C_cosine : RMok I_C_cosine I_C_sine 0 0 := ⟨⟨by decide, by decide⟩, by decide, by decide⟩
theorem cj_C_351 : Cond.constantLong RX4 351 10000 ∈ TB := tb_in (i := 540) (by decide +kernel) (by decide +kernel)
theorem ck_3 : CK 3 RX3 TX3 6 tyX3 := ⟨rfl, by decide, by decide, uws_in [175, 177, 179, 181, 183, 185] (by decide +kernel), tyX3_ok, nmX3⟩
theorem fl_T_15 : FL RX3 15 3 1 := ⟨_, _, _, _, ck_3, by decide, tb_in (i := 195) (by decide +kernel) (by decide +kernel)⟩
theorem kk_25 : kd 25 = 3 := by decide +kernel
theorem tt_25_1 : tg 25 1 = 28 := by decide +kernel
theorem fl_T_33 : FL RX3 33 3 5 := ⟨_, _, _, _, ck_3, by decide, tb_in (i := 203) (by decide +kernel) (by decide +kernel)⟩
theorem tt_25_5 : tg 25 5 = 0 := by decide +kernel
theorem kk_27 : kd 27 = 10 := by decide +kernel
theorem ll_27 : ln 27 = 21 := by decide +kernel
theorem fl_T_9 : FL RX3 9 3 0 := ⟨_, _, _, _, ck_3, by decide, tb_in (i := 193) (by decide +kernel) (by decide +kernel)⟩
theorem tt_25_0 : tg 25 0 = 27 := by decide +kernel
theorem kk_26 : kd 26 = 10 := by decide +kernel
theorem ll_26 : ln 26 = 21 := by decide +kernel
theorem md_T_totalRun : MDv I_T_totalRun 0 := ⟨tb_in (i := 551) (by decide +kernel) (by decide +kernel), tb_in (i := 552) (by decide +kernel) (by decide +kernel), rfl, ⟨tb_in (i := 35) (by decide +kernel) (by decide +kernel), tb_in (i := 553) (by decide +kernel) (by decide +kernel), ⟨by decide, by decide, by decide +kernel⟩⟩⟩
theorem ml_T_65 : Cond.methodLink RX3 65 yX3_totalRun ∈ TB := tb_in (i := 550) (by decide +kernel) (by decide +kernel)
theorem rm_T_shareAt_T_totalRun : RMok I_T_totalRun I_T_shareAt 0 0 := ⟨⟨by decide, by decide⟩, by decide, by decide⟩
theorem rc_T_totalRun : RC 3 I_T_totalRun := ⟨by decide, _, _, rfl⟩
theorem fl_T_18 : FL RX3 18 3 2 := ⟨_, _, _, _, ck_3, by decide, tb_in (i := 197) (by decide +kernel) (by decide +kernel)⟩
theorem tt_25_2 : tg 25 2 = 29 := by decide +kernel
theorem kk_28 : kd 28 = 10 := by decide +kernel
theorem ll_28 : ln 28 = 21 := by decide +kernel
theorem fl_T_27 : FL RX3 27 2 9 := ⟨_, _, _, _, ck_2, by decide, tb_in (i := 123) (by decide +kernel) (by decide +kernel)⟩
theorem fw_T_33 : FW RX3 33 3 5 .int := ⟨_, _, _, _, ck_3, by decide, tb_in (i := 203) (by decide +kernel) (by decide +kernel), rfl, by decide +kernel⟩
theorem md_S_horizontalUnits : MDv I_S_horizontalUnits 1 := ⟨tb_in (i := 508) (by decide +kernel) (by decide +kernel), tb_in (i := 509) (by decide +kernel) (by decide +kernel), rfl, ⟨tb_in (i := 34) (by decide +kernel) (by decide +kernel), tb_in (i := 510) (by decide +kernel) (by decide +kernel), ⟨by decide, by decide, by decide +kernel⟩⟩⟩
theorem ml_T_34 : Cond.methodLink RX3 34 yX2_horizontalUnits ∈ TB := tb_in (i := 507) (by decide +kernel) (by decide +kernel)
theorem rm_T_follow_S_horizontalUnits : RMok I_S_horizontalUnits I_T_follow 0 0 := ⟨⟨by decide, by decide⟩, by decide, by decide⟩
theorem rc_S_horizontalUnits : RC 2 I_S_horizontalUnits := ⟨by decide, _, _, rfl⟩
theorem fl_T_38 : FL RX3 38 2 1 := ⟨_, _, _, _, ck_2, by decide, tb_in (i := 108) (by decide +kernel) (by decide +kernel)⟩
theorem md_C_sine : MDs I_C_sine 1 := ⟨tb_in (i := 527) (by decide +kernel) (by decide +kernel), rfl, ⟨tb_in (i := 31) (by decide +kernel) (by decide +kernel), tb_in (i := 528) (by decide +kernel) (by decide +kernel), ⟨by decide, by decide, by decide +kernel⟩⟩⟩
theorem mn_T_41 : Cond.methodLinkNest RX3 41 yX4_sine "ChainSurvey" ∈ lx_tbl := List.mem_of_getElem? (i := 526) (by decide +kernel)
theorem rm_T_follow_C_sine : RMok I_C_sine I_T_follow 0 0 := ⟨⟨by decide, by decide⟩, by decide, by decide⟩
theorem md_C_stepOf : MDs I_C_stepOf 2 := ⟨tb_in (i := 538) (by decide +kernel) (by decide +kernel), rfl, ⟨tb_in (i := 31) (by decide +kernel) (by decide +kernel), tb_in (i := 539) (by decide +kernel) (by decide +kernel), ⟨by decide, by decide, by decide +kernel⟩⟩⟩
theorem mn_T_44 : Cond.methodLinkNest RX3 44 yX4_stepOf "ChainSurvey" ∈ lx_tbl := List.mem_of_getElem? (i := 537) (by decide +kernel)
theorem rm_T_follow_C_stepOf : RMok I_C_stepOf I_T_follow 0 0 := ⟨⟨by decide, by decide⟩, by decide, by decide⟩
theorem mn_T_48 : Cond.methodLinkNest RX3 48 yX4_cosine "ChainSurvey" ∈ lx_tbl := List.mem_of_getElem? (i := 541) (by decide +kernel)
theorem rm_T_follow_C_cosine : RMok I_C_cosine I_T_follow 0 0 := ⟨⟨by decide, by decide⟩, by decide, by decide⟩
theorem fl_T_21 : FL RX3 21 3 3 := ⟨_, _, _, _, ck_3, by decide, tb_in (i := 199) (by decide +kernel) (by decide +kernel)⟩
theorem tt_25_3 : tg 25 3 = 30 := by decide +kernel
theorem kk_29 : kd 29 = 10 := by decide +kernel
theorem ll_29 : ln 29 = 21 := by decide +kernel
theorem fl_T_24 : FL RX3 24 3 4 := ⟨_, _, _, _, ck_3, by decide, tb_in (i := 201) (by decide +kernel) (by decide +kernel)⟩
theorem tt_25_4 : tg 25 4 = 31 := by decide +kernel
theorem kk_30 : kd 30 = 10 := by decide +kernel
theorem ll_30 : ln 30 = 21 := by decide +kernel
theorem fl_T_51 : FL RX3 51 2 12 := ⟨_, _, _, _, ck_2, by decide, tb_in (i := 133) (by decide +kernel) (by decide +kernel)⟩
theorem md_T_endEast : MDv I_T_endEast 0 := ⟨tb_in (i := 543) (by decide +kernel) (by decide +kernel), tb_in (i := 544) (by decide +kernel) (by decide +kernel), rfl, ⟨tb_in (i := 35) (by decide +kernel) (by decide +kernel), tb_in (i := 545) (by decide +kernel) (by decide +kernel), ⟨by decide, by decide, by decide +kernel⟩⟩⟩
theorem ml_T_55 : Cond.methodLink RX3 55 yX3_endEast ∈ TB := tb_in (i := 542) (by decide +kernel) (by decide +kernel)
theorem rm_T_follow_T_endEast : RMok I_T_endEast I_T_follow 0 0 := ⟨⟨by decide, by decide⟩, by decide, by decide⟩
theorem rc_T_endEast : RC 3 I_T_endEast := ⟨by decide, _, _, rfl⟩
theorem md_T_shareAt : MDv I_T_shareAt 2 := ⟨tb_in (i := 548) (by decide +kernel) (by decide +kernel), tb_in (i := 22) (by decide +kernel) (by decide +kernel), rfl, ⟨tb_in (i := 35) (by decide +kernel) (by decide +kernel), tb_in (i := 549) (by decide +kernel) (by decide +kernel), ⟨by decide, by decide, by decide +kernel⟩⟩⟩
theorem ml_T_59 : Cond.methodLink RX3 59 yX3_shareAt ∈ TB := tb_in (i := 546) (by decide +kernel) (by decide +kernel)
theorem rm_T_follow_T_shareAt : RMok I_T_shareAt I_T_follow 0 0 := ⟨⟨by decide, by decide⟩, by decide, by decide⟩
theorem rc_T_shareAt : RC 3 I_T_shareAt := ⟨by decide, _, _, rfl⟩
theorem md_T_endNorth : MDv I_T_endNorth 0 := ⟨tb_in (i := 555) (by decide +kernel) (by decide +kernel), tb_in (i := 556) (by decide +kernel) (by decide +kernel), rfl, ⟨tb_in (i := 35) (by decide +kernel) (by decide +kernel), tb_in (i := 557) (by decide +kernel) (by decide +kernel), ⟨by decide, by decide, by decide +kernel⟩⟩⟩
theorem ml_T_62 : Cond.methodLink RX3 62 yX3_endNorth ∈ TB := tb_in (i := 554) (by decide +kernel) (by decide +kernel)
theorem rm_T_follow_T_endNorth : RMok I_T_endNorth I_T_follow 0 0 := ⟨⟨by decide, by decide⟩, by decide, by decide⟩
theorem rc_T_endNorth : RC 3 I_T_endNorth := ⟨by decide, _, _, rfl⟩
theorem ml_C_353 : Cond.methodLink RX4 353 yX4_root ∈ TB := tb_in (i := 570) (by decide +kernel) (by decide +kernel)
theorem rm_C_distance_C_root : RMok I_C_root I_C_distance 0 0 := ⟨⟨by decide, by decide⟩, by decide, by decide⟩
theorem rm_T_closingDistance_T_endEast : RMok I_T_endEast I_T_closingDistance 0 0 := ⟨⟨by decide, by decide⟩, by decide, by decide⟩
theorem rm_T_closingDistance_T_endNorth : RMok I_T_endNorth I_T_closingDistance 0 0 := ⟨⟨by decide, by decide⟩, by decide, by decide⟩
theorem md_C_distance : MDs I_C_distance 2 := ⟨tb_in (i := 568) (by decide +kernel) (by decide +kernel), rfl, ⟨tb_in (i := 31) (by decide +kernel) (by decide +kernel), tb_in (i := 569) (by decide +kernel) (by decide +kernel), ⟨by decide, by decide, by decide +kernel⟩⟩⟩
theorem mn_T_68 : Cond.methodLinkNest RX3 68 yX4_distance "ChainSurvey" ∈ lx_tbl := List.mem_of_getElem? (i := 567) (by decide +kernel)
theorem rm_T_closingDistance_C_distance : RMok I_C_distance I_T_closingDistance 0 0 := ⟨⟨by decide, by decide⟩, by decide, by decide⟩
theorem rm_T_distanceOf_C_distance : RMok I_C_distance I_T_distanceOf 0 0 := ⟨⟨by decide, by decide⟩, by decide, by decide⟩
theorem ml_T_71 : Cond.methodLink RX3 71 yJ9_abs_067f4 ∈ TB := tb_in (i := 884) (by decide +kernel) (by decide +kernel)
theorem ms_absJ : Cond.static Lib.MathLoose.abs_long.x ∈ TB := tb_in (i := 885) (by decide +kernel) (by decide +kernel)
theorem mc_absJ : Cond.code Lib.MathLoose.abs_long.x Lib.MathLoose.abs_long.code 2 (some .long) ∈ TB := tb_in (i := 886) (by decide +kernel) (by decide +kernel)
theorem cj_T_77 : Cond.constantLong RX3 77 2 ∈ TB := tb_in (i := 887) (by decide +kernel) (by decide +kernel)
theorem bp_24 : (Int8.ofInt 24).toInt32 = 24 := by decide
theorem ck_4 : CK 4 RX4 TX4 15 tyX4 := ⟨rfl, by decide, by decide, uws_in [405, 407, 409, 411, 413, 415, 417, 419, 421, 423, 425, 427, 429, 431, 433] (by decide +kernel), tyX4_ok, nmX4⟩
theorem fl_C_94 : FL RX4 94 4 2 := ⟨_, _, _, _, ck_4, by decide, tb_in (i := 423) (by decide +kernel) (by decide +kernel)⟩
theorem kk_0 : kd 0 = 4 := by decide +kernel
theorem tt_0_2 : tg 0 2 = 0 := by decide +kernel
theorem fl_C_26 : FL RX4 26 4 1 := ⟨_, _, _, _, ck_4, by decide, tb_in (i := 422) (by decide +kernel) (by decide +kernel)⟩
theorem tt_0_1 : tg 0 1 = 4 := by decide +kernel
theorem fw_C_94 : FW RX4 94 4 2 .int := ⟨_, _, _, _, ck_4, by decide, tb_in (i := 423) (by decide +kernel) (by decide +kernel), rfl, by decide +kernel⟩
theorem inc_m8 (x : Int32) : x + Int32.ofInt (-8) = x + -8 := rfl
theorem md_C_appendWord : MDv I_C_appendWord 1 := ⟨tb_in (i := 686) (by decide +kernel) (by decide +kernel), tb_in (i := 24) (by decide +kernel) (by decide +kernel), rfl, ⟨tb_in (i := 31) (by decide +kernel) (by decide +kernel), tb_in (i := 687) (by decide +kernel) (by decide +kernel), ⟨by decide, by decide, by decide +kernel⟩⟩⟩
theorem ml_C_97 : Cond.methodLink RX4 97 yX4_appendWord ∈ TB := tb_in (i := 684) (by decide +kernel) (by decide +kernel)
theorem rm_C_append_C_appendWord : RMok I_C_appendWord I_C_append 0 0 := ⟨⟨by decide, by decide⟩, by decide, by decide⟩
theorem rc_C_appendWord : RC 4 I_C_appendWord := ⟨by decide, _, _, rfl⟩
theorem rm_C_truncateInput_C_isBetween : RMok I_C_isBetween I_C_truncateInput 0 0 := ⟨⟨by decide, by decide⟩, by decide, by decide⟩
theorem cl_C_104 : Cond.classLink RX4 104 "java/lang/IllegalArgumentException" ∈ TB := tb_in (i := 658) (by decide +kernel) (by decide +kernel)
theorem ini_1 : Cond.initialized "java/lang/IllegalArgumentException" ∈ TB := tb_in (i := 50) (by decide +kernel) (by decide +kernel)
theorem at_C_108 : ∀ w ∈ vx_atS RX4 108 "java/lang/IllegalArgumentException" exN, AT w := at_of (by decide +kernel)
theorem fl_C_56 : FL RX4 56 4 10 := ⟨_, _, _, _, ck_4, by decide, tb_in (i := 430) (by decide +kernel) (by decide +kernel)⟩
theorem tt_0_10 : tg 0 10 = 32 := by decide +kernel
theorem fl_C_201 : FL RX4 201 4 11 := ⟨_, _, _, _, ck_4, by decide, tb_in (i := 431) (by decide +kernel) (by decide +kernel)⟩
theorem tt_0_11 : tg 0 11 = 0 := by decide +kernel
theorem kk_31 : kd 31 = 14 := by decide +kernel
theorem ll_31 : ln 31 = 8 := by decide +kernel
theorem fl_C_39 : FL RX4 39 4 7 := ⟨_, _, _, _, ck_4, by decide, tb_in (i := 427) (by decide +kernel) (by decide +kernel)⟩
theorem tt_0_7 : tg 0 7 = 16 := by decide +kernel
theorem sv_15 : isSv 15 := by unfold isSv; decide
theorem md_S_copyFrom : MDv I_S_copyFrom 1 := ⟨tb_in (i := 418) (by decide +kernel) (by decide +kernel), tb_in (i := 419) (by decide +kernel) (by decide +kernel), rfl, ⟨tb_in (i := 34) (by decide +kernel) (by decide +kernel), tb_in (i := 420) (by decide +kernel) (by decide +kernel), ⟨by decide, by decide, by decide +kernel⟩⟩⟩
theorem ml_C_90 : Cond.methodLink RX4 90 yX2_copyFrom ∈ TB := tb_in (i := 417) (by decide +kernel) (by decide +kernel)
theorem rm_C_remember_S_copyFrom : RMok I_S_copyFrom I_C_remember 0 0 := ⟨⟨by decide, by decide⟩, by decide, by decide⟩
theorem rc_S_copyFrom : RC 2 I_S_copyFrom := ⟨by decide, _, _, rfl⟩
theorem bp_7 : (Int8.ofInt 7).toInt32 = 7 := by decide
theorem fw_C_201 : FW RX4 201 4 11 .int := ⟨_, _, _, _, ck_4, by decide, tb_in (i := 431) (by decide +kernel) (by decide +kernel), rfl, by decide +kernel⟩
theorem fl_C_196 : FL RX4 196 4 12 := ⟨_, _, _, _, ck_4, by decide, tb_in (i := 432) (by decide +kernel) (by decide +kernel)⟩
theorem tt_0_12 : tg 0 12 = 0 := by decide +kernel
theorem bp_8 : (Int8.ofInt 8).toInt32 = 8 := by decide
theorem ml_C_204 : Cond.methodLink RX4 204 yJ9_min_7cf53 ∈ TB := tb_in (i := 478) (by decide +kernel) (by decide +kernel)
theorem fw_C_196 : FW RX4 196 4 12 .int := ⟨_, _, _, _, ck_4, by decide, tb_in (i := 432) (by decide +kernel) (by decide +kernel), rfl, by decide +kernel⟩
theorem fl_C_10 : FL RX4 10 4 0 := ⟨_, _, _, _, ck_4, by decide, tb_in (i := 421) (by decide +kernel) (by decide +kernel)⟩
theorem tt_0_0 : tg 0 0 = 2 := by decide +kernel
theorem fl_C_121 : FL RX4 121 0 3 := ⟨_, _, _, _, ck_0, by decide, tb_in (i := 171) (by decide +kernel) (by decide +kernel)⟩
theorem fw_C_124 : FW RX4 124 4 3 .int := ⟨_, _, _, _, ck_4, by decide, tb_in (i := 424) (by decide +kernel) (by decide +kernel), rfl, by decide +kernel⟩
theorem tt_0_3 : tg 0 3 = 0 := by decide +kernel
theorem fl_C_127 : FL RX4 127 0 4 := ⟨_, _, _, _, ck_0, by decide, tb_in (i := 173) (by decide +kernel) (by decide +kernel)⟩
theorem fw_C_29 : FW RX4 29 4 4 .int := ⟨_, _, _, _, ck_4, by decide, tb_in (i := 425) (by decide +kernel) (by decide +kernel), rfl, by decide +kernel⟩
theorem tt_0_4 : tg 0 4 = 0 := by decide +kernel
theorem md_C_remember : MDv I_C_remember 0 := ⟨tb_in (i := 476) (by decide +kernel) (by decide +kernel), tb_in (i := 20) (by decide +kernel) (by decide +kernel), rfl, ⟨tb_in (i := 31) (by decide +kernel) (by decide +kernel), tb_in (i := 477) (by decide +kernel) (by decide +kernel), ⟨by decide, by decide, by decide +kernel⟩⟩⟩
theorem ml_C_130 : Cond.methodLink RX4 130 yX4_remember ∈ TB := tb_in (i := 474) (by decide +kernel) (by decide +kernel)
theorem rm_C_settleText_C_remember : RMok I_C_remember I_C_settleText 0 0 := ⟨⟨by decide, by decide⟩, by decide, by decide⟩
theorem rc_C_remember : RC 4 I_C_remember := ⟨by decide, _, _, rfl⟩
theorem fl_C_46 : FL RX4 46 4 8 := ⟨_, _, _, _, ck_4, by decide, tb_in (i := 428) (by decide +kernel) (by decide +kernel)⟩
theorem tt_0_8 : tg 0 8 = 5 := by decide +kernel
theorem rm_C_settleText_S_copyFrom : RMok I_S_copyFrom I_C_settleText 0 0 := ⟨⟨by decide, by decide⟩, by decide, by decide⟩
theorem kk_15 : kd 15 = 2 := by decide +kernel
theorem md_I_begin : MDv I_I_begin 1 := ⟨tb_in (i := 269) (by decide +kernel) (by decide +kernel), tb_in (i := 270) (by decide +kernel) (by decide +kernel), rfl, ⟨tb_in (i := 32) (by decide +kernel) (by decide +kernel), tb_in (i := 271) (by decide +kernel) (by decide +kernel), ⟨by decide, by decide, by decide +kernel⟩⟩⟩
theorem ml_C_79 : Cond.methodLink RX4 79 yX0_begin ∈ TB := tb_in (i := 268) (by decide +kernel) (by decide +kernel)
theorem rm_C_load_I_begin : RMok I_I_begin I_C_load 0 0 := ⟨⟨by decide, by decide⟩, by decide, by decide⟩
theorem rc_I_begin : RC 0 I_I_begin := ⟨by decide, _, _, rfl⟩
theorem md_I_readsHead : MDv I_I_readsHead 0 := ⟨tb_in (i := 291) (by decide +kernel) (by decide +kernel), tb_in (i := 292) (by decide +kernel) (by decide +kernel), rfl, ⟨tb_in (i := 32) (by decide +kernel) (by decide +kernel), tb_in (i := 293) (by decide +kernel) (by decide +kernel), ⟨by decide, by decide, by decide +kernel⟩⟩⟩
theorem ml_C_83 : Cond.methodLink RX4 83 yX0_readsHead ∈ TB := tb_in (i := 290) (by decide +kernel) (by decide +kernel)
theorem rm_C_load_I_readsHead : RMok I_I_readsHead I_C_load 0 0 := ⟨⟨by decide, by decide⟩, by decide, by decide⟩
theorem rc_I_readsHead : RC 0 I_I_readsHead := ⟨by decide, _, _, rfl⟩
theorem md_I_readsCommands : MDv I_I_readsCommands 0 := ⟨tb_in (i := 330) (by decide +kernel) (by decide +kernel), tb_in (i := 331) (by decide +kernel) (by decide +kernel), rfl, ⟨tb_in (i := 32) (by decide +kernel) (by decide +kernel), tb_in (i := 332) (by decide +kernel) (by decide +kernel), ⟨by decide, by decide, by decide +kernel⟩⟩⟩
theorem ml_C_87 : Cond.methodLink RX4 87 yX0_readsCommands ∈ TB := tb_in (i := 329) (by decide +kernel) (by decide +kernel)
theorem rm_C_load_I_readsCommands : RMok I_I_readsCommands I_C_load 0 0 := ⟨⟨by decide, by decide⟩, by decide, by decide⟩
theorem rc_I_readsCommands : RC 0 I_I_readsCommands := ⟨by decide, _, _, rfl⟩
theorem md_C_settleText : MDv I_C_settleText 1 := ⟨tb_in (i := 472) (by decide +kernel) (by decide +kernel), tb_in (i := 19) (by decide +kernel) (by decide +kernel), rfl, ⟨tb_in (i := 31) (by decide +kernel) (by decide +kernel), tb_in (i := 473) (by decide +kernel) (by decide +kernel), ⟨by decide, by decide, by decide +kernel⟩⟩⟩
theorem ml_C_111 : Cond.methodLink RX4 111 yX4_settleText ∈ TB := tb_in (i := 470) (by decide +kernel) (by decide +kernel)
theorem rm_C_load_C_settleText : RMok I_C_settleText I_C_load 0 0 := ⟨⟨by decide, by decide⟩, by decide, by decide⟩
theorem rc_C_settleText : RC 4 I_C_settleText := ⟨by decide, _, _, rfl⟩
theorem fl_C_115 : FL RX4 115 2 9 := ⟨_, _, _, _, ck_2, by decide, tb_in (i := 124) (by decide +kernel) (by decide +kernel)⟩
theorem tt_15_9 : tg 15 9 = 0 := by decide +kernel
theorem sp_544 : (Int16.ofInt 544).toInt32 = 544 := by decide
theorem ml_C_157 : Cond.methodLink RX4 157 yX2_legNamed ∈ TB := tb_in (i := 925) (by decide +kernel) (by decide +kernel)
theorem rm_C_nameForNextLeg_S_legNamed : RMok I_S_legNamed I_C_nameForNextLeg 0 0 := ⟨⟨by decide, by decide⟩, by decide, by decide⟩
theorem cl_C_152 : Cond.classLink RX4 152 "java/lang/IllegalStateException" ∈ TB := tb_in (i := 579) (by decide +kernel) (by decide +kernel)
theorem ini_2 : Cond.initialized "java/lang/IllegalStateException" ∈ TB := tb_in (i := 52) (by decide +kernel) (by decide +kernel)
theorem at_C_156 : ∀ w ∈ vx_atS RX4 156 "java/lang/IllegalStateException" exN, AT w := at_of (by decide +kernel)
theorem ml_C_133 : Cond.methodLink RX4 133 yX4_isBearing ∈ TB := tb_in (i := 918) (by decide +kernel) (by decide +kernel)
theorem rm_C_addLeg_C_isBearing : RMok I_C_isBearing I_C_addLeg 0 0 := ⟨⟨by decide, by decide⟩, by decide, by decide⟩
theorem rm_C_addLeg_C_isBetween : RMok I_C_isBetween I_C_addLeg 0 0 := ⟨⟨by decide, by decide⟩, by decide, by decide⟩
theorem md_C_nameForNextLeg : MDv I_C_nameForNextLeg 0 := ⟨tb_in (i := 922) (by decide +kernel) (by decide +kernel), tb_in (i := 27) (by decide +kernel) (by decide +kernel), rfl, ⟨tb_in (i := 31) (by decide +kernel) (by decide +kernel), tb_in (i := 923) (by decide +kernel) (by decide +kernel), ⟨by decide, by decide, by decide +kernel⟩⟩⟩
theorem ml_C_139 : Cond.methodLink RX4 139 yX4_nameForNextLeg ∈ TB := tb_in (i := 920) (by decide +kernel) (by decide +kernel)
theorem rm_C_addLeg_C_nameForNextLeg : RMok I_C_nameForNextLeg I_C_addLeg 0 0 := ⟨⟨by decide, by decide⟩, by decide, by decide⟩
theorem rc_C_nameForNextLeg : RC 4 I_C_nameForNextLeg := ⟨by decide, _, _, rfl⟩
theorem rm_C_addLeg_C_remember_1_6 : RMok I_C_remember I_C_addLeg 1 6 := ⟨⟨by decide, by decide⟩, by decide, by decide⟩
theorem ml_C_142 : Cond.methodLink RX4 142 yX2_addChained ∈ TB := tb_in (i := 927) (by decide +kernel) (by decide +kernel)
theorem rm_C_addLeg_S_addChained_1_6 : RMok I_S_addChained I_C_addLeg 1 6 := ⟨⟨by decide, by decide⟩, by decide, by decide⟩
theorem rm_C_addBog_C_isBearing : RMok I_C_isBearing I_C_addBog 0 0 := ⟨⟨by decide, by decide⟩, by decide, by decide⟩
theorem rm_C_addBog_C_isBetween : RMok I_C_isBetween I_C_addBog 0 0 := ⟨⟨by decide, by decide⟩, by decide, by decide⟩
theorem rm_C_addBog_C_nameForNextLeg : RMok I_C_nameForNextLeg I_C_addBog 0 0 := ⟨⟨by decide, by decide⟩, by decide, by decide⟩
theorem rm_C_addBog_C_remember_1_6 : RMok I_C_remember I_C_addBog 1 6 := ⟨⟨by decide, by decide⟩, by decide, by decide⟩
theorem ml_C_148 : Cond.methodLink RX4 148 yX2_addPaced ∈ TB := tb_in (i := 946) (by decide +kernel) (by decide +kernel)
theorem rm_C_addBog_S_addPaced_1_6 : RMok I_S_addPaced I_C_addBog 1 6 := ⟨⟨by decide, by decide⟩, by decide, by decide⟩
theorem rm_C_requireLeg_C_isBetween : RMok I_C_isBetween I_C_requireLeg 0 0 := ⟨⟨by decide, by decide⟩, by decide, by decide⟩
theorem cl_C_336 : Cond.classLink RX4 336 "java/lang/IndexOutOfBoundsException" ∈ TB := tb_in (i := 711) (by decide +kernel) (by decide +kernel)
theorem ini_3 : Cond.initialized "java/lang/IndexOutOfBoundsException" ∈ TB := tb_in (i := 51) (by decide +kernel) (by decide +kernel)
theorem at_C_340 : ∀ w ∈ vx_atS RX4 340 "java/lang/IndexOutOfBoundsException" exN, AT w := at_of (by decide +kernel)
theorem md_C_requireLeg : MDv I_C_requireLeg 1 := ⟨tb_in (i := 751) (by decide +kernel) (by decide +kernel), tb_in (i := 26) (by decide +kernel) (by decide +kernel), rfl, ⟨tb_in (i := 31) (by decide +kernel) (by decide +kernel), tb_in (i := 752) (by decide +kernel) (by decide +kernel), ⟨by decide, by decide, by decide +kernel⟩⟩⟩
theorem ml_C_163 : Cond.methodLink RX4 163 yX4_requireLeg ∈ TB := tb_in (i := 749) (by decide +kernel) (by decide +kernel)
theorem rm_C_dropPin_C_requireLeg : RMok I_C_requireLeg I_C_dropPin 0 0 := ⟨⟨by decide, by decide⟩, by decide, by decide⟩
theorem rc_C_requireLeg : RC 4 I_C_requireLeg := ⟨by decide, _, _, rfl⟩
theorem ml_C_166 : Cond.methodLink RX4 166 yX2_canDrop ∈ TB := tb_in (i := 958) (by decide +kernel) (by decide +kernel)
theorem rm_C_dropPin_S_canDrop_1_6 : RMok I_S_canDrop I_C_dropPin 1 6 := ⟨⟨by decide, by decide⟩, by decide, by decide⟩
theorem rm_C_dropPin_C_remember_1_6 : RMok I_C_remember I_C_dropPin 1 6 := ⟨⟨by decide, by decide⟩, by decide, by decide⟩
theorem fl_C_171 : FL RX4 171 2 6 := ⟨_, _, _, _, ck_2, by decide, tb_in (i := 119) (by decide +kernel) (by decide +kernel)⟩
theorem tt_15_6 : tg 15 6 = 23 := by decide +kernel
theorem kk_22 : kd 22 = 10 := by decide +kernel
theorem ll_22 : ln 22 = 20 := by decide +kernel
theorem rm_C_findPin_C_requireLeg : RMok I_C_requireLeg I_C_findPin 0 0 := ⟨⟨by decide, by decide⟩, by decide, by decide⟩
theorem ml_C_175 : Cond.methodLink RX4 175 yX2_canFind ∈ TB := tb_in (i := 978) (by decide +kernel) (by decide +kernel)
theorem rm_C_findPin_S_canFind_1_6 : RMok I_S_canFind I_C_findPin 1 6 := ⟨⟨by decide, by decide⟩, by decide, by decide⟩
theorem rm_C_findPin_C_remember_1_6 : RMok I_C_remember I_C_findPin 1 6 := ⟨⟨by decide, by decide⟩, by decide, by decide⟩
theorem rm_C_removeLast_C_remember : RMok I_C_remember I_C_removeLast 0 0 := ⟨⟨by decide, by decide⟩, by decide, by decide⟩
theorem fw_C_115 : FW RX4 115 2 9 .int := ⟨_, _, _, _, ck_2, by decide, tb_in (i := 124) (by decide +kernel) (by decide +kernel), rfl, by decide +kernel⟩
theorem rm_C_setWear_C_isBetween : RMok I_C_isBetween I_C_setWear 0 0 := ⟨⟨by decide, by decide⟩, by decide, by decide⟩
theorem fl_C_184 : FL RX4 184 2 10 := ⟨_, _, _, _, ck_2, by decide, tb_in (i := 128) (by decide +kernel) (by decide +kernel)⟩
theorem tt_15_10 : tg 15 10 = 0 := by decide +kernel
theorem rm_C_setWear_C_remember : RMok I_C_remember I_C_setWear 0 0 := ⟨⟨by decide, by decide⟩, by decide, by decide⟩
theorem fw_C_184 : FW RX4 184 2 10 .int := ⟨_, _, _, _, ck_2, by decide, tb_in (i := 128) (by decide +kernel) (by decide +kernel), rfl, by decide +kernel⟩
theorem rm_C_setPace_C_isBetween : RMok I_C_isBetween I_C_setPace 0 0 := ⟨⟨by decide, by decide⟩, by decide, by decide⟩
theorem fl_C_189 : FL RX4 189 2 11 := ⟨_, _, _, _, ck_2, by decide, tb_in (i := 131) (by decide +kernel) (by decide +kernel)⟩
theorem tt_15_11 : tg 15 11 = 0 := by decide +kernel
theorem rm_C_setPace_C_remember : RMok I_C_remember I_C_setPace 0 0 := ⟨⟨by decide, by decide⟩, by decide, by decide⟩
theorem fw_C_189 : FW RX4 189 2 11 .int := ⟨_, _, _, _, ck_2, by decide, tb_in (i := 131) (by decide +kernel) (by decide +kernel), rfl, by decide +kernel⟩
theorem fl_C_192 : FL RX4 192 2 12 := ⟨_, _, _, _, ck_2, by decide, tb_in (i := 135) (by decide +kernel) (by decide +kernel)⟩
theorem tt_15_12 : tg 15 12 = 0 := by decide +kernel
theorem rm_C_setAdjusted_C_remember : RMok I_C_remember I_C_setAdjusted 0 0 := ⟨⟨by decide, by decide⟩, by decide, by decide⟩
theorem fw_C_192 : FW RX4 192 2 12 .boolean := ⟨_, _, _, _, ck_2, by decide, tb_in (i := 135) (by decide +kernel) (by decide +kernel), rfl, by decide +kernel⟩
theorem rm_C_undo_S_copyFrom : RMok I_S_copyFrom I_C_undo 0 0 := ⟨⟨by decide, by decide⟩, by decide, by decide⟩
theorem rm_C_bearing_C_requireLeg : RMok I_C_requireLeg I_C_bearing 0 0 := ⟨⟨by decide, by decide⟩, by decide, by decide⟩
theorem fl_C_215 : FL RX4 215 2 1 := ⟨_, _, _, _, ck_2, by decide, tb_in (i := 109) (by decide +kernel) (by decide +kernel)⟩
theorem tt_15_1 : tg 15 1 = 18 := by decide +kernel
theorem kk_17 : kd 17 = 10 := by decide +kernel
theorem ll_17 : ln 17 = 20 := by decide +kernel
theorem rm_C_pins_C_requireLeg : RMok I_C_requireLeg I_C_pins 0 0 := ⟨⟨by decide, by decide⟩, by decide, by decide⟩
theorem fl_C_218 : FL RX4 218 2 4 := ⟨_, _, _, _, ck_2, by decide, tb_in (i := 115) (by decide +kernel) (by decide +kernel)⟩
theorem tt_15_4 : tg 15 4 = 21 := by decide +kernel
theorem kk_20 : kd 20 = 10 := by decide +kernel
theorem ll_20 : ln 20 = 20 := by decide +kernel
theorem rm_C_droppedPins_C_requireLeg : RMok I_C_requireLeg I_C_droppedPins 0 0 := ⟨⟨by decide, by decide⟩, by decide, by decide⟩
theorem rm_C_readLength_C_requireLeg : RMok I_C_requireLeg I_C_readLength 0 0 := ⟨⟨by decide, by decide⟩, by decide, by decide⟩
theorem ml_C_221 : Cond.methodLink RX4 221 yX2_readUnits ∈ TB := tb_in (i := 784) (by decide +kernel) (by decide +kernel)
theorem rm_C_readLength_S_readUnits_1_6 : RMok I_S_readUnits I_C_readLength 1 6 := ⟨⟨by decide, by decide⟩, by decide, by decide⟩
theorem rm_C_slopeLength_C_requireLeg : RMok I_C_requireLeg I_C_slopeLength 0 0 := ⟨⟨by decide, by decide⟩, by decide, by decide⟩
theorem ml_C_224 : Cond.methodLink RX4 224 yX2_slopeUnits ∈ TB := tb_in (i := 769) (by decide +kernel) (by decide +kernel)
theorem rm_C_slopeLength_S_slopeUnits_1_6 : RMok I_S_slopeUnits I_C_slopeLength 1 6 := ⟨⟨by decide, by decide⟩, by decide, by decide⟩
theorem rm_C_horizontalLength_C_requireLeg : RMok I_C_requireLeg I_C_horizontalLength 0 0 := ⟨⟨by decide, by decide⟩, by decide, by decide⟩
theorem ml_C_227 : Cond.methodLink RX4 227 yX2_horizontalUnits ∈ TB := tb_in (i := 754) (by decide +kernel) (by decide +kernel)
theorem rm_C_horizontalLength_S_horizontalUnits_1_6 : RMok I_S_horizontalUnits I_C_horizontalLength 1 6 := ⟨⟨by decide, by decide⟩, by decide, by decide⟩
theorem rm_C_eastStep_C_requireLeg : RMok I_C_requireLeg I_C_eastStep 0 0 := ⟨⟨by decide, by decide⟩, by decide, by decide⟩
theorem rm_C_eastStep_S_horizontalUnits_1_6 : RMok I_S_horizontalUnits I_C_eastStep 1 6 := ⟨⟨by decide, by decide⟩, by decide, by decide⟩
theorem ml_C_230 : Cond.methodLink RX4 230 yX4_sine ∈ TB := tb_in (i := 799) (by decide +kernel) (by decide +kernel)
theorem rm_C_eastStep_C_sine_1_6 : RMok I_C_sine I_C_eastStep 1 6 := ⟨⟨by decide, by decide⟩, by decide, by decide⟩
theorem ml_C_233 : Cond.methodLink RX4 233 yX4_stepOf ∈ TB := tb_in (i := 800) (by decide +kernel) (by decide +kernel)
theorem rm_C_eastStep_C_stepOf_1_6 : RMok I_C_stepOf I_C_eastStep 1 6 := ⟨⟨by decide, by decide⟩, by decide, by decide⟩
theorem rm_C_northStep_C_requireLeg : RMok I_C_requireLeg I_C_northStep 0 0 := ⟨⟨by decide, by decide⟩, by decide, by decide⟩
theorem rm_C_northStep_S_horizontalUnits_1_6 : RMok I_S_horizontalUnits I_C_northStep 1 6 := ⟨⟨by decide, by decide⟩, by decide, by decide⟩
theorem rm_C_northStep_C_cosine_1_6 : RMok I_C_cosine I_C_northStep 1 6 := ⟨⟨by decide, by decide⟩, by decide, by decide⟩
theorem rm_C_northStep_C_stepOf_1_6 : RMok I_C_stepOf I_C_northStep 1 6 := ⟨⟨by decide, by decide⟩, by decide, by decide⟩
theorem rm_C_tallies_C_requireLeg : RMok I_C_requireLeg I_C_tallies 0 0 := ⟨⟨by decide, by decide⟩, by decide, by decide⟩
theorem rm_C_isBog_C_requireLeg : RMok I_C_requireLeg I_C_isBog 0 0 := ⟨⟨by decide, by decide⟩, by decide, by decide⟩
theorem fl_C_239 : FL RX4 239 2 2 := ⟨_, _, _, _, ck_2, by decide, tb_in (i := 111) (by decide +kernel) (by decide +kernel)⟩
theorem tt_15_2 : tg 15 2 = 19 := by decide +kernel
theorem kk_18 : kd 18 = 12 := by decide +kernel
theorem ll_18 : ln 18 = 20 := by decide +kernel
theorem rm_C_nameByte_C_requireLeg : RMok I_C_requireLeg I_C_nameByte 0 0 := ⟨⟨by decide, by decide⟩, by decide, by decide⟩
theorem fl_C_242 : FL RX4 242 2 0 := ⟨_, _, _, _, ck_2, by decide, tb_in (i := 106) (by decide +kernel) (by decide +kernel)⟩
theorem tt_15_0 : tg 15 0 = 17 := by decide +kernel
theorem kk_16 : kd 16 = 10 := by decide +kernel
theorem ll_16 : ln 16 = 20 := by decide +kernel
theorem md_C_nameLength : MDs I_C_nameLength 1 := ⟨tb_in (i := 936) (by decide +kernel) (by decide +kernel), rfl, ⟨tb_in (i := 31) (by decide +kernel) (by decide +kernel), tb_in (i := 937) (by decide +kernel) (by decide +kernel), ⟨by decide, by decide, by decide +kernel⟩⟩⟩
theorem ml_C_245 : Cond.methodLink RX4 245 yX4_nameLength ∈ TB := tb_in (i := 935) (by decide +kernel) (by decide +kernel)
theorem rm_C_nameByte_C_nameLength_1_6 : RMok I_C_nameLength I_C_nameByte 1 6 := ⟨⟨by decide, by decide⟩, by decide, by decide⟩
theorem rm_C_nameByte_C_isBetween_1_6 : RMok I_C_isBetween I_C_nameByte 1 6 := ⟨⟨by decide, by decide⟩, by decide, by decide⟩
theorem bp_31 : (Int8.ofInt 31).toInt32 = 31 := by decide
theorem rm_C_requireStation_C_isBetween : RMok I_C_isBetween I_C_requireStation 0 0 := ⟨⟨by decide, by decide⟩, by decide, by decide⟩
theorem fl_C_52 : FL RX4 52 4 9 := ⟨_, _, _, _, ck_4, by decide, tb_in (i := 429) (by decide +kernel) (by decide +kernel)⟩
theorem tt_0_9 : tg 0 9 = 26 := by decide +kernel
theorem md_T_follow : MDv I_T_follow 1 := ⟨tb_in (i := 504) (by decide +kernel) (by decide +kernel), tb_in (i := 505) (by decide +kernel) (by decide +kernel), rfl, ⟨tb_in (i := 35) (by decide +kernel) (by decide +kernel), tb_in (i := 506) (by decide +kernel) (by decide +kernel), ⟨by decide, by decide, by decide +kernel⟩⟩⟩
theorem ml_C_301 : Cond.methodLink RX4 301 yX3_follow ∈ TB := tb_in (i := 503) (by decide +kernel) (by decide +kernel)
theorem rm_C_followed_T_follow : RMok I_T_follow I_C_followed 0 0 := ⟨⟨by decide, by decide⟩, by decide, by decide⟩
theorem rc_T_follow : RC 3 I_T_follow := ⟨by decide, _, _, rfl⟩
theorem md_C_requireStation : MDv I_C_requireStation 1 := ⟨tb_in (i := 709) (by decide +kernel) (by decide +kernel), tb_in (i := 25) (by decide +kernel) (by decide +kernel), rfl, ⟨tb_in (i := 31) (by decide +kernel) (by decide +kernel), tb_in (i := 710) (by decide +kernel) (by decide +kernel), ⟨by decide, by decide, by decide +kernel⟩⟩⟩
theorem ml_C_252 : Cond.methodLink RX4 252 yX4_requireStation ∈ TB := tb_in (i := 707) (by decide +kernel) (by decide +kernel)
theorem rm_C_rawEast_C_requireStation : RMok I_C_requireStation I_C_rawEast 0 0 := ⟨⟨by decide, by decide⟩, by decide, by decide⟩
theorem rc_C_requireStation : RC 4 I_C_requireStation := ⟨by decide, _, _, rfl⟩
theorem md_C_followed : MDv I_C_followed 0 := ⟨tb_in (i := 501) (by decide +kernel) (by decide +kernel), tb_in (i := 21) (by decide +kernel) (by decide +kernel), rfl, ⟨tb_in (i := 31) (by decide +kernel) (by decide +kernel), tb_in (i := 502) (by decide +kernel) (by decide +kernel), ⟨by decide, by decide, by decide +kernel⟩⟩⟩
theorem ml_C_255 : Cond.methodLink RX4 255 yX4_followed ∈ TB := tb_in (i := 499) (by decide +kernel) (by decide +kernel)
theorem rm_C_rawEast_C_followed_1_6 : RMok I_C_followed I_C_rawEast 1 6 := ⟨⟨by decide, by decide⟩, by decide, by decide⟩
theorem rc_C_followed : RC 4 I_C_followed := ⟨by decide, _, _, rfl⟩
theorem fl_C_259 : FL RX4 259 3 1 := ⟨_, _, _, _, ck_3, by decide, tb_in (i := 196) (by decide +kernel) (by decide +kernel)⟩
theorem rm_C_rawNorth_C_requireStation : RMok I_C_requireStation I_C_rawNorth 0 0 := ⟨⟨by decide, by decide⟩, by decide, by decide⟩
theorem rm_C_rawNorth_C_followed_1_6 : RMok I_C_followed I_C_rawNorth 1 6 := ⟨⟨by decide, by decide⟩, by decide, by decide⟩
theorem fl_C_262 : FL RX4 262 3 2 := ⟨_, _, _, _, ck_3, by decide, tb_in (i := 198) (by decide +kernel) (by decide +kernel)⟩
theorem rm_C_east_C_requireStation : RMok I_C_requireStation I_C_east 0 0 := ⟨⟨by decide, by decide⟩, by decide, by decide⟩
theorem rm_C_east_C_followed_1_6 : RMok I_C_followed I_C_east 1 6 := ⟨⟨by decide, by decide⟩, by decide, by decide⟩
theorem fl_C_265 : FL RX4 265 3 3 := ⟨_, _, _, _, ck_3, by decide, tb_in (i := 200) (by decide +kernel) (by decide +kernel)⟩
theorem rm_C_north_C_requireStation : RMok I_C_requireStation I_C_north 0 0 := ⟨⟨by decide, by decide⟩, by decide, by decide⟩
theorem rm_C_north_C_followed_1_6 : RMok I_C_followed I_C_north 1 6 := ⟨⟨by decide, by decide⟩, by decide, by decide⟩
theorem fl_C_268 : FL RX4 268 3 4 := ⟨_, _, _, _, ck_3, by decide, tb_in (i := 202) (by decide +kernel) (by decide +kernel)⟩
theorem rm_C_run_C_requireStation : RMok I_C_requireStation I_C_run 0 0 := ⟨⟨by decide, by decide⟩, by decide, by decide⟩
theorem rm_C_run_C_followed_1_6 : RMok I_C_followed I_C_run 1 6 := ⟨⟨by decide, by decide⟩, by decide, by decide⟩
theorem fl_C_271 : FL RX4 271 3 0 := ⟨_, _, _, _, ck_3, by decide, tb_in (i := 194) (by decide +kernel) (by decide +kernel)⟩
theorem rm_C_distanceFromStart_C_requireStation : RMok I_C_requireStation I_C_distanceFromStart 0 0 := ⟨⟨by decide, by decide⟩, by decide, by decide⟩
theorem rm_C_distanceFromStart_C_followed_1_6 : RMok I_C_followed I_C_distanceFromStart 1 6 := ⟨⟨by decide, by decide⟩, by decide, by decide⟩
theorem md_T_distanceOf : MDv I_T_distanceOf 1 := ⟨tb_in (i := 844) (by decide +kernel) (by decide +kernel), tb_in (i := 845) (by decide +kernel) (by decide +kernel), rfl, ⟨tb_in (i := 35) (by decide +kernel) (by decide +kernel), tb_in (i := 846) (by decide +kernel) (by decide +kernel), ⟨by decide, by decide, by decide +kernel⟩⟩⟩
theorem ml_C_274 : Cond.methodLink RX4 274 yX3_distanceOf ∈ TB := tb_in (i := 843) (by decide +kernel) (by decide +kernel)
theorem rm_C_distanceFromStart_T_distanceOf_1_6 : RMok I_T_distanceOf I_C_distanceFromStart 1 6 := ⟨⟨by decide, by decide⟩, by decide, by decide⟩
theorem rc_T_distanceOf : RC 3 I_T_distanceOf := ⟨by decide, _, _, rfl⟩
theorem rm_C_perimeter_C_followed : RMok I_C_followed I_C_perimeter 0 0 := ⟨⟨by decide, by decide⟩, by decide, by decide⟩
theorem ml_C_277 : Cond.methodLink RX4 277 yX3_totalRun ∈ TB := tb_in (i := 558) (by decide +kernel) (by decide +kernel)
theorem rm_C_perimeter_T_totalRun : RMok I_T_totalRun I_C_perimeter 0 0 := ⟨⟨by decide, by decide⟩, by decide, by decide⟩
theorem rm_C_closingEast_C_followed : RMok I_C_followed I_C_closingEast 0 0 := ⟨⟨by decide, by decide⟩, by decide, by decide⟩
theorem ml_C_280 : Cond.methodLink RX4 280 yX3_endEast ∈ TB := tb_in (i := 858) (by decide +kernel) (by decide +kernel)
theorem rm_C_closingEast_T_endEast : RMok I_T_endEast I_C_closingEast 0 0 := ⟨⟨by decide, by decide⟩, by decide, by decide⟩
theorem rm_C_closingNorth_C_followed : RMok I_C_followed I_C_closingNorth 0 0 := ⟨⟨by decide, by decide⟩, by decide, by decide⟩
theorem ml_C_283 : Cond.methodLink RX4 283 yX3_endNorth ∈ TB := tb_in (i := 863) (by decide +kernel) (by decide +kernel)
theorem rm_C_closingNorth_T_endNorth : RMok I_T_endNorth I_C_closingNorth 0 0 := ⟨⟨by decide, by decide⟩, by decide, by decide⟩
theorem rm_C_misclosure_C_followed : RMok I_C_followed I_C_misclosure 0 0 := ⟨⟨by decide, by decide⟩, by decide, by decide⟩
theorem md_T_closingDistance : MDv I_T_closingDistance 0 := ⟨tb_in (i := 564) (by decide +kernel) (by decide +kernel), tb_in (i := 565) (by decide +kernel) (by decide +kernel), rfl, ⟨tb_in (i := 35) (by decide +kernel) (by decide +kernel), tb_in (i := 566) (by decide +kernel) (by decide +kernel), ⟨by decide, by decide, by decide +kernel⟩⟩⟩
theorem ml_C_286 : Cond.methodLink RX4 286 yX3_closingDistance ∈ TB := tb_in (i := 563) (by decide +kernel) (by decide +kernel)
theorem rm_C_misclosure_T_closingDistance : RMok I_T_closingDistance I_C_misclosure 0 0 := ⟨⟨by decide, by decide⟩, by decide, by decide⟩
theorem rc_T_closingDistance : RC 3 I_T_closingDistance := ⟨by decide, _, _, rfl⟩
theorem rm_C_precision_C_followed : RMok I_C_followed I_C_precision 0 0 := ⟨⟨by decide, by decide⟩, by decide, by decide⟩
theorem rm_C_precision_T_closingDistance : RMok I_T_closingDistance I_C_precision 0 0 := ⟨⟨by decide, by decide⟩, by decide, by decide⟩
theorem rm_C_precision_T_totalRun : RMok I_T_totalRun I_C_precision 0 0 := ⟨⟨by decide, by decide⟩, by decide, by decide⟩
theorem ml_C_358 : Cond.methodLink RX4 358 yJ9_max_7cf53 ∈ TB := tb_in (i := 897) (by decide +kernel) (by decide +kernel)
theorem ms_max : Cond.static Lib.Math.max.name ∈ TB := tb_in (i := 898) (by decide +kernel) (by decide +kernel)
theorem mc_max : Cond.code Lib.Math.max.name Lib.Math.max.code 2 (some .int) ∈ TB := tb_in (i := 899) (by decide +kernel) (by decide +kernel)
theorem rm_C_width_C_followed : RMok I_C_followed I_C_width 0 0 := ⟨⟨by decide, by decide⟩, by decide, by decide⟩
theorem fl_C_289 : FL RX4 289 3 5 := ⟨_, _, _, _, ck_3, by decide, tb_in (i := 204) (by decide +kernel) (by decide +kernel)⟩
theorem md_C_spread : MDs I_C_spread 2 := ⟨tb_in (i := 895) (by decide +kernel) (by decide +kernel), rfl, ⟨tb_in (i := 31) (by decide +kernel) (by decide +kernel), tb_in (i := 896) (by decide +kernel) (by decide +kernel), ⟨by decide, by decide, by decide +kernel⟩⟩⟩
theorem ml_C_290 : Cond.methodLink RX4 290 yX4_spread ∈ TB := tb_in (i := 894) (by decide +kernel) (by decide +kernel)
theorem rm_C_width_C_spread : RMok I_C_spread I_C_width 0 0 := ⟨⟨by decide, by decide⟩, by decide, by decide⟩
theorem rm_C_height_C_followed : RMok I_C_followed I_C_height 0 0 := ⟨⟨by decide, by decide⟩, by decide, by decide⟩
theorem rm_C_height_C_spread : RMok I_C_spread I_C_height 0 0 := ⟨⟨by decide, by decide⟩, by decide, by decide⟩
theorem rm_C_farthestStation_C_followed : RMok I_C_followed I_C_farthestStation 0 0 := ⟨⟨by decide, by decide⟩, by decide, by decide⟩
theorem rm_C_farthestStation_T_distanceOf : RMok I_T_distanceOf I_C_farthestStation 0 0 := ⟨⟨by decide, by decide⟩, by decide, by decide⟩
theorem rm_C_longestLeg_S_horizontalUnits : RMok I_S_horizontalUnits I_C_longestLeg 0 0 := ⟨⟨by decide, by decide⟩, by decide, by decide⟩
theorem rm_C_bogLength_S_horizontalUnits : RMok I_S_horizontalUnits I_C_bogLength 0 0 := ⟨⟨by decide, by decide⟩, by decide, by decide⟩
theorem rm_C_area_C_followed : RMok I_C_followed I_C_area 0 0 := ⟨⟨by decide, by decide⟩, by decide, by decide⟩
theorem md_T_enclosedArea : MDv I_T_enclosedArea 0 := ⟨tb_in (i := 881) (by decide +kernel) (by decide +kernel), tb_in (i := 882) (by decide +kernel) (by decide +kernel), rfl, ⟨tb_in (i := 35) (by decide +kernel) (by decide +kernel), tb_in (i := 883) (by decide +kernel) (by decide +kernel), ⟨by decide, by decide, by decide +kernel⟩⟩⟩
theorem ml_C_294 : Cond.methodLink RX4 294 yX3_enclosedArea ∈ TB := tb_in (i := 880) (by decide +kernel) (by decide +kernel)
theorem rm_C_area_T_enclosedArea : RMok I_T_enclosedArea I_C_area 0 0 := ⟨⟨by decide, by decide⟩, by decide, by decide⟩
theorem rc_T_enclosedArea : RC 3 I_T_enclosedArea := ⟨by decide, _, _, rfl⟩
theorem rm_C_misclosureWithPin_S_canDrop : RMok I_S_canDrop I_C_misclosureWithPin 0 0 := ⟨⟨by decide, by decide⟩, by decide, by decide⟩
theorem rm_C_misclosureWithPin_S_copyFrom : RMok I_S_copyFrom I_C_misclosureWithPin 0 0 := ⟨⟨by decide, by decide⟩, by decide, by decide⟩
theorem rm_C_misclosureWithPin_T_follow : RMok I_T_follow I_C_misclosureWithPin 0 0 := ⟨⟨by decide, by decide⟩, by decide, by decide⟩
theorem rm_C_misclosureWithPin_T_closingDistance : RMok I_T_closingDistance I_C_misclosureWithPin 0 0 := ⟨⟨by decide, by decide⟩, by decide, by decide⟩
theorem rm_C_misclosureIfDropped_C_requireLeg : RMok I_C_requireLeg I_C_misclosureIfDropped 0 0 := ⟨⟨by decide, by decide⟩, by decide, by decide⟩
theorem md_C_misclosureWithPin : MDv I_C_misclosureWithPin 1 := ⟨tb_in (i := 969) (by decide +kernel) (by decide +kernel), tb_in (i := 28) (by decide +kernel) (by decide +kernel), rfl, ⟨tb_in (i := 31) (by decide +kernel) (by decide +kernel), tb_in (i := 970) (by decide +kernel) (by decide +kernel), ⟨by decide, by decide, by decide +kernel⟩⟩⟩
theorem ml_C_298 : Cond.methodLink RX4 298 yX4_misclosureWithPin ∈ TB := tb_in (i := 967) (by decide +kernel) (by decide +kernel)
theorem rm_C_misclosureIfDropped_C_misclosureWithPin_1_6 : RMok I_C_misclosureWithPin I_C_misclosureIfDropped 1 6 := ⟨⟨by decide, by decide⟩, by decide, by decide⟩
theorem rc_C_misclosureWithPin : RC 4 I_C_misclosureWithPin := ⟨by decide, _, _, rfl⟩
theorem rm_C_suspectLeg_C_followed : RMok I_C_followed I_C_suspectLeg 0 0 := ⟨⟨by decide, by decide⟩, by decide, by decide⟩
theorem rm_C_suspectLeg_T_closingDistance : RMok I_T_closingDistance I_C_suspectLeg 0 0 := ⟨⟨by decide, by decide⟩, by decide, by decide⟩
theorem rm_C_suspectLeg_C_misclosureWithPin : RMok I_C_misclosureWithPin I_C_suspectLeg 0 0 := ⟨⟨by decide, by decide⟩, by decide, by decide⟩
theorem ml_C_314 : Cond.methodLink RX4 314 yX4_distance ∈ TB := tb_in (i := 996) (by decide +kernel) (by decide +kernel)
theorem rm_C_misclosureWithPace_C_distance : RMok I_C_distance I_C_misclosureWithPace 0 0 := ⟨⟨by decide, by decide⟩, by decide, by decide⟩
theorem fl_C_311 : FL RX4 311 2 3 := ⟨_, _, _, _, ck_2, by decide, tb_in (i := 113) (by decide +kernel) (by decide +kernel)⟩
theorem tt_15_3 : tg 15 3 = 20 := by decide +kernel
theorem kk_19 : kd 19 = 10 := by decide +kernel
theorem ll_19 : ln 19 = 20 := by decide +kernel
theorem rm_C_misclosureWithPace_C_sine : RMok I_C_sine I_C_misclosureWithPace 0 0 := ⟨⟨by decide, by decide⟩, by decide, by decide⟩
theorem rm_C_misclosureWithPace_C_stepOf : RMok I_C_stepOf I_C_misclosureWithPace 0 0 := ⟨⟨by decide, by decide⟩, by decide, by decide⟩
theorem rm_C_misclosureWithPace_C_cosine : RMok I_C_cosine I_C_misclosureWithPace 0 0 := ⟨⟨by decide, by decide⟩, by decide, by decide⟩
theorem md_S_hasBog : MDv I_S_hasBog 0 := ⟨tb_in (i := 989) (by decide +kernel) (by decide +kernel), tb_in (i := 990) (by decide +kernel) (by decide +kernel), rfl, ⟨tb_in (i := 34) (by decide +kernel) (by decide +kernel), tb_in (i := 991) (by decide +kernel) (by decide +kernel), ⟨by decide, by decide, by decide +kernel⟩⟩⟩
theorem ml_C_304 : Cond.methodLink RX4 304 yX2_hasBog ∈ TB := tb_in (i := 988) (by decide +kernel) (by decide +kernel)
theorem rm_C_bestPace_S_hasBog : RMok I_S_hasBog I_C_bestPace 0 0 := ⟨⟨by decide, by decide⟩, by decide, by decide⟩
theorem rc_S_hasBog : RC 2 I_S_hasBog := ⟨by decide, _, _, rfl⟩
theorem md_C_misclosureWithPace : MDv I_C_misclosureWithPace 3 := ⟨tb_in (i := 994) (by decide +kernel) (by decide +kernel), tb_in (i := 29) (by decide +kernel) (by decide +kernel), rfl, ⟨tb_in (i := 31) (by decide +kernel) (by decide +kernel), tb_in (i := 995) (by decide +kernel) (by decide +kernel), ⟨by decide, by decide, by decide +kernel⟩⟩⟩
theorem ml_C_307 : Cond.methodLink RX4 307 yX4_misclosureWithPace ∈ TB := tb_in (i := 992) (by decide +kernel) (by decide +kernel)
theorem rm_C_bestPace_C_misclosureWithPace : RMok I_C_misclosureWithPace I_C_bestPace 0 0 := ⟨⟨by decide, by decide⟩, by decide, by decide⟩
theorem rc_C_misclosureWithPace : RC 4 I_C_misclosureWithPace := ⟨by decide, _, _, rfl⟩
theorem bp_101 : (Int8.ofInt 101).toInt32 = 101 := by decide
theorem rm_C_bestPace_S_horizontalUnits : RMok I_S_horizontalUnits I_C_bestPace 0 0 := ⟨⟨by decide, by decide⟩, by decide, by decide⟩
theorem rm_C_bestPace_C_sine : RMok I_C_sine I_C_bestPace 0 0 := ⟨⟨by decide, by decide⟩, by decide, by decide⟩
theorem rm_C_bestPace_C_stepOf : RMok I_C_stepOf I_C_bestPace 0 0 := ⟨⟨by decide, by decide⟩, by decide, by decide⟩
theorem rm_C_bestPace_C_cosine : RMok I_C_cosine I_C_bestPace 0 0 := ⟨⟨by decide, by decide⟩, by decide, by decide⟩
theorem rm_C_inconsistencies_C_followed : RMok I_C_followed I_C_inconsistencies 0 0 := ⟨⟨by decide, by decide⟩, by decide, by decide⟩
theorem rm_C_inconsistencies_T_totalRun : RMok I_T_totalRun I_C_inconsistencies 0 0 := ⟨⟨by decide, by decide⟩, by decide, by decide⟩
theorem rm_C_inconsistencies_S_horizontalUnits : RMok I_S_horizontalUnits I_C_inconsistencies 0 0 := ⟨⟨by decide, by decide⟩, by decide, by decide⟩
theorem rm_C_inconsistencies_S_slopeUnits : RMok I_S_slopeUnits I_C_inconsistencies 0 0 := ⟨⟨by decide, by decide⟩, by decide, by decide⟩
