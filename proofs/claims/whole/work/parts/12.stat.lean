/-! what the tables say, word by word -/
theorem ic_0 : Int32.ofInt 0 = 0 := by decide
theorem ck_2 : CK 2 RX2 TX2 13 tyX2 := ⟨rfl, by decide, by decide, uws_in [102, 104, 106, 108, 110, 112, 114, 116, 118, 120, 122, 124, 126] (by decide +kernel), tyX2_ok, nmX2⟩
theorem fw_S_44 : FW RX2 44 2 9 .int := ⟨_, _, _, _, ck_2, by decide, tb_in (i := 168) (by decide +kernel) (by decide +kernel), rfl, by decide +kernel⟩
theorem fw_S_47 : FW RX2 47 2 12 .boolean := ⟨_, _, _, _, ck_2, by decide, tb_in (i := 178) (by decide +kernel) (by decide +kernel), rfl, by decide +kernel⟩
theorem fl_S_44 : FL RX2 44 2 9 := ⟨_, _, _, _, ck_2, by decide, tb_in (i := 168) (by decide +kernel) (by decide +kernel)⟩
theorem fl_S_51 : FL RX2 51 2 10 := ⟨_, _, _, _, ck_2, by decide, tb_in (i := 172) (by decide +kernel) (by decide +kernel)⟩
theorem fw_S_51 : FW RX2 51 2 10 .int := ⟨_, _, _, _, ck_2, by decide, tb_in (i := 172) (by decide +kernel) (by decide +kernel), rfl, by decide +kernel⟩
theorem fl_S_40 : FL RX2 40 2 11 := ⟨_, _, _, _, ck_2, by decide, tb_in (i := 175) (by decide +kernel) (by decide +kernel)⟩
theorem fw_S_40 : FW RX2 40 2 11 .int := ⟨_, _, _, _, ck_2, by decide, tb_in (i := 175) (by decide +kernel) (by decide +kernel), rfl, by decide +kernel⟩
theorem fl_S_47 : FL RX2 47 2 12 := ⟨_, _, _, _, ck_2, by decide, tb_in (i := 178) (by decide +kernel) (by decide +kernel)⟩
theorem bp_20 : (Int8.ofInt 20).toInt32 = 20 := by decide
theorem fl_S_9 : FL RX2 9 2 0 := ⟨_, _, _, _, ck_2, by decide, tb_in (i := 151) (by decide +kernel) (by decide +kernel)⟩
theorem fl_S_15 : FL RX2 15 2 1 := ⟨_, _, _, _, ck_2, by decide, tb_in (i := 153) (by decide +kernel) (by decide +kernel)⟩
theorem fl_S_18 : FL RX2 18 2 2 := ⟨_, _, _, _, ck_2, by decide, tb_in (i := 156) (by decide +kernel) (by decide +kernel)⟩
theorem fl_S_22 : FL RX2 22 2 3 := ⟨_, _, _, _, ck_2, by decide, tb_in (i := 158) (by decide +kernel) (by decide +kernel)⟩
theorem fl_S_25 : FL RX2 25 2 4 := ⟨_, _, _, _, ck_2, by decide, tb_in (i := 160) (by decide +kernel) (by decide +kernel)⟩
theorem fl_S_28 : FL RX2 28 2 5 := ⟨_, _, _, _, ck_2, by decide, tb_in (i := 162) (by decide +kernel) (by decide +kernel)⟩
theorem fl_S_31 : FL RX2 31 2 6 := ⟨_, _, _, _, ck_2, by decide, tb_in (i := 163) (by decide +kernel) (by decide +kernel)⟩
theorem fl_S_34 : FL RX2 34 2 7 := ⟨_, _, _, _, ck_2, by decide, tb_in (i := 166) (by decide +kernel) (by decide +kernel)⟩
theorem fl_S_37 : FL RX2 37 2 8 := ⟨_, _, _, _, ck_2, by decide, tb_in (i := 167) (by decide +kernel) (by decide +kernel)⟩
theorem inc_1 (x : Int32) : x + Int32.ofInt 1 = x + 1 := rfl
theorem ic_1 : Int32.ofInt 1 = 1 := by decide
theorem bp_15 : (Int8.ofInt 15).toInt32 = 15 := by decide
theorem md_S_addChained : MDv I_S_addChained 7 := ⟨tb_in (i := 420) (by decide +kernel) (by decide +kernel), tb_in (i := 421) (by decide +kernel) (by decide +kernel), rfl, ⟨tb_in (i := 84) (by decide +kernel) (by decide +kernel), tb_in (i := 422) (by decide +kernel) (by decide +kernel), ⟨by decide, by decide, by decide +kernel⟩⟩⟩
theorem ml_S_54 : Cond.methodLink RX2 54 yX2_addChained ∈ TB := tb_in (i := 432) (by decide +kernel) (by decide +kernel)
theorem rm_S_addPaced_S_addChained : RMok I_S_addChained I_S_addPaced 0 0 := ⟨⟨by decide, by decide⟩, by decide, by decide⟩
theorem rc_S_addChained : RC 2 I_S_addChained := ⟨by decide, _, _, rfl⟩
theorem ic_m1 : Int32.ofInt (-1) = -1 := by decide
theorem bp_9 : (Int8.ofInt 9).toInt32 = 9 := by decide
theorem sp_10000 : (Int16.ofInt 10000).toInt32 = 10000 := by decide
theorem bp_100 : (Int8.ofInt 100).toInt32 = 100 := by decide
theorem md_S_readUnits : MDv I_S_readUnits 1 := ⟨tb_in (i := 602) (by decide +kernel) (by decide +kernel), tb_in (i := 603) (by decide +kernel) (by decide +kernel), rfl, ⟨tb_in (i := 84) (by decide +kernel) (by decide +kernel), tb_in (i := 604) (by decide +kernel) (by decide +kernel), ⟨by decide, by decide, by decide +kernel⟩⟩⟩
theorem ml_S_58 : Cond.methodLink RX2 58 yX2_readUnits ∈ TB := tb_in (i := 601) (by decide +kernel) (by decide +kernel)
theorem rm_S_slopeUnits_S_readUnits : RMok I_S_readUnits I_S_slopeUnits 0 0 := ⟨⟨by decide, by decide⟩, by decide, by decide⟩
theorem rc_S_readUnits : RC 2 I_S_readUnits := ⟨by decide, _, _, rfl⟩
theorem cj_S_62 : Cond.constantLong RX2 62 10000 ∈ TB := tb_in (i := 605) (by decide +kernel) (by decide +kernel)
theorem cj_S_64 : Cond.constantLong RX2 64 12 ∈ TB := tb_in (i := 606) (by decide +kernel) (by decide +kernel)
theorem cj_S_66 : Cond.constantLong RX2 66 1000000 ∈ TB := tb_in (i := 607) (by decide +kernel) (by decide +kernel)
theorem cn_C_357 : Cond.constant RX4 357 1073741824 ∈ TB := tb_in (i := 611) (by decide +kernel) (by decide +kernel)
theorem md_S_slopeUnits : MDv I_S_slopeUnits 1 := ⟨tb_in (i := 598) (by decide +kernel) (by decide +kernel), tb_in (i := 599) (by decide +kernel) (by decide +kernel), rfl, ⟨tb_in (i := 84) (by decide +kernel) (by decide +kernel), tb_in (i := 600) (by decide +kernel) (by decide +kernel), ⟨by decide, by decide, by decide +kernel⟩⟩⟩
theorem ml_S_68 : Cond.methodLink RX2 68 yX2_slopeUnits ∈ TB := tb_in (i := 597) (by decide +kernel) (by decide +kernel)
theorem rm_S_horizontalUnits_S_slopeUnits : RMok I_S_slopeUnits I_S_horizontalUnits 0 0 := ⟨⟨by decide, by decide⟩, by decide, by decide⟩
theorem rc_S_slopeUnits : RC 2 I_S_slopeUnits := ⟨by decide, _, _, rfl⟩
theorem md_C_root : MDs I_C_root 1 := ⟨tb_in (i := 609) (by decide +kernel) (by decide +kernel), rfl, ⟨tb_in (i := 81) (by decide +kernel) (by decide +kernel), tb_in (i := 610) (by decide +kernel) (by decide +kernel), ⟨by decide, by decide, by decide +kernel⟩⟩⟩
theorem mn_S_71 : Cond.methodLinkNest RX2 71 yX4_root "ChainSurvey" ∈ lw_tbl := List.mem_of_getElem? (i := 608) (by decide +kernel)
theorem rm_S_horizontalUnits_C_root : RMok I_C_root I_S_horizontalUnits 0 0 := ⟨⟨by decide, by decide⟩, by decide, by decide⟩
